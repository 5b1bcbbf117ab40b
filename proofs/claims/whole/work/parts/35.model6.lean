/-! ===== DigestCachesModel: the settings ===== -/
def SI (I : MI) (k : Nat) : MI := stI I 21 0 (nI (kv k))
def SX (k : Nat) (r X : Row) : Row := svW 556 k (sp r X)
def SY (k : Nat) (m Y : Msk) : Msk := svW 30 k (sq m Y)
theorem MF_SI {I : MI} {k : Nat} (h : MF I) : MF (SI I k) := fun f hf => by
  unfold SI
  rw [stI_r (by decide), stI_r (by decide)]
  exact h f hf
theorem rFg_part {q : Row} {a b d : Nat} : va_up (va_up (fillF (fillF q a d 0) b d 0) (a + d) 0) (b + d) 0 = fillF (fillF q a (d + 1) 0) b (d + 1) 0 := by
  funext j
  unfold va_up fillF
  repeat' split
  all_goals first | rfl | (exfalso; omega)
theorem mRs_all {m : Msk} : mRs 5 m = fillF m 0 30 0 := by
  funext j
  unfold mRs mRs mRs mRs mRs mRs mFg
  by_cases h : j < 30
  · rw [fillF_in (Nat.zero_le _) (by omega)]
    unfold fillF va_up
    dsimp only
    repeat' split
    all_goals first | rfl | (exfalso; omega)
  · rw [fillF_out (by omega), fillF_out (by omega), va_up_ne _ _ (by omega), fillF_out (by omega), va_up_ne _ _ (by omega), fillF_out (by omega), va_up_ne _ _ (by omega), fillF_out (by omega), va_up_ne _ _ (by omega), fillF_out (by omega), va_up_ne _ _ (by omega)]
section B35
variable {l : Launch} {I : MI} {L : ML} {R : MR} {r X : Row} {m Y : Msk} {k : Nat} {TR : Row}
theorem ok_sv (hR : RS R) (hk : I 21 0 = nI k) (hk4 : k ≤ 4) : Ok l yX8_saves cX8_saves 2 none 1 0 0 [.ref 278] (mm I r X) (mL L m Y) R 287 (eqP (none) (mm (SI I k) r (SX k r X)) (mL L m (SY k m Y)) R 287) := m_saves hR hk hk4 rfl rfl
theorem e_setFilters_no {a b : Int32} (h : (a < nI 8 ∨ nI 64 < a) ∨ (b < nI 1 ∨ nI 4 < b)) : Ok l yX8_setFilters cX8_setFilters 6 (some .int) 3 0 0 [.ref 278, .int a, .int b] I L R 287 (eqP (some (.int (-3))) I L R 287) := by
  refine Ok.ofV [some (.ref 278), some (.int a), some (.int b), none, none, none] rfl (by decide) (Nat.le_of_ble_eq_true rfl) ?_
  refine v_iload_n (pc' := 1) dX8_setFilters_0 rfl rfl ?_
  refine v_bipush (v := nI 8) (pc' := 3) dX8_setFilters_1 rfl (by decide) ?_
  refine v_bipush (v := nI 64) (pc' := 5) dX8_setFilters_3 rfl (by decide) ?_
  refine v_cS3i (pc' := 8) dX8_setFilters_5 rfl cs_X8_47 (Nat.le_of_ble_eq_true rfl) rfl (m_in) ?_
  refine v_if_eq (pc' := 11) (tgt := 20) dX8_setFilters_8 rfl (by decide) (fun hb => ?_) (fun hb => ?_)
  · refine v_bipush (v := -3) (pc' := 22) dX8_setFilters_20 rfl (by decide) ?_
    exact v_iret dX8_setFilters_22 rfl (Nat.le_refl _) (Nat.le_refl _) ⟨rfl, rfl, rfl, rfl, rfl⟩
  · refine v_iload_n (pc' := 12) dX8_setFilters_11 rfl rfl ?_
    refine v_iconst (v := nI 1) (pc' := 13) dX8_setFilters_12 rfl (by decide) ?_
    refine v_iconst (v := nI 4) (pc' := 14) dX8_setFilters_13 rfl (by decide) ?_
    refine v_cS3i (pc' := 17) dX8_setFilters_14 rfl cs_X8_47 (Nat.le_of_ble_eq_true rfl) rfl (m_in) ?_
    refine v_if_ne (pc' := 20) (tgt := 23) dX8_setFilters_17 rfl (by decide) (fun hc => ?_) (fun hc => ?_)
    · exact absurd (h.resolve_left (fun z => hb (ite10.mpr z))) (fun z => hc (ite10.mpr z))
    · refine v_bipush (v := -3) (pc' := 22) dX8_setFilters_20 rfl (by decide) ?_
      exact v_iret dX8_setFilters_22 rfl (Nat.le_refl _) (Nat.le_refl _) ⟨rfl, rfl, rfl, rfl, rfl⟩
theorem e_setFilters {M K : Nat} {ta : Int32} {TM : Msk} (hR : RS R) (hF : MF I) (hk : I 21 0 = nI k) (hk4 : k ≤ 4) (hI : Inv r) (h1 : 8 ≤ M) (h2 : M ≤ 64) (h3 : 1 ≤ K) (h4 : K ≤ 4) (hta : r 0 = ta) (hTR : rFil M K r = TR) (hTM : mRs 5 m = TM) : Ok l yX8_setFilters cX8_setFilters 6 (some .int) 3 0 0 [.ref 278, .int (nI M), .int (nI K)] (mm I r X) (mL L m Y) R 287 (eqP (some (.int ta)) (mm (SI I k) TR (SX k r X)) (mL L TM (SY k m Y)) R 287) := by
  have hm := fil_IM (r := r) h1 h2 h3 h4
  have hir : ∀ c, c < 5 → IS (va_up (va_up r 0 (nI M)) 1 (nI K)) c := fun c hc => IS_of (hI.2.1 c hc).1 (fun j h1 h2 => by rw [va_up_ne _ _ (by omega), va_up_ne _ _ (by omega)])
  unfold rFil at hTR
  rw [mRs_all] at hTM
  refine Ok.ofV [some (.ref 278), some (.int (nI M)), some (.int (nI K)), none, none, none] rfl (by decide) (Nat.le_of_ble_eq_true rfl) ?_
  refine v_iload_n (pc' := 1) dX8_setFilters_0 rfl rfl ?_
  refine v_bipush (v := nI 8) (pc' := 3) dX8_setFilters_1 rfl (by decide) ?_
  refine v_bipush (v := nI 64) (pc' := 5) dX8_setFilters_3 rfl (by decide) ?_
  refine v_cS3i (pc' := 8) dX8_setFilters_5 rfl cs_X8_47 (Nat.le_of_ble_eq_true rfl) rfl (m_in) ?_
  refine v_if_eq (pc' := 11) (tgt := 20) dX8_setFilters_8 rfl (by decide) (fun hb => ?_) (fun hb => ?_)
  · exact absurd (ite10.mp hb) (inr h1 h2 (by decide))
  · refine v_iload_n (pc' := 12) dX8_setFilters_11 rfl rfl ?_
    refine v_iconst (v := nI 1) (pc' := 13) dX8_setFilters_12 rfl (by decide) ?_
    refine v_iconst (v := nI 4) (pc' := 14) dX8_setFilters_13 rfl (by decide) ?_
    refine v_cS3i (pc' := 17) dX8_setFilters_14 rfl cs_X8_47 (Nat.le_of_ble_eq_true rfl) rfl (m_in) ?_
    refine v_if_ne (pc' := 20) (tgt := 23) dX8_setFilters_17 rfl (by decide) (fun hc => ?_) (fun hc => ?_)
    · refine v_aload_n (pc' := 24) dX8_setFilters_23 rfl rfl ?_
      refine v_cV0v (pc' := 27) dX8_setFilters_24 rfl cv_X8_81 kp_M (Nat.le_of_ble_eq_true rfl) rfl (ok_sv hR hk hk4) ?_
      have hF := MF_SI (k := k) hF
      refine v_aload_n (pc' := 28) dX8_setFilters_27 rfl rfl ?_
      refine v_getQ (pc' := 31) dX8_setFilters_28 rfl gf_X8_7 kp_M rfl (rf_M_row hR) ?_
      refine v_iconst (v := nI 0) (pc' := 32) dX8_setFilters_31 rfl (by decide) ?_
      refine v_ial (pc' := 33) dX8_setFilters_32 rfl kp_row (Nat.zero_add _) rfl (by omega) ?_
      rw [mm_at (by decide), hta]
      refine v_istore_n3 (pc' := 34) dX8_setFilters_33 rfl (by decide) rfl ?_
      refine v_aload_n (pc' := 35) dX8_setFilters_34 rfl rfl ?_
      refine v_getQ (pc' := 38) dX8_setFilters_35 rfl gf_X8_7 kp_M rfl (rf_M_row hR) ?_
      refine v_iconst (v := nI 0) (pc' := 39) dX8_setFilters_38 rfl (by decide) ?_
      refine v_iload_n (pc' := 40) dX8_setFilters_39 rfl rfl ?_
      refine v_ias (pc' := 41) dX8_setFilters_40 rfl kp_row (Nat.zero_add _) rfl (by omega) ?_
      refine v_aload_n (pc' := 42) dX8_setFilters_41 rfl rfl ?_
      refine v_getQ (pc' := 45) dX8_setFilters_42 rfl gf_X8_7 kp_M rfl (rf_M_row hR) ?_
      refine v_iconst (v := nI 1) (pc' := 46) dX8_setFilters_45 rfl (by decide) ?_
      refine v_iload_n (pc' := 47) dX8_setFilters_46 rfl rfl ?_
      refine v_ias (pc' := 48) dX8_setFilters_47 rfl kp_row (Nat.zero_add _) rfl (by omega) ?_
      refine v_iconst (v := nI 0) (pc' := 49) dX8_setFilters_48 rfl (by decide) ?_
      refine v_istore4 (pc' := 51) dX8_setFilters_49 rfl (by decide) rfl ?_
      rw [mm_st (by decide), mm_st (by decide)]
      generalize va_up (va_up r 0 (nI M)) 1 (nI K) = q0 at hm hir hTR
      have l3 : ∀ (n d : Nat) (T : Msk) (v5 : Option Value), d + n = 30 → T = fillF m 0 d 0 → V l yX8_setFilters cX8_setFilters 6 (some .int) (rmd 3 0 0) (QM 0 0 (eqP (some (.int ta)) (mm (SI I k) TR (SX k r X)) (mL L TM (SY k m Y)) R 287)) (fun _ _ => True) 120 [some (.ref 278), some (.int (nI M)), some (.int (nI K)), some (.int ta), some (.int (nI d)), v5] [] (mm (SI I k) TR (SX k r X)) (mL L T (SY k m Y)) R 287 0 0 := by
        intro n
        induction n with
        | zero =>
          intro d T v5 hd hT
          refine v_iload (pc' := 122) dX8_setFilters_120 rfl rfl ?_
          refine v_bipush (v := nI 30) (pc' := 124) dX8_setFilters_122 rfl (by decide) ?_
          refine v_icmp_ge (pc' := 127) (tgt := 141) dX8_setFilters_124 rfl (by decide) (fun hb => ?_) (fun hb => ?_)
          · refine v_iload_n (pc' := 142) dX8_setFilters_141 rfl rfl ?_
            exact v_iret dX8_setFilters_142 rfl (Nat.le_refl _) (Nat.le_refl _) ⟨rfl, rfl, by rw [hT, show d = 30 by omega, hTM], rfl, rfl⟩
          · exact absurd (nI_le (by omega) (by omega)) hb
        | succ n ih =>
          intro d T v5 hd hT
          refine v_iload (pc' := 122) dX8_setFilters_120 rfl rfl ?_
          refine v_bipush (v := nI 30) (pc' := 124) dX8_setFilters_122 rfl (by decide) ?_
          refine v_icmp_ge (pc' := 127) (tgt := 141) dX8_setFilters_124 rfl (by decide) (fun hb => ?_) (fun hb => ?_)
          · exact absurd hb (nI_ge (by omega) (by omega))
          · refine v_aload_n (pc' := 128) dX8_setFilters_127 rfl rfl ?_
            refine v_getQ (pc' := 131) dX8_setFilters_128 rfl gf_X8_13 kp_M rfl (rf_M_mask hR) ?_
            refine v_iload (pc' := 133) dX8_setFilters_131 rfl rfl ?_
            refine v_lconst (v := 0) (pc' := 134) dX8_setFilters_133 rfl (by decide) ?_
            refine v_las (pc' := 135) dX8_setFilters_134 rfl kp_mask (Nat.zero_add _) rfl (by omega) ?_
            refine v_iinc4 (pc' := 138) dX8_setFilters_135 rfl (by decide) rfl (inc_nI _) ?_
            refine v_goto (tgt := 120) dX8_setFilters_138 (by decide) ?_
            rw [mL_st (by omega)]
            refine ih (d + 1) _ _ (by omega) ?_
            have := fillF_succ m 0 d (0 : Int64)
            rw [Nat.zero_add] at this
            rw [hT, this]
      have loop : ∀ (n c : Nat) (q : Row) (v5 : Option Value), c + n = 5 → q = rRs c q0 → V l yX8_setFilters cX8_setFilters 6 (some .int) (rmd 3 0 0) (QM 0 0 (eqP (some (.int ta)) (mm (SI I k) TR (SX k r X)) (mL L TM (SY k m Y)) R 287)) (fun _ _ => True) 51 [some (.ref 278), some (.int (nI M)), some (.int (nI K)), some (.int ta), some (.int (nI c)), v5] [] (mm (SI I k) q (SX k r X)) (mL L m (SY k m Y)) R 287 0 0 := by
        intro n
        induction n with
        | zero =>
          intro c q v5 hcn hq
          refine v_iload (pc' := 53) dX8_setFilters_51 rfl rfl ?_
          refine v_iconst (v := nI 5) (pc' := 54) dX8_setFilters_53 rfl (by decide) ?_
          refine v_icmp_ge (pc' := 57) (tgt := 117) dX8_setFilters_54 rfl (by decide) (fun hb => ?_) (fun hb => ?_)
          · refine v_iconst (v := nI 0) (pc' := 118) dX8_setFilters_117 rfl (by decide) ?_
            refine v_istore4 (pc' := 120) dX8_setFilters_118 rfl (by decide) rfl ?_
            rw [hq, show c = 5 by omega, hTR]
            exact l3 30 0 m _ (by omega) (fillF_0 _ _ _).symm
          · exact absurd (nI_le (by omega) (by omega)) hb
        | succ n ih =>
          intro c q v5 hcn hq
          have hc5 : c < 5 := by omega
          obtain ⟨z1, z2⟩ := rRs_out hm c
          rw [← hq] at z1 z2
          refine v_iload (pc' := 53) dX8_setFilters_51 rfl rfl ?_
          refine v_iconst (v := nI 5) (pc' := 54) dX8_setFilters_53 rfl (by decide) ?_
          refine v_icmp_ge (pc' := 57) (tgt := 117) dX8_setFilters_54 rfl (by decide) (fun hb => ?_) (fun hb => ?_)
          · exact absurd hb (nI_ge (by omega) (by omega))
          · refine v_aload_n (pc' := 58) dX8_setFilters_57 rfl rfl ?_
            refine v_iload (pc' := 60) dX8_setFilters_58 rfl rfl ?_
            refine v_cV1v (pc' := 63) dX8_setFilters_60 rfl cv_X8_84 kp_M (Nat.le_of_ble_eq_true rfl) rfl (m_countsAnew hR hF hc5 z1 (IS_of (hir c hc5) (fun j h1 h2 => z2 j (by omega))) rfl) ?_
            refine v_aload_n (pc' := 64) dX8_setFilters_63 rfl rfl ?_
            refine v_iload (pc' := 66) dX8_setFilters_64 rfl rfl ?_
            refine v_bipush (v := nI 82) (pc' := 68) dX8_setFilters_66 rfl (by decide) ?_
            refine v_iconst (v := nI 0) (pc' := 69) dX8_setFilters_68 rfl (by decide) ?_
            refine v_cV3v (pc' := 72) dX8_setFilters_69 rfl cv_X8_35 kp_M (Nat.le_of_ble_eq_true rfl) rfl (m_sets (w := 82) (j := 88 + 110 * c) hR rfl (by omega)) ?_
            refine v_iconst (v := nI 0) (pc' := 73) dX8_setFilters_72 rfl (by decide) ?_
            refine v_istore5 (pc' := 75) dX8_setFilters_73 rfl (by decide) rfl ?_
            generalize hq1 : va_up (rNew c q) (88 + 110 * c) (nI 0) = q1
            have inner : ∀ (n2 d : Nat) (p : Row), d + n2 = 5 → p = fillF (fillF q1 (106 + 110 * c) d 0) (111 + 110 * c) d 0 → V l yX8_setFilters cX8_setFilters 6 (some .int) (rmd 3 0 0) (QM 0 0 (eqP (some (.int ta)) (mm (SI I k) TR (SX k r X)) (mL L TM (SY k m Y)) R 287)) (fun _ _ => True) 75 [some (.ref 278), some (.int (nI M)), some (.int (nI K)), some (.int ta), some (.int (nI c)), some (.int (nI d))] [] (mm (SI I k) p (SX k r X)) (mL L m (SY k m Y)) R 287 0 0 := by
              intro n2
              induction n2 with
              | zero =>
                intro d p hd hp
                refine v_iload (pc' := 77) dX8_setFilters_75 rfl rfl ?_
                refine v_iconst (v := nI 5) (pc' := 78) dX8_setFilters_77 rfl (by decide) ?_
                refine v_icmp_ge (pc' := 81) (tgt := 111) dX8_setFilters_78 rfl (by decide) (fun hb => ?_) (fun hb => ?_)
                · refine v_iinc4 (pc' := 114) dX8_setFilters_111 rfl (by decide) rfl (inc_nI _) ?_
                  refine v_goto (tgt := 51) dX8_setFilters_114 (by decide) ?_
                  refine ih (c + 1) _ _ (by omega) ?_
                  rw [hp, show d = 5 by omega, ← hq1, hq]
                  rfl
                · exact absurd (nI_le (by omega) (by omega)) hb
              | succ n2 jh =>
                intro d p hd hp
                refine v_iload (pc' := 77) dX8_setFilters_75 rfl rfl ?_
                refine v_iconst (v := nI 5) (pc' := 78) dX8_setFilters_77 rfl (by decide) ?_
                refine v_icmp_ge (pc' := 81) (tgt := 111) dX8_setFilters_78 rfl (by decide) (fun hb => ?_) (fun hb => ?_)
                · exact absurd hb (nI_ge (by omega) (by omega))
                · refine v_aload_n (pc' := 82) dX8_setFilters_81 rfl rfl ?_
                  refine v_iload (pc' := 84) dX8_setFilters_82 rfl rfl ?_
                  refine v_bipush (v := nI 100) (pc' := 86) dX8_setFilters_84 rfl (by decide) ?_
                  refine v_iload (pc' := 88) dX8_setFilters_86 rfl rfl ?_
                  refine v_iadd (pc' := 89) dX8_setFilters_88 rfl ?_
                  refine v_iconst (v := nI 0) (pc' := 90) dX8_setFilters_89 rfl (by decide) ?_
                  refine v_cV3v (pc' := 93) dX8_setFilters_90 rfl cv_X8_35 kp_M (Nat.le_of_ble_eq_true rfl) rfl (m_sets (w := 100 + d) (j := 106 + 110 * c + d) hR (nI_add _ _) (by omega)) ?_
                  refine v_aload_n (pc' := 94) dX8_setFilters_93 rfl rfl ?_
                  refine v_iload (pc' := 96) dX8_setFilters_94 rfl rfl ?_
                  refine v_bipush (v := nI 105) (pc' := 98) dX8_setFilters_96 rfl (by decide) ?_
                  refine v_iload (pc' := 100) dX8_setFilters_98 rfl rfl ?_
                  refine v_iadd (pc' := 101) dX8_setFilters_100 rfl ?_
                  refine v_iconst (v := nI 0) (pc' := 102) dX8_setFilters_101 rfl (by decide) ?_
                  refine v_cV3v (pc' := 105) dX8_setFilters_102 rfl cv_X8_35 kp_M (Nat.le_of_ble_eq_true rfl) rfl (m_sets (w := 105 + d) (j := 111 + 110 * c + d) hR (nI_add _ _) (by omega)) ?_
                  refine v_iinc5 (pc' := 108) dX8_setFilters_105 rfl (by decide) rfl (inc_nI _) ?_
                  refine v_goto (tgt := 75) dX8_setFilters_108 (by decide) ?_
                  refine jh (d + 1) _ (by omega) ?_
                  rw [hp, nI_0, rFg_part]
            exact inner 5 0 q1 (by omega) (by rw [fillF_0, fillF_0])
      exact loop 5 0 q0 _ (by omega) rfl
    · exact absurd (ite10.mp hc) (inr h3 h4 (by decide))
theorem e_setCapacity_no1 {a b : Int32} (h : noC a) : Ok l yX8_setCapacity cX8_setCapacity 5 (some .int) 3 0 0 [.ref 278, .int a, .int b] I L R 287 (eqP (some (.int (-2))) I L R 287) := by
  refine Ok.ofV [some (.ref 278), some (.int a), some (.int b), none, none] rfl (by decide) (Nat.le_of_ble_eq_true rfl) ?_
  refine v_iload_n (pc' := 1) dX8_setCapacity_0 rfl rfl ?_
  refine v_cS1i (pc' := 4) dX8_setCapacity_1 rfl cs_X8_88 (Nat.le_of_ble_eq_true rfl) rfl (m_isCache) ?_
  refine v_if_ne (pc' := 7) (tgt := 10) dX8_setCapacity_4 rfl (by decide) (fun hb => ?_) (fun hb => ?_)
  · exact absurd (ite10.mpr h) hb
  · refine v_bipush (v := -2) (pc' := 9) dX8_setCapacity_7 rfl (by decide) ?_
    exact v_iret dX8_setCapacity_9 rfl (Nat.le_refl _) (Nat.le_refl _) ⟨rfl, rfl, rfl, rfl, rfl⟩
theorem e_setCapacity_no2 {c : Nat} {b : Int32} (hc : c < 5) (h : b < nI 1 ∨ nI 16 < b) : Ok l yX8_setCapacity cX8_setCapacity 5 (some .int) 3 0 0 [.ref 278, .int (nI c), .int b] I L R 287 (eqP (some (.int (-3))) I L R 287) := by
  refine Ok.ofV [some (.ref 278), some (.int (nI c)), some (.int b), none, none] rfl (by decide) (Nat.le_of_ble_eq_true rfl) ?_
  refine v_iload_n (pc' := 1) dX8_setCapacity_0 rfl rfl ?_
  refine v_cS1i (pc' := 4) dX8_setCapacity_1 rfl cs_X8_88 (Nat.le_of_ble_eq_true rfl) rfl (m_isCache) ?_
  refine v_if_ne (pc' := 7) (tgt := 10) dX8_setCapacity_4 rfl (by decide) (fun hb => ?_) (fun hb => ?_)
  · refine v_iload_n (pc' := 11) dX8_setCapacity_10 rfl rfl ?_
    refine v_iconst (v := nI 1) (pc' := 12) dX8_setCapacity_11 rfl (by decide) ?_
    refine v_bipush (v := nI 16) (pc' := 14) dX8_setCapacity_12 rfl (by decide) ?_
    refine v_cS3i (pc' := 17) dX8_setCapacity_14 rfl cs_X8_47 (Nat.le_of_ble_eq_true rfl) rfl (m_in) ?_
    refine v_if_ne (pc' := 20) (tgt := 23) dX8_setCapacity_17 rfl (by decide) (fun hq => ?_) (fun hq => ?_)
    · exact absurd (ite10.mpr h) hq
    · refine v_bipush (v := -3) (pc' := 22) dX8_setCapacity_20 rfl (by decide) ?_
      exact v_iret dX8_setCapacity_22 rfl (Nat.le_refl _) (Nat.le_refl _) ⟨rfl, rfl, rfl, rfl, rfl⟩
  · exact absurd (ite10.mp hb) (ncC hc)
theorem e_setCapacity {c cap : Nat} {ta : Int32} (hR : RS R) (hF : MF I) (hk : I 21 0 = nI k) (hk4 : k ≤ 4) (hI : Inv r) (hc : c < 5) (h1 : 1 ≤ cap) (h2 : cap ≤ 16) (hta : r (6 + 110 * c) = ta) (hTR : rLim c cap r = TR) : Ok l yX8_setCapacity cX8_setCapacity 5 (some .int) 3 0 0 [.ref 278, .int (nI c), .int (nI cap)] (mm I r X) (mL L m Y) R 287 (eqP (some (.int ta)) (mm (SI I k) TR (SX k r X)) (mL L m (SY k m Y)) R 287) := by
  have hm := hI.1
  have hi := (hI.2.1 c hc).1
  have e1 : ∀ j, j ≠ 6 + 110 * c → va_up r (6 + 110 * c) (nI cap) j = r j := fun j hj => va_up_ne _ _ hj
  have eS : gS (va_up r (6 + 110 * c) (nI cap)) c = gS r c := by unfold gS; rw [e1 _ (by omega)]
  have hm' : IM (va_up r (6 + 110 * c) (nI cap)) := IM_of hm (e1 _ (by omega)) (e1 _ (by omega))
  have hi' : IS (va_up r (6 + 110 * c) (nI cap)) c := by
    obtain ⟨i1, i6, i7, i8⟩ := hi
    refine ⟨by rw [eS, e1 _ (by omega)]; exact i1, by omega, fun k hk => ?_, fun a b ha hb h => ?_⟩
    · rw [eS] at hk
      have e2 : gO (va_up r (6 + 110 * c) (nI cap)) c k = gO r c k := by unfold gO; rw [e1 _ (by omega)]
      rw [e2, e1 _ (by omega)]
      exact i7 k hk
    · rw [eS] at ha hb
      rw [e1 _ (by omega), e1 _ (by omega)] at h
      exact i8 a b ha hb h
  unfold rLim at hTR
  rw [← eS] at hTR
  refine Ok.ofV [some (.ref 278), some (.int (nI c)), some (.int (nI cap)), none, none] rfl (by decide) (Nat.le_of_ble_eq_true rfl) ?_
  refine v_iload_n (pc' := 1) dX8_setCapacity_0 rfl rfl ?_
  refine v_cS1i (pc' := 4) dX8_setCapacity_1 rfl cs_X8_88 (Nat.le_of_ble_eq_true rfl) rfl (m_isCache) ?_
  refine v_if_ne (pc' := 7) (tgt := 10) dX8_setCapacity_4 rfl (by decide) (fun hb => ?_) (fun hb => ?_)
  · refine v_iload_n (pc' := 11) dX8_setCapacity_10 rfl rfl ?_
    refine v_iconst (v := nI 1) (pc' := 12) dX8_setCapacity_11 rfl (by decide) ?_
    refine v_bipush (v := nI 16) (pc' := 14) dX8_setCapacity_12 rfl (by decide) ?_
    refine v_cS3i (pc' := 17) dX8_setCapacity_14 rfl cs_X8_47 (Nat.le_of_ble_eq_true rfl) rfl (m_in) ?_
    refine v_if_ne (pc' := 20) (tgt := 23) dX8_setCapacity_17 rfl (by decide) (fun hq => ?_) (fun hq => ?_)
    · refine v_aload_n (pc' := 24) dX8_setCapacity_23 rfl rfl ?_
      refine v_cV0v (pc' := 27) dX8_setCapacity_24 rfl cv_X8_81 kp_M (Nat.le_of_ble_eq_true rfl) rfl (ok_sv hR hk hk4) ?_
      refine v_aload_n (pc' := 28) dX8_setCapacity_27 rfl rfl ?_
      refine v_iload_n (pc' := 29) dX8_setCapacity_28 rfl rfl ?_
      refine v_iconst (v := nI 0) (pc' := 30) dX8_setCapacity_29 rfl (by decide) ?_
      refine v_cV2i (pc' := 33) dX8_setCapacity_30 rfl cv_X8_55 kp_M (Nat.le_of_ble_eq_true rfl) rfl (m_of (w := 0) (j := 6 + 110 * c) hR rfl (by omega)) ?_
      have hF := MF_SI (k := k) hF
      rw [hta]
      refine v_istore_n3 (pc' := 34) dX8_setCapacity_33 rfl (by decide) rfl ?_
      refine v_aload_n (pc' := 35) dX8_setCapacity_34 rfl rfl ?_
      refine v_iload_n (pc' := 36) dX8_setCapacity_35 rfl rfl ?_
      refine v_iconst (v := nI 0) (pc' := 37) dX8_setCapacity_36 rfl (by decide) ?_
      refine v_iload_n (pc' := 38) dX8_setCapacity_37 rfl rfl ?_
      refine v_cV3v (pc' := 41) dX8_setCapacity_38 rfl cv_X8_35 kp_M (Nat.le_of_ble_eq_true rfl) rfl (m_sets (w := 0) (j := 6 + 110 * c) hR rfl (by omega)) ?_
      generalize va_up r (6 + 110 * c) (nI cap) = q0 at hm' hi' hTR
      have loop : ∀ (n : Nat) (q : Row) (v4 : Option Value), gS q c - cap = n → IM q → IS q c → rLm c n q = TR → V l yX8_setCapacity cX8_setCapacity 5 (some .int) (rmd 3 0 0) (QM 0 0 (eqP (some (.int ta)) (mm (SI I k) TR (SX k r X)) (mL L m (SY k m Y)) R 287)) (fun _ _ => True) 41 [some (.ref 278), some (.int (nI c)), some (.int (nI cap)), some (.int ta), v4] [] (mm (SI I k) q (SX k r X)) (mL L m (SY k m Y)) R 287 0 0 := by
        intro n
        induction n with
        | zero =>
          intro q v4 hn hmq hiq hf
          have z16 := hiq.2.1
          refine v_aload_n (pc' := 42) dX8_setCapacity_41 rfl rfl ?_
          refine v_iload_n (pc' := 43) dX8_setCapacity_42 rfl rfl ?_
          refine v_iconst (v := nI 1) (pc' := 44) dX8_setCapacity_43 rfl (by decide) ?_
          refine v_cV2i (pc' := 47) dX8_setCapacity_44 rfl cv_X8_55 kp_M (Nat.le_of_ble_eq_true rfl) rfl (m_of (w := 1) (j := 7 + 110 * c) hR rfl (by omega)) ?_
          refine v_iload_n (pc' := 48) dX8_setCapacity_47 rfl rfl ?_
          refine v_icmp_le (pc' := 51) (tgt := 61) dX8_setCapacity_48 rfl (by decide) (fun hz => ?_) (fun hz => ?_)
          · refine v_iload_n (pc' := 62) dX8_setCapacity_61 rfl rfl ?_
            exact v_iret dX8_setCapacity_62 rfl (Nat.le_refl _) (Nat.le_refl _) ⟨rfl, by rw [← hf]; rfl, rfl, rfl, rfl⟩
          · rw [hiq.1] at hz
            exact absurd (nI_le (by omega) (by omega)) hz
        | succ n ih =>
          intro q v4 hn hmq hiq hf
          have z16 := hiq.2.1
          obtain ⟨q1, q2⟩ := rRem_IS hmq hiq (show gS q c - 1 < gS q c by omega)
          refine v_aload_n (pc' := 42) dX8_setCapacity_41 rfl rfl ?_
          refine v_iload_n (pc' := 43) dX8_setCapacity_42 rfl rfl ?_
          refine v_iconst (v := nI 1) (pc' := 44) dX8_setCapacity_43 rfl (by decide) ?_
          refine v_cV2i (pc' := 47) dX8_setCapacity_44 rfl cv_X8_55 kp_M (Nat.le_of_ble_eq_true rfl) rfl (m_of (w := 1) (j := 7 + 110 * c) hR rfl (by omega)) ?_
          refine v_iload_n (pc' := 48) dX8_setCapacity_47 rfl rfl ?_
          refine v_icmp_le (pc' := 51) (tgt := 61) dX8_setCapacity_48 rfl (by decide) (fun hz => ?_) (fun hz => ?_)
          · rw [hiq.1] at hz
            exact absurd hz (nI_ge (by omega) (by omega))
          · refine v_aload_n (pc' := 52) dX8_setCapacity_51 rfl rfl ?_
            refine v_iload_n (pc' := 53) dX8_setCapacity_52 rfl rfl ?_
            refine v_cV1i (pc' := 56) dX8_setCapacity_53 rfl cv_X8_77 kp_M (Nat.le_of_ble_eq_true rfl) rfl (m_dropsLast hR hF hc hmq hiq (by omega) rfl) ?_
            refine v_istore4 (pc' := 58) dX8_setCapacity_56 rfl (by decide) rfl ?_
            refine v_goto (tgt := 41) dX8_setCapacity_58 (by decide) ?_
            exact ih _ _ (by rw [q2]; omega) (rRem_IM hmq z16) q1 hf
      exact loop _ q0 _ rfl hm' hi' hTR
    · exact absurd (ite10.mp hq) (inr h1 h2 (by decide))
  · exact absurd (ite10.mp hb) (ncC hc)
theorem e_setLink_no {a b u : Int32} (h : noC a ∨ noC b ∨ a = b) : Ok l yX8_setLink cX8_setLink 5 (some .int) 2 0 0 [.ref 278, .int a, .int b, .int u] I L R 287 (eqP (some (.int (pfE a b))) I L R 287) := by
  refine Ok.ofV [some (.ref 278), some (.int a), some (.int b), some (.int u), none] rfl (by decide) (Nat.le_of_ble_eq_true rfl) ?_
  refine v_iload_n (pc' := 1) dX8_setLink_0 rfl rfl ?_
  refine v_cS1i (pc' := 4) dX8_setLink_1 rfl cs_X8_88 (Nat.le_of_ble_eq_true rfl) rfl (m_isCache) ?_
  refine v_if_eq (pc' := 7) (tgt := 14) dX8_setLink_4 rfl (by decide) (fun hb => ?_) (fun hb => ?_)
  · refine v_bipush (v := -2) (pc' := 16) dX8_setLink_14 rfl (by decide) ?_
    exact v_iret dX8_setLink_16 rfl (Nat.le_refl _) (Nat.le_refl _) ⟨by unfold pfE; rw [if_pos (Or.inl (ite10.mp hb))], rfl, rfl, rfl, rfl⟩
  · have hb : ¬ noC a := fun z => hb (ite10.mpr z)
    refine v_iload_n (pc' := 8) dX8_setLink_7 rfl rfl ?_
    refine v_cS1i (pc' := 11) dX8_setLink_8 rfl cs_X8_88 (Nat.le_of_ble_eq_true rfl) rfl (m_isCache) ?_
    refine v_if_ne (pc' := 14) (tgt := 17) dX8_setLink_11 rfl (by decide) (fun hc => ?_) (fun hc => ?_)
    · have hc : ¬ noC b := fun z => hc (ite10.mpr z)
      refine v_iload_n (pc' := 18) dX8_setLink_17 rfl rfl ?_
      refine v_iload_n (pc' := 19) dX8_setLink_18 rfl rfl ?_
      refine v_icmp_ne (pc' := 22) (tgt := 25) dX8_setLink_19 rfl (by decide) (fun hd => ?_) (fun hd => ?_)
      · exact absurd ((h.resolve_left hb).resolve_left hc) hd
      · refine v_bipush (v := -3) (pc' := 24) dX8_setLink_22 rfl (by decide) ?_
        exact v_iret dX8_setLink_24 rfl (Nat.le_refl _) (Nat.le_refl _) ⟨by unfold pfE; rw [if_neg (fun z => z.elim hb hc)], rfl, rfl, rfl, rfl⟩
    · refine v_bipush (v := -2) (pc' := 16) dX8_setLink_14 rfl (by decide) ?_
      exact v_iret dX8_setLink_16 rfl (Nat.le_refl _) (Nat.le_refl _) ⟨by unfold pfE; rw [if_pos (Or.inr (ite10.mp hc))], rfl, rfl, rfl, rfl⟩
theorem e_setLink {a b : Nat} {u ta : Int32} (hR : RS R) (hk : I 21 0 = nI k) (hk4 : k ≤ 4) (ha : a < 5) (hb5 : b < 5) (hne : a ≠ b) (hta : r (96 + 110 * a + b) = ta) (hTR : va_up r (96 + 110 * a + b) (if u = 0 then nI 0 else nI 1) = TR) : Ok l yX8_setLink cX8_setLink 5 (some .int) 2 0 0 [.ref 278, .int (nI a), .int (nI b), .int u] (mm I r X) (mL L m Y) R 287 (eqP (some (.int ta)) (mm (SI I k) TR (SX k r X)) (mL L m (SY k m Y)) R 287) := by
  refine Ok.ofV [some (.ref 278), some (.int (nI a)), some (.int (nI b)), some (.int u), none] rfl (by decide) (Nat.le_of_ble_eq_true rfl) ?_
  refine v_iload_n (pc' := 1) dX8_setLink_0 rfl rfl ?_
  refine v_cS1i (pc' := 4) dX8_setLink_1 rfl cs_X8_88 (Nat.le_of_ble_eq_true rfl) rfl (m_isCache) ?_
  refine v_if_eq (pc' := 7) (tgt := 14) dX8_setLink_4 rfl (by decide) (fun hb => ?_) (fun hb => ?_)
  · exact absurd (ite10.mp hb) (ncC ha)
  · refine v_iload_n (pc' := 8) dX8_setLink_7 rfl rfl ?_
    refine v_cS1i (pc' := 11) dX8_setLink_8 rfl cs_X8_88 (Nat.le_of_ble_eq_true rfl) rfl (m_isCache) ?_
    refine v_if_ne (pc' := 14) (tgt := 17) dX8_setLink_11 rfl (by decide) (fun hc => ?_) (fun hc => ?_)
    · refine v_iload_n (pc' := 18) dX8_setLink_17 rfl rfl ?_
      refine v_iload_n (pc' := 19) dX8_setLink_18 rfl rfl ?_
      refine v_icmp_ne (pc' := 22) (tgt := 25) dX8_setLink_19 rfl (by decide) (fun hd => ?_) (fun hd => ?_)
      · refine v_aload_n (pc' := 26) dX8_setLink_25 rfl rfl ?_
        refine v_cV0v (pc' := 29) dX8_setLink_26 rfl cv_X8_81 kp_M (Nat.le_of_ble_eq_true rfl) rfl (ok_sv hR hk hk4) ?_
        refine v_aload_n (pc' := 30) dX8_setLink_29 rfl rfl ?_
        refine v_iload_n (pc' := 31) dX8_setLink_30 rfl rfl ?_
        refine v_bipush (v := nI 90) (pc' := 33) dX8_setLink_31 rfl (by decide) ?_
        refine v_iload_n (pc' := 34) dX8_setLink_33 rfl rfl ?_
        refine v_iadd (pc' := 35) dX8_setLink_34 rfl ?_
        refine v_cV2i (pc' := 38) dX8_setLink_35 rfl cv_X8_55 kp_M (Nat.le_of_ble_eq_true rfl) rfl (m_of (w := 90 + b) (j := 96 + 110 * a + b) hR (nI_add _ _) (by omega)) ?_
        refine v_istore4 (pc' := 40) dX8_setLink_38 rfl (by decide) rfl ?_
        refine v_aload_n (pc' := 41) dX8_setLink_40 rfl rfl ?_
        refine v_iload_n (pc' := 42) dX8_setLink_41 rfl rfl ?_
        refine v_bipush (v := nI 90) (pc' := 44) dX8_setLink_42 rfl (by decide) ?_
        refine v_iload_n (pc' := 45) dX8_setLink_44 rfl rfl ?_
        refine v_iadd (pc' := 46) dX8_setLink_45 rfl ?_
        refine v_iload_n (pc' := 47) dX8_setLink_46 rfl rfl ?_
        refine v_if_eq (pc' := 50) (tgt := 54) dX8_setLink_47 rfl (by decide) (fun hq => ?_) (fun hq => ?_)
        · refine v_iconst (v := nI 0) (pc' := 55) dX8_setLink_54 rfl (by decide) ?_
          refine v_cV3v (pc' := 58) dX8_setLink_55 rfl cv_X8_35 kp_M (Nat.le_of_ble_eq_true rfl) rfl (m_sets (w := 90 + b) (j := 96 + 110 * a + b) hR (nI_add _ _) (by omega)) ?_
          refine v_iload (pc' := 60) dX8_setLink_58 rfl rfl ?_
          exact v_iret dX8_setLink_60 rfl (Nat.le_refl _) (Nat.le_refl _) ⟨by rw [hta], by rw [← hTR, if_pos hq], rfl, rfl, rfl⟩
        · refine v_iconst (v := nI 1) (pc' := 51) dX8_setLink_50 rfl (by decide) ?_
          refine v_goto (tgt := 55) dX8_setLink_51 (by decide) ?_
          refine v_cV3v (pc' := 58) dX8_setLink_55 rfl cv_X8_35 kp_M (Nat.le_of_ble_eq_true rfl) rfl (m_sets (w := 90 + b) (j := 96 + 110 * a + b) hR (nI_add _ _) (by omega)) ?_
          refine v_iload (pc' := 60) dX8_setLink_58 rfl rfl ?_
          exact v_iret dX8_setLink_60 rfl (Nat.le_refl _) (Nat.le_refl _) ⟨by rw [hta], by rw [← hTR, if_neg hq], rfl, rfl, rfl⟩
      · exact absurd ((nI_eq (by omega) (by omega)).mp hd) hne
    · exact absurd (ite10.mp hc) (ncC hb5)
theorem e_setDistance_no1 {a b u : Int32} (h : noC a ∨ noC b ∨ a = b) : Ok l yX8_setDistance cX8_setDistance 5 (some .int) 2 0 0 [.ref 278, .int a, .int b, .int u] I L R 287 (eqP (some (.int (pfE a b))) I L R 287) := by
  refine Ok.ofV [some (.ref 278), some (.int a), some (.int b), some (.int u), none] rfl (by decide) (Nat.le_of_ble_eq_true rfl) ?_
  refine v_iload_n (pc' := 1) dX8_setDistance_0 rfl rfl ?_
  refine v_cS1i (pc' := 4) dX8_setDistance_1 rfl cs_X8_88 (Nat.le_of_ble_eq_true rfl) rfl (m_isCache) ?_
  refine v_if_eq (pc' := 7) (tgt := 14) dX8_setDistance_4 rfl (by decide) (fun hb => ?_) (fun hb => ?_)
  · refine v_bipush (v := -2) (pc' := 16) dX8_setDistance_14 rfl (by decide) ?_
    exact v_iret dX8_setDistance_16 rfl (Nat.le_refl _) (Nat.le_refl _) ⟨by unfold pfE; rw [if_pos (Or.inl (ite10.mp hb))], rfl, rfl, rfl, rfl⟩
  · have hb : ¬ noC a := fun z => hb (ite10.mpr z)
    refine v_iload_n (pc' := 8) dX8_setDistance_7 rfl rfl ?_
    refine v_cS1i (pc' := 11) dX8_setDistance_8 rfl cs_X8_88 (Nat.le_of_ble_eq_true rfl) rfl (m_isCache) ?_
    refine v_if_ne (pc' := 14) (tgt := 17) dX8_setDistance_11 rfl (by decide) (fun hc => ?_) (fun hc => ?_)
    · have hc : ¬ noC b := fun z => hc (ite10.mpr z)
      refine v_iload_n (pc' := 18) dX8_setDistance_17 rfl rfl ?_
      refine v_iload_n (pc' := 19) dX8_setDistance_18 rfl rfl ?_
      refine v_icmp_eq (pc' := 22) (tgt := 32) dX8_setDistance_19 rfl (by decide) (fun hd => ?_) (fun hd => ?_)
      · refine v_bipush (v := -3) (pc' := 34) dX8_setDistance_32 rfl (by decide) ?_
        exact v_iret dX8_setDistance_34 rfl (Nat.le_refl _) (Nat.le_refl _) ⟨by unfold pfE; rw [if_neg (fun z => z.elim hb hc)], rfl, rfl, rfl, rfl⟩
      · exact absurd ((h.resolve_left hb).resolve_left hc) hd
    · refine v_bipush (v := -2) (pc' := 16) dX8_setDistance_14 rfl (by decide) ?_
      exact v_iret dX8_setDistance_16 rfl (Nat.le_refl _) (Nat.le_refl _) ⟨by unfold pfE; rw [if_pos (Or.inr (ite10.mp hc))], rfl, rfl, rfl, rfl⟩
theorem e_setDistance_no2 {a b : Nat} {u : Int32} (ha : a < 5) (hb5 : b < 5) (hne : a ≠ b) (h : u < nI 0 ∨ nI 99 < u) : Ok l yX8_setDistance cX8_setDistance 5 (some .int) 2 0 0 [.ref 278, .int (nI a), .int (nI b), .int u] I L R 287 (eqP (some (.int (-3))) I L R 287) := by
  refine Ok.ofV [some (.ref 278), some (.int (nI a)), some (.int (nI b)), some (.int u), none] rfl (by decide) (Nat.le_of_ble_eq_true rfl) ?_
  refine v_iload_n (pc' := 1) dX8_setDistance_0 rfl rfl ?_
  refine v_cS1i (pc' := 4) dX8_setDistance_1 rfl cs_X8_88 (Nat.le_of_ble_eq_true rfl) rfl (m_isCache) ?_
  refine v_if_eq (pc' := 7) (tgt := 14) dX8_setDistance_4 rfl (by decide) (fun hb => ?_) (fun hb => ?_)
  · exact absurd (ite10.mp hb) (ncC ha)
  · refine v_iload_n (pc' := 8) dX8_setDistance_7 rfl rfl ?_
    refine v_cS1i (pc' := 11) dX8_setDistance_8 rfl cs_X8_88 (Nat.le_of_ble_eq_true rfl) rfl (m_isCache) ?_
    refine v_if_ne (pc' := 14) (tgt := 17) dX8_setDistance_11 rfl (by decide) (fun hc => ?_) (fun hc => ?_)
    · refine v_iload_n (pc' := 18) dX8_setDistance_17 rfl rfl ?_
      refine v_iload_n (pc' := 19) dX8_setDistance_18 rfl rfl ?_
      refine v_icmp_eq (pc' := 22) (tgt := 32) dX8_setDistance_19 rfl (by decide) (fun hd => ?_) (fun hd => ?_)
      · refine v_bipush (v := -3) (pc' := 34) dX8_setDistance_32 rfl (by decide) ?_
        exact v_iret dX8_setDistance_34 rfl (Nat.le_refl _) (Nat.le_refl _) ⟨rfl, rfl, rfl, rfl, rfl⟩
      · refine v_iload_n (pc' := 23) dX8_setDistance_22 rfl rfl ?_
        refine v_iconst (v := nI 0) (pc' := 24) dX8_setDistance_23 rfl (by decide) ?_
        refine v_bipush (v := nI 99) (pc' := 26) dX8_setDistance_24 rfl (by decide) ?_
        refine v_cS3i (pc' := 29) dX8_setDistance_26 rfl cs_X8_47 (Nat.le_of_ble_eq_true rfl) rfl (m_in) ?_
        refine v_if_ne (pc' := 32) (tgt := 35) dX8_setDistance_29 rfl (by decide) (fun hq => ?_) (fun hq => ?_)
        · exact absurd (ite10.mpr h) hq
        · refine v_bipush (v := -3) (pc' := 34) dX8_setDistance_32 rfl (by decide) ?_
          exact v_iret dX8_setDistance_34 rfl (Nat.le_refl _) (Nat.le_refl _) ⟨rfl, rfl, rfl, rfl, rfl⟩
    · exact absurd (ite10.mp hc) (ncC hb5)
theorem e_setDistance {a b d : Nat} {ta : Int32} (hR : RS R) (hk : I 21 0 = nI k) (hk4 : k ≤ 4) (ha : a < 5) (hb5 : b < 5) (hne : a ≠ b) (hd99 : d ≤ 99) (hta : r (101 + 110 * a + b) = ta) (hTR : va_up r (101 + 110 * a + b) (nI d) = TR) : Ok l yX8_setDistance cX8_setDistance 5 (some .int) 2 0 0 [.ref 278, .int (nI a), .int (nI b), .int (nI d)] (mm I r X) (mL L m Y) R 287 (eqP (some (.int ta)) (mm (SI I k) TR (SX k r X)) (mL L m (SY k m Y)) R 287) := by
  refine Ok.ofV [some (.ref 278), some (.int (nI a)), some (.int (nI b)), some (.int (nI d)), none] rfl (by decide) (Nat.le_of_ble_eq_true rfl) ?_
  refine v_iload_n (pc' := 1) dX8_setDistance_0 rfl rfl ?_
  refine v_cS1i (pc' := 4) dX8_setDistance_1 rfl cs_X8_88 (Nat.le_of_ble_eq_true rfl) rfl (m_isCache) ?_
  refine v_if_eq (pc' := 7) (tgt := 14) dX8_setDistance_4 rfl (by decide) (fun hb => ?_) (fun hb => ?_)
  · exact absurd (ite10.mp hb) (ncC ha)
  · refine v_iload_n (pc' := 8) dX8_setDistance_7 rfl rfl ?_
    refine v_cS1i (pc' := 11) dX8_setDistance_8 rfl cs_X8_88 (Nat.le_of_ble_eq_true rfl) rfl (m_isCache) ?_
    refine v_if_ne (pc' := 14) (tgt := 17) dX8_setDistance_11 rfl (by decide) (fun hc => ?_) (fun hc => ?_)
    · refine v_iload_n (pc' := 18) dX8_setDistance_17 rfl rfl ?_
      refine v_iload_n (pc' := 19) dX8_setDistance_18 rfl rfl ?_
      refine v_icmp_eq (pc' := 22) (tgt := 32) dX8_setDistance_19 rfl (by decide) (fun hd => ?_) (fun hd => ?_)
      · exact absurd ((nI_eq (by omega) (by omega)).mp hd) hne
      · refine v_iload_n (pc' := 23) dX8_setDistance_22 rfl rfl ?_
        refine v_iconst (v := nI 0) (pc' := 24) dX8_setDistance_23 rfl (by decide) ?_
        refine v_bipush (v := nI 99) (pc' := 26) dX8_setDistance_24 rfl (by decide) ?_
        refine v_cS3i (pc' := 29) dX8_setDistance_26 rfl cs_X8_47 (Nat.le_of_ble_eq_true rfl) rfl (m_in) ?_
        refine v_if_ne (pc' := 32) (tgt := 35) dX8_setDistance_29 rfl (by decide) (fun hq => ?_) (fun hq => ?_)
        · refine v_aload_n (pc' := 36) dX8_setDistance_35 rfl rfl ?_
          refine v_cV0v (pc' := 39) dX8_setDistance_36 rfl cv_X8_81 kp_M (Nat.le_of_ble_eq_true rfl) rfl (ok_sv hR hk hk4) ?_
          refine v_aload_n (pc' := 40) dX8_setDistance_39 rfl rfl ?_
          refine v_iload_n (pc' := 41) dX8_setDistance_40 rfl rfl ?_
          refine v_bipush (v := nI 95) (pc' := 43) dX8_setDistance_41 rfl (by decide) ?_
          refine v_iload_n (pc' := 44) dX8_setDistance_43 rfl rfl ?_
          refine v_iadd (pc' := 45) dX8_setDistance_44 rfl ?_
          refine v_cV2i (pc' := 48) dX8_setDistance_45 rfl cv_X8_55 kp_M (Nat.le_of_ble_eq_true rfl) rfl (m_of (w := 95 + b) (j := 101 + 110 * a + b) hR (nI_add _ _) (by omega)) ?_
          refine v_istore4 (pc' := 50) dX8_setDistance_48 rfl (by decide) rfl ?_
          refine v_aload_n (pc' := 51) dX8_setDistance_50 rfl rfl ?_
          refine v_iload_n (pc' := 52) dX8_setDistance_51 rfl rfl ?_
          refine v_bipush (v := nI 95) (pc' := 54) dX8_setDistance_52 rfl (by decide) ?_
          refine v_iload_n (pc' := 55) dX8_setDistance_54 rfl rfl ?_
          refine v_iadd (pc' := 56) dX8_setDistance_55 rfl ?_
          refine v_iload_n (pc' := 57) dX8_setDistance_56 rfl rfl ?_
          refine v_cV3v (pc' := 60) dX8_setDistance_57 rfl cv_X8_35 kp_M (Nat.le_of_ble_eq_true rfl) rfl (m_sets (w := 95 + b) (j := 101 + 110 * a + b) hR (nI_add _ _) (by omega)) ?_
          refine v_iload (pc' := 62) dX8_setDistance_60 rfl rfl ?_
          exact v_iret dX8_setDistance_62 rfl (Nat.le_refl _) (Nat.le_refl _) ⟨by rw [hta], by rw [← hTR], rfl, rfl, rfl⟩
        · exact absurd (ite10.mp hq) (inr (Nat.zero_le _) hd99 (by decide))
    · exact absurd (ite10.mp hc) (ncC hb5)
theorem e_setRules_no {a b u : Int32} (h : (a < nI 0 ∨ nI 1000 < a) ∨ (u < nI 0 ∨ nI 4 < u)) : Ok l yX8_setRules cX8_setRules 5 (some .int) 2 0 0 [.ref 278, .int a, .int b, .int u] I L R 287 (eqP (some (.int (-3))) I L R 287) := by
  refine Ok.ofV [some (.ref 278), some (.int a), some (.int b), some (.int u), none] rfl (by decide) (Nat.le_of_ble_eq_true rfl) ?_
  refine v_iload_n (pc' := 1) dX8_setRules_0 rfl rfl ?_
  refine v_iconst (v := nI 0) (pc' := 2) dX8_setRules_1 rfl (by decide) ?_
  refine v_sipush (v := nI 1000) (pc' := 5) dX8_setRules_2 rfl (by decide) ?_
  refine v_cS3i (pc' := 8) dX8_setRules_5 rfl cs_X8_47 (Nat.le_of_ble_eq_true rfl) rfl (m_in) ?_
  refine v_if_eq (pc' := 11) (tgt := 20) dX8_setRules_8 rfl (by decide) (fun hb => ?_) (fun hb => ?_)
  · refine v_bipush (v := -3) (pc' := 22) dX8_setRules_20 rfl (by decide) ?_
    exact v_iret dX8_setRules_22 rfl (Nat.le_refl _) (Nat.le_refl _) ⟨rfl, rfl, rfl, rfl, rfl⟩
  · refine v_iload_n (pc' := 12) dX8_setRules_11 rfl rfl ?_
    refine v_iconst (v := nI 0) (pc' := 13) dX8_setRules_12 rfl (by decide) ?_
    refine v_iconst (v := nI 4) (pc' := 14) dX8_setRules_13 rfl (by decide) ?_
    refine v_cS3i (pc' := 17) dX8_setRules_14 rfl cs_X8_47 (Nat.le_of_ble_eq_true rfl) rfl (m_in) ?_
    refine v_if_ne (pc' := 20) (tgt := 23) dX8_setRules_17 rfl (by decide) (fun hc => ?_) (fun hc => ?_)
    · exact absurd (h.resolve_left (fun z => hb (ite10.mpr z))) (fun z => hc (ite10.mpr z))
    · refine v_bipush (v := -3) (pc' := 22) dX8_setRules_20 rfl (by decide) ?_
      exact v_iret dX8_setRules_22 rfl (Nat.le_refl _) (Nat.le_refl _) ⟨rfl, rfl, rfl, rfl, rfl⟩
theorem e_setRules {a q : Nat} {b ta : Int32} (hR : RS R) (hk : I 21 0 = nI k) (hk4 : k ≤ 4) (ha : a ≤ 1000) (hq4 : q ≤ 4) (hb2 : b = nI 0 ∨ b = nI 1) (hta : r 3 = ta) (hTR : va_up (va_up (va_up r 3 (nI a)) 4 b) 5 (nI q) = TR) : Ok l yX8_setRules cX8_setRules 5 (some .int) 2 0 0 [.ref 278, .int (nI a), .int b, .int (nI q)] (mm I r X) (mL L m Y) R 287 (eqP (some (.int ta)) (mm (SI I k) TR (SX k r X)) (mL L m (SY k m Y)) R 287) := by
  refine Ok.ofV [some (.ref 278), some (.int (nI a)), some (.int b), some (.int (nI q)), none] rfl (by decide) (Nat.le_of_ble_eq_true rfl) ?_
  refine v_iload_n (pc' := 1) dX8_setRules_0 rfl rfl ?_
  refine v_iconst (v := nI 0) (pc' := 2) dX8_setRules_1 rfl (by decide) ?_
  refine v_sipush (v := nI 1000) (pc' := 5) dX8_setRules_2 rfl (by decide) ?_
  refine v_cS3i (pc' := 8) dX8_setRules_5 rfl cs_X8_47 (Nat.le_of_ble_eq_true rfl) rfl (m_in) ?_
  refine v_if_eq (pc' := 11) (tgt := 20) dX8_setRules_8 rfl (by decide) (fun hb => ?_) (fun hb => ?_)
  · exact absurd (ite10.mp hb) (inr (Nat.zero_le _) ha (by decide))
  · refine v_iload_n (pc' := 12) dX8_setRules_11 rfl rfl ?_
    refine v_iconst (v := nI 0) (pc' := 13) dX8_setRules_12 rfl (by decide) ?_
    refine v_iconst (v := nI 4) (pc' := 14) dX8_setRules_13 rfl (by decide) ?_
    refine v_cS3i (pc' := 17) dX8_setRules_14 rfl cs_X8_47 (Nat.le_of_ble_eq_true rfl) rfl (m_in) ?_
    refine v_if_ne (pc' := 20) (tgt := 23) dX8_setRules_17 rfl (by decide) (fun hc => ?_) (fun hc => ?_)
    · refine v_aload_n (pc' := 24) dX8_setRules_23 rfl rfl ?_
      refine v_cV0v (pc' := 27) dX8_setRules_24 rfl cv_X8_81 kp_M (Nat.le_of_ble_eq_true rfl) rfl (ok_sv hR hk hk4) ?_
      refine v_aload_n (pc' := 28) dX8_setRules_27 rfl rfl ?_
      refine v_getQ (pc' := 31) dX8_setRules_28 rfl gf_X8_7 kp_M rfl (rf_M_row hR) ?_
      refine v_iconst (v := nI 3) (pc' := 32) dX8_setRules_31 rfl (by decide) ?_
      refine v_ial (pc' := 33) dX8_setRules_32 rfl kp_row (Nat.zero_add _) rfl (by omega) ?_
      rw [mm_at (by decide), hta]
      refine v_istore4 (pc' := 35) dX8_setRules_33 rfl (by decide) rfl ?_
      refine v_aload_n (pc' := 36) dX8_setRules_35 rfl rfl ?_
      refine v_getQ (pc' := 39) dX8_setRules_36 rfl gf_X8_7 kp_M rfl (rf_M_row hR) ?_
      refine v_iconst (v := nI 3) (pc' := 40) dX8_setRules_39 rfl (by decide) ?_
      refine v_iload_n (pc' := 41) dX8_setRules_40 rfl rfl ?_
      refine v_ias (pc' := 42) dX8_setRules_41 rfl kp_row (Nat.zero_add _) rfl (by omega) ?_
      refine v_aload_n (pc' := 43) dX8_setRules_42 rfl rfl ?_
      refine v_getQ (pc' := 46) dX8_setRules_43 rfl gf_X8_7 kp_M rfl (rf_M_row hR) ?_
      refine v_iconst (v := nI 4) (pc' := 47) dX8_setRules_46 rfl (by decide) ?_
      refine v_iload_n (pc' := 48) dX8_setRules_47 rfl rfl ?_
      refine v_if_eq (pc' := 51) (tgt := 55) dX8_setRules_48 rfl (by decide) (fun hz => ?_) (fun hz => ?_)
      · have hz : b = nI 0 := hz
        refine v_iconst (v := nI 0) (pc' := 56) dX8_setRules_55 rfl (by decide) ?_
        refine v_ias (pc' := 57) dX8_setRules_56 rfl kp_row (Nat.zero_add _) rfl (by omega) ?_
        refine v_aload_n (pc' := 58) dX8_setRules_57 rfl rfl ?_
        refine v_getQ (pc' := 61) dX8_setRules_58 rfl gf_X8_7 kp_M rfl (rf_M_row hR) ?_
        refine v_iconst (v := nI 5) (pc' := 62) dX8_setRules_61 rfl (by decide) ?_
        refine v_iload_n (pc' := 63) dX8_setRules_62 rfl rfl ?_
        refine v_ias (pc' := 64) dX8_setRules_63 rfl kp_row (Nat.zero_add _) rfl (by omega) ?_
        refine v_iload (pc' := 66) dX8_setRules_64 rfl rfl ?_
        exact v_iret dX8_setRules_66 rfl (Nat.le_refl _) (Nat.le_refl _) ⟨rfl, by rw [mm_st (by decide), mm_st (by decide), mm_st (by decide), ← hTR, hz], rfl, rfl, rfl⟩
      · have hz : b = nI 1 := hb2.resolve_left hz
        refine v_iconst (v := nI 1) (pc' := 52) dX8_setRules_51 rfl (by decide) ?_
        refine v_goto (tgt := 56) dX8_setRules_52 (by decide) ?_
        refine v_ias (pc' := 57) dX8_setRules_56 rfl kp_row (Nat.zero_add _) rfl (by omega) ?_
        refine v_aload_n (pc' := 58) dX8_setRules_57 rfl rfl ?_
        refine v_getQ (pc' := 61) dX8_setRules_58 rfl gf_X8_7 kp_M rfl (rf_M_row hR) ?_
        refine v_iconst (v := nI 5) (pc' := 62) dX8_setRules_61 rfl (by decide) ?_
        refine v_iload_n (pc' := 63) dX8_setRules_62 rfl rfl ?_
        refine v_ias (pc' := 64) dX8_setRules_63 rfl kp_row (Nat.zero_add _) rfl (by omega) ?_
        refine v_iload (pc' := 66) dX8_setRules_64 rfl rfl ?_
        exact v_iret dX8_setRules_66 rfl (Nat.le_refl _) (Nat.le_refl _) ⟨rfl, by rw [mm_st (by decide), mm_st (by decide), mm_st (by decide), ← hTR, hz], rfl, rfl, rfl⟩
    · exact absurd (ite10.mp hc) (inr (Nat.zero_le _) hq4 (by decide))
theorem e_pass_no1 {a : Int32} (h : a < nI 1 ∨ nI 1000 < a) : Ok l yX8_pass cX8_pass 2 (some .int) 2 0 0 [.ref 278, .int a] I L R 287 (eqP (some (.int (-3))) I L R 287) := by
  refine Ok.ofV [some (.ref 278), some (.int a)] rfl (by decide) (Nat.le_of_ble_eq_true rfl) ?_
  refine v_iload_n (pc' := 1) dX8_pass_0 rfl rfl ?_
  refine v_iconst (v := nI 1) (pc' := 2) dX8_pass_1 rfl (by decide) ?_
  refine v_sipush (v := nI 1000) (pc' := 5) dX8_pass_2 rfl (by decide) ?_
  refine v_cS3i (pc' := 8) dX8_pass_5 rfl cs_X8_47 (Nat.le_of_ble_eq_true rfl) rfl (m_in) ?_
  refine v_if_ne (pc' := 11) (tgt := 14) dX8_pass_8 rfl (by decide) (fun hb => ?_) (fun hb => ?_)
  · exact absurd (ite10.mpr h) hb
  · refine v_bipush (v := -3) (pc' := 13) dX8_pass_11 rfl (by decide) ?_
    exact v_iret dX8_pass_13 rfl (Nat.le_refl _) (Nat.le_refl _) ⟨rfl, rfl, rfl, rfl, rfl⟩
theorem e_pass_no2 {a : Nat} (hR : RS R) (h1 : 1 ≤ a) (h2 : a ≤ 1000) (h : (1000000 : Int32) < r 2 + nI a) : Ok l yX8_pass cX8_pass 2 (some .int) 2 0 0 [.ref 278, .int (nI a)] (mm I r X) L R 287 (eqP (some (.int (-5))) (mm I r X) L R 287) := by
  refine Ok.ofV [some (.ref 278), some (.int (nI a))] rfl (by decide) (Nat.le_of_ble_eq_true rfl) ?_
  refine v_iload_n (pc' := 1) dX8_pass_0 rfl rfl ?_
  refine v_iconst (v := nI 1) (pc' := 2) dX8_pass_1 rfl (by decide) ?_
  refine v_sipush (v := nI 1000) (pc' := 5) dX8_pass_2 rfl (by decide) ?_
  refine v_cS3i (pc' := 8) dX8_pass_5 rfl cs_X8_47 (Nat.le_of_ble_eq_true rfl) rfl (m_in) ?_
  refine v_if_ne (pc' := 11) (tgt := 14) dX8_pass_8 rfl (by decide) (fun hb => ?_) (fun hb => ?_)
  · refine v_aload_n (pc' := 15) dX8_pass_14 rfl rfl ?_
    refine v_getQ (pc' := 18) dX8_pass_15 rfl gf_X8_7 kp_M rfl (rf_M_row hR) ?_
    refine v_iconst (v := nI 2) (pc' := 19) dX8_pass_18 rfl (by decide) ?_
    refine v_ial (pc' := 20) dX8_pass_19 rfl kp_row (Nat.zero_add _) rfl (by omega) ?_
    refine v_iload_n (pc' := 21) dX8_pass_20 rfl rfl ?_
    refine v_iadd (pc' := 22) dX8_pass_21 rfl ?_
    refine v_ldc (pc' := 24) dX8_pass_22 rfl kc_X8_92 ?_
    refine v_icmp_le (pc' := 27) (tgt := 30) dX8_pass_24 rfl (by decide) (fun hq => ?_) (fun hq => ?_)
    · rw [mm_at (by decide)] at hq
      exact absurd h (Int32.not_lt.mpr hq)
    · refine v_bipush (v := -5) (pc' := 29) dX8_pass_27 rfl (by decide) ?_
      exact v_iret dX8_pass_29 rfl (Nat.le_refl _) (Nat.le_refl _) ⟨rfl, rfl, rfl, rfl, rfl⟩
  · exact absurd (ite10.mp hb) (inr h1 h2 (by decide))
theorem e_pass {a : Nat} {ta : Int32} (hR : RS R) (hk : I 21 0 = nI k) (hk4 : k ≤ 4) (h1 : 1 ≤ a) (h2 : a ≤ 1000) (h : ¬ (1000000 : Int32) < r 2 + nI a) (hta : r 2 + nI a = ta) (hTR : va_up r 2 ta = TR) : Ok l yX8_pass cX8_pass 2 (some .int) 2 0 0 [.ref 278, .int (nI a)] (mm I r X) (mL L m Y) R 287 (eqP (some (.int ta)) (mm (SI I k) TR (SX k r X)) (mL L m (SY k m Y)) R 287) := by
  refine Ok.ofV [some (.ref 278), some (.int (nI a))] rfl (by decide) (Nat.le_of_ble_eq_true rfl) ?_
  refine v_iload_n (pc' := 1) dX8_pass_0 rfl rfl ?_
  refine v_iconst (v := nI 1) (pc' := 2) dX8_pass_1 rfl (by decide) ?_
  refine v_sipush (v := nI 1000) (pc' := 5) dX8_pass_2 rfl (by decide) ?_
  refine v_cS3i (pc' := 8) dX8_pass_5 rfl cs_X8_47 (Nat.le_of_ble_eq_true rfl) rfl (m_in) ?_
  refine v_if_ne (pc' := 11) (tgt := 14) dX8_pass_8 rfl (by decide) (fun hb => ?_) (fun hb => ?_)
  · refine v_aload_n (pc' := 15) dX8_pass_14 rfl rfl ?_
    refine v_getQ (pc' := 18) dX8_pass_15 rfl gf_X8_7 kp_M rfl (rf_M_row hR) ?_
    refine v_iconst (v := nI 2) (pc' := 19) dX8_pass_18 rfl (by decide) ?_
    refine v_ial (pc' := 20) dX8_pass_19 rfl kp_row (Nat.zero_add _) rfl (by omega) ?_
    refine v_iload_n (pc' := 21) dX8_pass_20 rfl rfl ?_
    refine v_iadd (pc' := 22) dX8_pass_21 rfl ?_
    refine v_ldc (pc' := 24) dX8_pass_22 rfl kc_X8_92 ?_
    refine v_icmp_le (pc' := 27) (tgt := 30) dX8_pass_24 rfl (by decide) (fun hq => ?_) (fun hq => ?_)
    · refine v_aload_n (pc' := 31) dX8_pass_30 rfl rfl ?_
      refine v_cV0v (pc' := 34) dX8_pass_31 rfl cv_X8_81 kp_M (Nat.le_of_ble_eq_true rfl) rfl (ok_sv hR hk hk4) ?_
      refine v_aload_n (pc' := 35) dX8_pass_34 rfl rfl ?_
      refine v_getQ (pc' := 38) dX8_pass_35 rfl gf_X8_7 kp_M rfl (rf_M_row hR) ?_
      refine v_iconst (v := nI 2) (pc' := 39) dX8_pass_38 rfl (by decide) ?_
      refine v_dup2 (pc' := 40) dX8_pass_39 rfl rfl rfl ?_
      refine v_ial (pc' := 41) dX8_pass_40 rfl kp_row (Nat.zero_add _) rfl (by omega) ?_
      refine v_iload_n (pc' := 42) dX8_pass_41 rfl rfl ?_
      refine v_iadd (pc' := 43) dX8_pass_42 rfl ?_
      refine v_ias (pc' := 44) dX8_pass_43 rfl kp_row (Nat.zero_add _) rfl (by omega) ?_
      rw [mm_at (by decide), hta, mm_st (by decide), hTR]
      refine v_aload_n (pc' := 45) dX8_pass_44 rfl rfl ?_
      refine v_getQ (pc' := 48) dX8_pass_45 rfl gf_X8_7 kp_M rfl (rf_M_row hR) ?_
      refine v_iconst (v := nI 2) (pc' := 49) dX8_pass_48 rfl (by decide) ?_
      refine v_ial (pc' := 50) dX8_pass_49 rfl kp_row (Nat.zero_add _) rfl (by omega) ?_
      exact v_iret dX8_pass_50 rfl (Nat.le_refl _) (Nat.le_refl _) ⟨by rw [mm_at (by decide), ← hTR, va_up_self], rfl, rfl, rfl, rfl⟩
    · rw [mm_at (by decide)] at hq
      exact absurd (Int32.not_le.mp hq) h
  · exact absurd (ite10.mp hb) (inr h1 h2 (by decide))
theorem ofE_neg (a : Int32) : ofE a < 0 := by
  unfold ofE
  split <;> decide
theorem e_store_no {a b : Int32} (h : noC a ∨ noO b) : Ok l yX8_store cX8_store 4 (some .int) 4 0 0 [.ref 278, .int a, .int b] I L R 287 (eqP (some (.int (ofE a))) I L R 287) := by
  refine Ok.ofV [some (.ref 278), some (.int a), some (.int b), none] rfl (by decide) (Nat.le_of_ble_eq_true rfl) ?_
  refine v_iload_n (pc' := 1) dX8_store_0 rfl rfl ?_
  refine v_iload_n (pc' := 2) dX8_store_1 rfl rfl ?_
  refine v_cS2i (pc' := 5) dX8_store_2 rfl cs_X8_96 (Nat.le_of_ble_eq_true rfl) rfl (m_no2 h) ?_
  refine v_istore_n3 (pc' := 6) dX8_store_5 rfl (by decide) rfl ?_
  refine v_iload_n (pc' := 7) dX8_store_6 rfl rfl ?_
  refine v_if_ge (pc' := 10) (tgt := 12) dX8_store_7 rfl (by decide) (fun hb => ?_) (fun hb => ?_)
  · exact absurd (ofE_neg a) (Int32.not_lt.mpr hb)
  · refine v_iload_n (pc' := 11) dX8_store_10 rfl rfl ?_
    exact v_iret dX8_store_11 rfl (Nat.le_refl _) (Nat.le_refl _) ⟨rfl, rfl, rfl, rfl, rfl⟩
theorem e_store {c x : Nat} {ta : Int32} (hR : RS R) (hF : MF I) (hk : I 21 0 = nI k) (hk4 : k ≤ 4) (hI : Inv r) (hc : c < 5) (hx : x < 1000) (hta : aTake c x r = ta) (hTR : rTake c x r = TR) : Ok l yX8_store cX8_store 4 (some .int) 4 0 0 [.ref 278, .int (nI c), .int (nI x)] (mm I r X) (mL L m Y) R 287 (eqP (some (.int ta)) (mm (SI I k) TR (SX k r X)) (mL L m (SY k m Y)) R 287) := by
  refine Ok.ofV [some (.ref 278), some (.int (nI c)), some (.int (nI x)), none] rfl (by decide) (Nat.le_of_ble_eq_true rfl) ?_
  refine v_iload_n (pc' := 1) dX8_store_0 rfl rfl ?_
  refine v_iload_n (pc' := 2) dX8_store_1 rfl rfl ?_
  refine v_cS2i (pc' := 5) dX8_store_2 rfl cs_X8_96 (Nat.le_of_ble_eq_true rfl) rfl (m_no1 hc hx) ?_
  refine v_istore_n3 (pc' := 6) dX8_store_5 rfl (by decide) rfl ?_
  refine v_iload_n (pc' := 7) dX8_store_6 rfl rfl ?_
  refine v_if_ge (pc' := 10) (tgt := 12) dX8_store_7 rfl (by decide) (fun hb => ?_) (fun hb => ?_)
  · refine v_aload_n (pc' := 13) dX8_store_12 rfl rfl ?_
    refine v_cV0v (pc' := 16) dX8_store_13 rfl cv_X8_81 kp_M (Nat.le_of_ble_eq_true rfl) rfl (ok_sv hR hk hk4) ?_
    refine v_aload_n (pc' := 17) dX8_store_16 rfl rfl ?_
    refine v_iload_n (pc' := 18) dX8_store_17 rfl rfl ?_
    refine v_iload_n (pc' := 19) dX8_store_18 rfl rfl ?_
    refine v_cV2i (pc' := 22) dX8_store_19 rfl cv_X8_99 kp_M (Nat.le_of_ble_eq_true rfl) rfl (m_stores hR (MF_SI hF) hc hx hI.1 (hI.2.1 c hc) hTR) ?_
    exact v_iret dX8_store_22 rfl (Nat.le_refl _) (Nat.le_refl _) ⟨by rw [hta], rfl, rfl, rfl, rfl⟩
  · exact absurd (by decide) hb
theorem e_drop_no1 {a b : Int32} (h : noC a ∨ noO b) : Ok l yX8_drop cX8_drop 5 (some .int) 3 0 0 [.ref 278, .int a, .int b] I L R 287 (eqP (some (.int (ofE a))) I L R 287) := by
  refine Ok.ofV [some (.ref 278), some (.int a), some (.int b), none, none] rfl (by decide) (Nat.le_of_ble_eq_true rfl) ?_
  refine v_iload_n (pc' := 1) dX8_drop_0 rfl rfl ?_
  refine v_iload_n (pc' := 2) dX8_drop_1 rfl rfl ?_
  refine v_cS2i (pc' := 5) dX8_drop_2 rfl cs_X8_96 (Nat.le_of_ble_eq_true rfl) rfl (m_no2 h) ?_
  refine v_istore_n3 (pc' := 6) dX8_drop_5 rfl (by decide) rfl ?_
  refine v_iload_n (pc' := 7) dX8_drop_6 rfl rfl ?_
  refine v_if_ge (pc' := 10) (tgt := 12) dX8_drop_7 rfl (by decide) (fun hb => ?_) (fun hb => ?_)
  · exact absurd (ofE_neg a) (Int32.not_lt.mpr hb)
  · refine v_iload_n (pc' := 11) dX8_drop_10 rfl rfl ?_
    exact v_iret dX8_drop_11 rfl (Nat.le_refl _) (Nat.le_refl _) ⟨rfl, rfl, rfl, rfl, rfl⟩
theorem e_drop_no2 {c x : Nat} (hR : RS R) (hI : Inv r) (hc : c < 5) (hx : x < 1000) (h : rFind c x r = none) : Ok l yX8_drop cX8_drop 5 (some .int) 3 0 0 [.ref 278, .int (nI c), .int (nI x)] (mm I r X) L R 287 (eqP (some (.int (-4))) (mm I r X) L R 287) := by
  obtain ⟨i1, i2, i3, i4⟩ := (hI.2.1 c hc).1
  refine Ok.ofV [some (.ref 278), some (.int (nI c)), some (.int (nI x)), none, none] rfl (by decide) (Nat.le_of_ble_eq_true rfl) ?_
  refine v_iload_n (pc' := 1) dX8_drop_0 rfl rfl ?_
  refine v_iload_n (pc' := 2) dX8_drop_1 rfl rfl ?_
  refine v_cS2i (pc' := 5) dX8_drop_2 rfl cs_X8_96 (Nat.le_of_ble_eq_true rfl) rfl (m_no1 hc hx) ?_
  refine v_istore_n3 (pc' := 6) dX8_drop_5 rfl (by decide) rfl ?_
  refine v_iload_n (pc' := 7) dX8_drop_6 rfl rfl ?_
  refine v_if_ge (pc' := 10) (tgt := 12) dX8_drop_7 rfl (by decide) (fun hb => ?_) (fun hb => ?_)
  · refine v_aload_n (pc' := 13) dX8_drop_12 rfl rfl ?_
    refine v_iload_n (pc' := 14) dX8_drop_13 rfl rfl ?_
    refine v_iload_n (pc' := 15) dX8_drop_14 rfl rfl ?_
    refine v_cV2i (pc' := 18) dX8_drop_15 rfl cv_X8_68 kp_M (Nat.le_of_ble_eq_true rfl) rfl (m_find hR hc i1 i2) ?_
    rw [show fdx r c x (gS r c) = none from h]
    refine v_istore4 (pc' := 20) dX8_drop_18 rfl (by decide) rfl ?_
    refine v_iload (pc' := 22) dX8_drop_20 rfl rfl ?_
    refine v_if_ge (pc' := 25) (tgt := 28) dX8_drop_22 rfl (by decide) (fun hq => ?_) (fun hq => ?_)
    · exact absurd hq (by decide)
    · refine v_bipush (v := -4) (pc' := 27) dX8_drop_25 rfl (by decide) ?_
      exact v_iret dX8_drop_27 rfl (Nat.le_refl _) (Nat.le_refl _) ⟨rfl, rfl, rfl, rfl, rfl⟩
  · exact absurd (by decide) hb
theorem e_drop {c x i : Nat} (hR : RS R) (hF : MF I) (hk : I 21 0 = nI k) (hk4 : k ≤ 4) (hI : Inv r) (hc : c < 5) (hx : x < 1000) (h : rFind c x r = some i) (hTR : rRem c i r = TR) : Ok l yX8_drop cX8_drop 5 (some .int) 3 0 0 [.ref 278, .int (nI c), .int (nI x)] (mm I r X) (mL L m Y) R 287 (eqP (some (.int (nI (gS r c - 1)))) (mm (SI I k) TR (SX k r X)) (mL L m (SY k m Y)) R 287) := by
  obtain ⟨i1, i2, i3, i4⟩ := (hI.2.1 c hc).1
  obtain ⟨m1, m2, m3, m4, m5, m6⟩ := hI.1
  obtain ⟨f1, f2⟩ := fdx_lt (show fdx r c x (gS r c) = some i from h)
  have eo : gO r c i = x := nn_at f2 (by omega)
  have hsz : TR (7 + 110 * c) = nI (gS r c - 1) := by rw [← hTR]; exact rRem_sz hI.1
  rw [rRem_eq, eo] at hTR
  refine Ok.ofV [some (.ref 278), some (.int (nI c)), some (.int (nI x)), none, none] rfl (by decide) (Nat.le_of_ble_eq_true rfl) ?_
  refine v_iload_n (pc' := 1) dX8_drop_0 rfl rfl ?_
  refine v_iload_n (pc' := 2) dX8_drop_1 rfl rfl ?_
  refine v_cS2i (pc' := 5) dX8_drop_2 rfl cs_X8_96 (Nat.le_of_ble_eq_true rfl) rfl (m_no1 hc hx) ?_
  refine v_istore_n3 (pc' := 6) dX8_drop_5 rfl (by decide) rfl ?_
  refine v_iload_n (pc' := 7) dX8_drop_6 rfl rfl ?_
  refine v_if_ge (pc' := 10) (tgt := 12) dX8_drop_7 rfl (by decide) (fun hb => ?_) (fun hb => ?_)
  · refine v_aload_n (pc' := 13) dX8_drop_12 rfl rfl ?_
    refine v_iload_n (pc' := 14) dX8_drop_13 rfl rfl ?_
    refine v_iload_n (pc' := 15) dX8_drop_14 rfl rfl ?_
    refine v_cV2i (pc' := 18) dX8_drop_15 rfl cv_X8_68 kp_M (Nat.le_of_ble_eq_true rfl) rfl (m_find hR hc i1 i2) ?_
    rw [show fdx r c x (gS r c) = some i from h]
    show V l yX8_drop cX8_drop 5 (some .int) (rmd 3 0 0) (QM 0 0 (eqP (some (.int (nI (gS r c - 1)))) (mm (SI I k) TR (SX k r X)) (mL L m (SY k m Y)) R 287)) (fun _ _ => True) 18 [some (.ref 278), some (.int (nI c)), some (.int (nI x)), some (.int (nI 0)), none] [.int (nI i)] (mm I r X) (mL L m Y) R 287 0 0
    refine v_istore4 (pc' := 20) dX8_drop_18 rfl (by decide) rfl ?_
    refine v_iload (pc' := 22) dX8_drop_20 rfl rfl ?_
    refine v_if_ge (pc' := 25) (tgt := 28) dX8_drop_22 rfl (by decide) (fun hq => ?_) (fun hq => ?_)
    · refine v_aload_n (pc' := 29) dX8_drop_28 rfl rfl ?_
      refine v_cV0v (pc' := 32) dX8_drop_29 rfl cv_X8_81 kp_M (Nat.le_of_ble_eq_true rfl) rfl (ok_sv hR hk hk4) ?_
      refine v_aload_n (pc' := 33) dX8_drop_32 rfl rfl ?_
      refine v_iload_n (pc' := 34) dX8_drop_33 rfl rfl ?_
      refine v_iload (pc' := 36) dX8_drop_34 rfl rfl ?_
      refine v_cV2v (pc' := 39) dX8_drop_36 rfl cv_X8_71 kp_M (Nat.le_of_ble_eq_true rfl) rfl (m_takesOut hR hc i1 i2 f1) ?_
      refine v_aload_n (pc' := 40) dX8_drop_39 rfl rfl ?_
      refine v_iload_n (pc' := 41) dX8_drop_40 rfl rfl ?_
      refine v_iload_n (pc' := 42) dX8_drop_41 rfl rfl ?_
      refine v_cV2v (pc' := 45) dX8_drop_42 rfl cv_X8_65 kp_M (Nat.le_of_ble_eq_true rfl) rfl (m_discounts (TR := TR) hR (MF_SI hF) hc (by rw [va_up_ne _ _ (by omega), rSh_out (by omega)]; exact m1) (by omega) m3 (by rw [va_up_ne _ _ (by omega), rSh_out (by omega)]; exact m4) m6 hx hTR) ?_
      refine v_aload_n (pc' := 46) dX8_drop_45 rfl rfl ?_
      refine v_iload_n (pc' := 47) dX8_drop_46 rfl rfl ?_
      refine v_iconst (v := nI 1) (pc' := 48) dX8_drop_47 rfl (by decide) ?_
      refine v_cV2i (pc' := 51) dX8_drop_48 rfl cv_X8_55 kp_M (Nat.le_of_ble_eq_true rfl) rfl (m_of (w := 1) (j := 7 + 110 * c) hR rfl (by omega)) ?_
      exact v_iret dX8_drop_51 rfl (Nat.le_refl _) (Nat.le_refl _) ⟨by rw [hsz], rfl, rfl, rfl, rfl⟩
    · exact absurd (nI_pos' (by omega)) hq
  · exact absurd (by decide) hb
end B35
