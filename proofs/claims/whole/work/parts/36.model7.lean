/-! ===== DigestCachesModel: rebuild, publish, the answers ===== -/
def bfR (c n : Nat) (r w : Row) : Row := fun j => if j < n then r (24 + 110 * c + j) else w j
theorem bfR_succ {c n : Nat} {r w : Row} : va_up (bfR c n r w) n (r (24 + 110 * c + n)) = bfR c (n + 1) r w := by
  funext j
  unfold va_up bfR
  by_cases h : j = n
  · rw [if_pos h, if_pos (by omega), h]
  · rw [if_neg h]
    by_cases h2 : j < n
    · rw [if_pos h2, if_pos (by omega)]
    · rw [if_neg h2, if_neg (by omega)]
section B36
variable {l : Launch} {I : MI} {L : ML} {R : MR} {r X : Row} {m Y : Msk} {k : Nat} {TR : Row}
theorem e_rebuild_no {a : Int32} (h : noC a) : Ok l yX8_rebuild cX8_rebuild 4 (some .int) 3 0 0 [.ref 278, .int a] I L R 287 (eqP (some (.int (-2))) I L R 287) := by
  refine Ok.ofV [some (.ref 278), some (.int a), none, none] rfl (by decide) (Nat.le_of_ble_eq_true rfl) ?_
  refine v_iload_n (pc' := 1) dX8_rebuild_0 rfl rfl ?_
  refine v_cS1i (pc' := 4) dX8_rebuild_1 rfl cs_X8_88 (Nat.le_of_ble_eq_true rfl) rfl (m_isCache) ?_
  refine v_if_ne (pc' := 7) (tgt := 10) dX8_rebuild_4 rfl (by decide) (fun hb => ?_) (fun hb => ?_)
  · exact absurd (ite10.mpr h) hb
  · refine v_bipush (v := -2) (pc' := 9) dX8_rebuild_7 rfl (by decide) ?_
    exact v_iret dX8_rebuild_9 rfl (Nat.le_refl _) (Nat.le_refl _) ⟨rfl, rfl, rfl, rfl, rfl⟩
theorem e_rebuild {c : Nat} {ta : Int32} (hR : RS R) (hF : MF I) (hk : I 21 0 = nI k) (hk4 : k ≤ 4) (hI : Inv r) (hc : c < 5) (hta : aReb c r = ta) (hTR : rNew c r = TR) : Ok l yX8_rebuild cX8_rebuild 4 (some .int) 3 0 0 [.ref 278, .int (nI c)] (mm I r X) (mL L m Y) R 287 (eqP (some (.int ta)) (mm (va_up (SI I k) 24 (bfR c 64 r (I 24))) TR (SX k r X)) (mL L m (SY k m Y)) R 287) := by
  have hF2 : MF (va_up (SI I k) 24 (bfR c 64 r (I 24))) := fun f hf => by
    rw [va_up_ne _ _ (by decide), va_up_ne _ _ (by decide)]
    exact MF_SI hF f hf
  refine Ok.ofV [some (.ref 278), some (.int (nI c)), none, none] rfl (by decide) (Nat.le_of_ble_eq_true rfl) ?_
  refine v_iload_n (pc' := 1) dX8_rebuild_0 rfl rfl ?_
  refine v_cS1i (pc' := 4) dX8_rebuild_1 rfl cs_X8_88 (Nat.le_of_ble_eq_true rfl) rfl (m_isCache) ?_
  refine v_if_ne (pc' := 7) (tgt := 10) dX8_rebuild_4 rfl (by decide) (fun hb => ?_) (fun hb => ?_)
  · refine v_aload_n (pc' := 11) dX8_rebuild_10 rfl rfl ?_
    refine v_cV0v (pc' := 14) dX8_rebuild_11 rfl cv_X8_81 kp_M (Nat.le_of_ble_eq_true rfl) rfl (ok_sv hR hk hk4) ?_
    refine v_iconst (v := nI 0) (pc' := 15) dX8_rebuild_14 rfl (by decide) ?_
    refine v_istore_n2 (pc' := 16) dX8_rebuild_15 rfl (by decide) rfl ?_
    have l2 : ∀ (n d : Nat), d + n = 64 → V l yX8_rebuild cX8_rebuild 4 (some .int) (rmd 3 0 0) (QM 0 0 (eqP (some (.int ta)) (mm (va_up (SI I k) 24 (bfR c 64 r (I 24))) TR (SX k r X)) (mL L m (SY k m Y)) R 287)) (fun _ _ => True) 52 [some (.ref 278), some (.int (nI c)), some (.int (fDf TR (fun k => r (24 + 110 * c + k)) (24 + 110 * c) d)), some (.int (nI d))] [] (mm (va_up (SI I k) 24 (bfR c 64 r (I 24))) TR (SX k r X)) (mL L m (SY k m Y)) R 287 0 0 := by
      intro n
      induction n with
      | zero =>
        intro d hd
        refine v_iload_n (pc' := 53) dX8_rebuild_52 rfl rfl ?_
        refine v_bipush (v := nI 64) (pc' := 55) dX8_rebuild_53 rfl (by decide) ?_
        refine v_icmp_ge (pc' := 58) (tgt := 90) dX8_rebuild_55 rfl (by decide) (fun hb => ?_) (fun hb => ?_)
        · refine v_iload_n (pc' := 91) dX8_rebuild_90 rfl rfl ?_
          exact v_iret dX8_rebuild_91 rfl (Nat.le_refl _) (Nat.le_refl _) ⟨by rw [← hta, show d = 64 by omega]; unfold aReb; rw [hTR], rfl, rfl, rfl, rfl⟩
        · exact absurd (nI_le (by omega) (by omega)) hb
      | succ n ih =>
        intro d hd
        have nxt := ih (d + 1) (by omega)
        have eb : mm (va_up (SI I k) 24 (bfR c 64 r (I 24))) TR (SX k r X) 24 d = r (24 + 110 * c + d) := by
          rw [mm_o (by decide), va_up_self]
          exact if_pos (by omega)
        refine v_iload_n (pc' := 53) dX8_rebuild_52 rfl rfl ?_
        refine v_bipush (v := nI 64) (pc' := 55) dX8_rebuild_53 rfl (by decide) ?_
        refine v_icmp_ge (pc' := 58) (tgt := 90) dX8_rebuild_55 rfl (by decide) (fun hb => ?_) (fun hb => ?_)
        · exact absurd hb (nI_ge (by omega) (by omega))
        · refine v_iload_n (pc' := 59) dX8_rebuild_58 rfl rfl ?_
          refine v_aload_n (pc' := 60) dX8_rebuild_59 rfl rfl ?_
          refine v_getQ (pc' := 63) dX8_rebuild_60 rfl gf_X8_23 kp_M rfl (rf_M_before hR) ?_
          refine v_iload_n (pc' := 64) dX8_rebuild_63 rfl rfl ?_
          refine v_ial (pc' := 65) dX8_rebuild_64 rfl kp_before (Nat.zero_add _) rfl (by omega) ?_
          refine v_aload_n (pc' := 66) dX8_rebuild_65 rfl rfl ?_
          refine v_iload_n (pc' := 67) dX8_rebuild_66 rfl rfl ?_
          refine v_bipush (v := nI 18) (pc' := 69) dX8_rebuild_67 rfl (by decide) ?_
          refine v_iload_n (pc' := 70) dX8_rebuild_69 rfl rfl ?_
          refine v_iadd (pc' := 71) dX8_rebuild_70 rfl ?_
          refine v_cV2i (pc' := 74) dX8_rebuild_71 rfl cv_X8_55 kp_M (Nat.le_of_ble_eq_true rfl) rfl (m_of (w := 18 + d) (j := 24 + 110 * c + d) hR (nI_add _ _) (by omega)) ?_
          refine v_icmp_eq (pc' := 77) (tgt := 81) dX8_rebuild_74 rfl (by decide) (fun hq => ?_) (fun hq => ?_)
          · rw [eb] at hq
            refine v_iconst (v := nI 0) (pc' := 82) dX8_rebuild_81 rfl (by decide) ?_
            refine v_iadd (pc' := 83) dX8_rebuild_82 rfl ?_
            refine v_istore_n2 (pc' := 84) dX8_rebuild_83 rfl (by decide) rfl ?_
            refine v_iinc3 (pc' := 87) dX8_rebuild_84 rfl (by decide) rfl (inc_nI _) ?_
            refine v_goto (tgt := 52) dX8_rebuild_87 (by decide) ?_
            rw [show fDf TR (fun k => r (24 + 110 * c + k)) (24 + 110 * c) (d + 1) = fDf TR (fun k => r (24 + 110 * c + k)) (24 + 110 * c) d from if_pos hq.symm] at nxt
            rw [nI_0, Int32.add_zero]
            exact nxt
          · rw [eb] at hq
            refine v_iconst (v := nI 1) (pc' := 78) dX8_rebuild_77 rfl (by decide) ?_
            refine v_goto (tgt := 82) dX8_rebuild_78 (by decide) ?_
            refine v_iadd (pc' := 83) dX8_rebuild_82 rfl ?_
            refine v_istore_n2 (pc' := 84) dX8_rebuild_83 rfl (by decide) rfl ?_
            refine v_iinc3 (pc' := 87) dX8_rebuild_84 rfl (by decide) rfl (inc_nI _) ?_
            refine v_goto (tgt := 52) dX8_rebuild_87 (by decide) ?_
            rw [show fDf TR (fun k => r (24 + 110 * c + k)) (24 + 110 * c) (d + 1) = fDf TR (fun k => r (24 + 110 * c + k)) (24 + 110 * c) d + 1 from if_neg (fun z => hq z.symm)] at nxt
            exact nxt
    have l1 : ∀ (n d : Nat), d + n = 64 → V l yX8_rebuild cX8_rebuild 4 (some .int) (rmd 3 0 0) (QM 0 0 (eqP (some (.int ta)) (mm (va_up (SI I k) 24 (bfR c 64 r (I 24))) TR (SX k r X)) (mL L m (SY k m Y)) R 287)) (fun _ _ => True) 16 [some (.ref 278), some (.int (nI c)), some (.int (nI d)), none] [] (mm (va_up (SI I k) 24 (bfR c d r (I 24))) r (SX k r X)) (mL L m (SY k m Y)) R 287 0 0 := by
      intro n
      induction n with
      | zero =>
        intro d hd
        refine v_iload_n (pc' := 17) dX8_rebuild_16 rfl rfl ?_
        refine v_bipush (v := nI 64) (pc' := 19) dX8_rebuild_17 rfl (by decide) ?_
        refine v_icmp_ge (pc' := 22) (tgt := 43) dX8_rebuild_19 rfl (by decide) (fun hb => ?_) (fun hb => ?_)
        · rw [show d = 64 by omega]
          refine v_aload_n (pc' := 44) dX8_rebuild_43 rfl rfl ?_
          refine v_iload_n (pc' := 45) dX8_rebuild_44 rfl rfl ?_
          refine v_cV1v (pc' := 48) dX8_rebuild_45 rfl cv_X8_84 kp_M (Nat.le_of_ble_eq_true rfl) rfl (m_countsAnew hR hF2 hc hI.1 (hI.2.1 c hc).1 hTR) ?_
          refine v_iconst (v := nI 0) (pc' := 49) dX8_rebuild_48 rfl (by decide) ?_
          refine v_istore_n2 (pc' := 50) dX8_rebuild_49 rfl (by decide) rfl ?_
          refine v_iconst (v := nI 0) (pc' := 51) dX8_rebuild_50 rfl (by decide) ?_
          refine v_istore_n3 (pc' := 52) dX8_rebuild_51 rfl (by decide) rfl ?_
          exact l2 64 0 (by omega)
        · exact absurd (nI_le (by omega) (by omega)) hb
      | succ n ih =>
        intro d hd
        refine v_iload_n (pc' := 17) dX8_rebuild_16 rfl rfl ?_
        refine v_bipush (v := nI 64) (pc' := 19) dX8_rebuild_17 rfl (by decide) ?_
        refine v_icmp_ge (pc' := 22) (tgt := 43) dX8_rebuild_19 rfl (by decide) (fun hb => ?_) (fun hb => ?_)
        · exact absurd hb (nI_ge (by omega) (by omega))
        · refine v_aload_n (pc' := 23) dX8_rebuild_22 rfl rfl ?_
          refine v_getQ (pc' := 26) dX8_rebuild_23 rfl gf_X8_23 kp_M rfl (rf_M_before hR) ?_
          refine v_iload_n (pc' := 27) dX8_rebuild_26 rfl rfl ?_
          refine v_aload_n (pc' := 28) dX8_rebuild_27 rfl rfl ?_
          refine v_iload_n (pc' := 29) dX8_rebuild_28 rfl rfl ?_
          refine v_bipush (v := nI 18) (pc' := 31) dX8_rebuild_29 rfl (by decide) ?_
          refine v_iload_n (pc' := 32) dX8_rebuild_31 rfl rfl ?_
          refine v_iadd (pc' := 33) dX8_rebuild_32 rfl ?_
          refine v_cV2i (pc' := 36) dX8_rebuild_33 rfl cv_X8_55 kp_M (Nat.le_of_ble_eq_true rfl) rfl (m_of (w := 18 + d) (j := 24 + 110 * c + d) hR (nI_add _ _) (by omega)) ?_
          refine v_ias (pc' := 37) dX8_rebuild_36 rfl kp_before (Nat.zero_add _) rfl (by omega) ?_
          refine v_iinc2 (pc' := 40) dX8_rebuild_37 rfl (by decide) rfl (inc_nI _) ?_
          refine v_goto (tgt := 16) dX8_rebuild_40 (by decide) ?_
          have nxt := ih (d + 1) (by omega)
          rw [mm_st2 (by decide)]
          unfold stI
          rw [va_up_self, bx_uu, bfR_succ]
          exact nxt
    have := l1 64 0 (by omega)
    have e0 : va_up (SI I k) 24 (bfR c 0 r (I 24)) = SI I k := by
      have : bfR c 0 r (I 24) = SI I k 24 := by
        unfold SI
        rw [stI_r (by decide)]
        funext j
        exact if_neg (by omega)
      rw [this, up_id]
    rw [e0] at this
    exact this
  · exact absurd (ite10.mp hb) (ncC hc)
theorem e_publish_no {a : Int32} (h : noC a) : Ok l yX8_publish cX8_publish 9 (some .int) 2 0 0 [.ref 278, .int a] I L R 287 (eqP (some (.int (-2))) I L R 287) := by
  refine Ok.ofV [some (.ref 278), some (.int a), none, none, none, none, none, none, none] rfl (by decide) (Nat.le_of_ble_eq_true rfl) ?_
  refine v_iload_n (pc' := 1) dX8_publish_0 rfl rfl ?_
  refine v_cS1i (pc' := 4) dX8_publish_1 rfl cs_X8_88 (Nat.le_of_ble_eq_true rfl) rfl (m_isCache) ?_
  refine v_if_ne (pc' := 7) (tgt := 10) dX8_publish_4 rfl (by decide) (fun hb => ?_) (fun hb => ?_)
  · exact absurd (ite10.mpr h) hb
  · refine v_bipush (v := -2) (pc' := 9) dX8_publish_7 rfl (by decide) ?_
    exact v_iret dX8_publish_9 rfl (Nat.le_refl _) (Nat.le_refl _) ⟨rfl, rfl, rfl, rfl, rfl⟩
theorem e_publish {c : Nat} {ta : Int32} {TM : Msk} (hR : RS R) (hF : MF I) (hk : I 21 0 = nI k) (hk4 : k ≤ 4) (hI : Inv r) (hc : c < 5) (hTR : rPub c r m = TR) (hTM : (rPq c r m).2.1 = TM) (hta : (rPq c r m).2.2 = ta) : Ok l yX8_publish cX8_publish 9 (some .int) 2 0 0 [.ref 278, .int (nI c)] (mm I r X) (mL L m Y) R 287 (eqP (some (.int ta)) (mm (SI I k) TR (SX k r X)) (mL L TM (SY k m Y)) R 287) := by
  obtain ⟨m1, m2, m3, m4, m5, m6⟩ := hI.1
  unfold rPub at hTR
  unfold rPq at hTR hTM hta
  have e2 : va_up r (88 + 110 * c) (r (88 + 110 * c) + nI 1) 2 = r 2 := va_up_ne _ _ (by omega)
  have ex : rBits c r ^^^ m c = m c ^^^ rBits c r := Int64.xor_comm _ _
  rw [ex] at hTR hTM hta
  refine Ok.ofV [some (.ref 278), some (.int (nI c)), none, none, none, none, none, none, none] rfl (by decide) (Nat.le_of_ble_eq_true rfl) ?_
  refine v_iload_n (pc' := 1) dX8_publish_0 rfl rfl ?_
  refine v_cS1i (pc' := 4) dX8_publish_1 rfl cs_X8_88 (Nat.le_of_ble_eq_true rfl) rfl (m_isCache) ?_
  refine v_if_ne (pc' := 7) (tgt := 10) dX8_publish_4 rfl (by decide) (fun hb => ?_) (fun hb => ?_)
  · refine v_aload_n (pc' := 11) dX8_publish_10 rfl rfl ?_
    refine v_cV0v (pc' := 14) dX8_publish_11 rfl cv_X8_81 kp_M (Nat.le_of_ble_eq_true rfl) rfl (ok_sv hR hk hk4) ?_
    refine v_aload_n (pc' := 15) dX8_publish_14 rfl rfl ?_
    refine v_iload_n (pc' := 16) dX8_publish_15 rfl rfl ?_
    refine v_bipush (v := nI 82) (pc' := 18) dX8_publish_16 rfl (by decide) ?_
    refine v_cV2i (pc' := 21) dX8_publish_18 rfl cv_X8_55 kp_M (Nat.le_of_ble_eq_true rfl) rfl (m_of (w := 82) (j := 88 + 110 * c) hR rfl (by omega)) ?_
    refine v_istore_n2 (pc' := 22) dX8_publish_21 rfl (by decide) rfl ?_
    refine v_aload_n (pc' := 23) dX8_publish_22 rfl rfl ?_
    refine v_iload_n (pc' := 24) dX8_publish_23 rfl rfl ?_
    refine v_cV1l (pc' := 27) dX8_publish_24 rfl cv_X8_102 kp_M (Nat.le_of_ble_eq_true rfl) rfl (m_bitsOf hR hc m1 m3 rfl) ?_
    refine v_lstore_n3 (pc' := 28) dX8_publish_27 rfl (by decide) rfl ?_
    refine v_iconst (v := nI 1) (pc' := 29) dX8_publish_28 rfl (by decide) ?_
    refine v_aload_n (pc' := 30) dX8_publish_29 rfl rfl ?_
    refine v_getQ (pc' := 33) dX8_publish_30 rfl gf_X8_13 kp_M rfl (rf_M_mask hR) ?_
    refine v_iload_n (pc' := 34) dX8_publish_33 rfl rfl ?_
    rw [show fBt r c (gM r) = rBits c r from rfl]
    refine v_lal (pc' := 35) dX8_publish_34 rfl kp_mask (Nat.zero_add _) rfl (by omega) ?_
    rw [mL_at (by omega)]
    refine v_lload_n (pc' := 36) dX8_publish_35 rfl rfl ?_
    refine v_lxor (pc' := 37) dX8_publish_36 rfl ?_
    refine v_cS1i (pc' := 40) dX8_publish_37 rfl cs_X8_112 (Nat.le_of_ble_eq_true rfl) rfl (m_bits) ?_
    refine v_iadd (pc' := 41) dX8_publish_40 rfl ?_
    refine v_istore5 (pc' := 43) dX8_publish_41 rfl (by decide) rfl ?_
    refine v_iconst (v := nI 2) (pc' := 44) dX8_publish_43 rfl (by decide) ?_
    refine v_aload_n (pc' := 45) dX8_publish_44 rfl rfl ?_
    refine v_getQ (pc' := 48) dX8_publish_45 rfl gf_X8_7 kp_M rfl (rf_M_row hR) ?_
    refine v_iconst (v := nI 0) (pc' := 49) dX8_publish_48 rfl (by decide) ?_
    refine v_ial (pc' := 50) dX8_publish_49 rfl kp_row (Nat.zero_add _) rfl (by omega) ?_
    rw [mm_at (by decide), m1]
    refine v_iconst (v := nI 4) (pc' := 51) dX8_publish_50 rfl (by decide) ?_
    refine v_idiv (pc' := 52) dX8_publish_51 rfl (by decide) ?_
    refine v_iadd (pc' := 53) dX8_publish_52 rfl ?_
    rw [pk_div (by omega) (by decide) (by decide), nI_add]
    generalize hnow : rBits c r = now at *
    generalize hch : nI 1 + pcn (m c ^^^ now) 64 = ch at *
    generalize hwh : nI (2 + gM r / 4) = wh at *
    generalize hhad : r (88 + 110 * c) = had at *
    refine v_istore6 (pc' := 55) dX8_publish_53 rfl (by decide) rfl ?_
    refine v_iconst (v := nI 0) (pc' := 56) dX8_publish_55 rfl (by decide) ?_
    refine v_istore7 (pc' := 58) dX8_publish_56 rfl (by decide) rfl ?_
    refine v_aload_n (pc' := 59) dX8_publish_58 rfl rfl ?_
    refine v_iload_n (pc' := 60) dX8_publish_59 rfl rfl ?_
    refine v_bipush (v := nI 82) (pc' := 62) dX8_publish_60 rfl (by decide) ?_
    refine v_iload_n (pc' := 63) dX8_publish_62 rfl rfl ?_
    refine v_iconst (v := nI 1) (pc' := 64) dX8_publish_63 rfl (by decide) ?_
    refine v_iadd (pc' := 65) dX8_publish_64 rfl ?_
    refine v_cV3v (pc' := 68) dX8_publish_65 rfl cv_X8_35 kp_M (Nat.le_of_ble_eq_true rfl) rfl (m_sets (w := 82) (j := 88 + 110 * c) hR rfl (by omega)) ?_
    refine v_aload_n (pc' := 69) dX8_publish_68 rfl rfl ?_
    refine v_getQ (pc' := 72) dX8_publish_69 rfl gf_X8_13 kp_M rfl (rf_M_mask hR) ?_
    refine v_iload_n (pc' := 73) dX8_publish_72 rfl rfl ?_
    refine v_lload_n (pc' := 74) dX8_publish_73 rfl rfl ?_
    refine v_las (pc' := 75) dX8_publish_74 rfl kp_mask (Nat.zero_add _) rfl (by omega) ?_
    refine v_iconst (v := nI 0) (pc' := 76) dX8_publish_75 rfl (by decide) ?_
    refine v_istore8 (pc' := 78) dX8_publish_76 rfl (by decide) rfl ?_
    rw [mL_st (by omega)]
    generalize va_up r (88 + 110 * c) (had + nI 1) = r0 at *
    generalize va_up m c now = m0 at *
    generalize hQ : pbS c had now ch wh (r 2) 5 (r0, m0, nI 0) = Q at hTR hTM hta
    have loop : ∀ (n t : Nat) (q : Row × Msk × Int32), t + n = 5 → q = pbS c had now ch wh (r 2) t (r0, m0, nI 0) → V l yX8_publish cX8_publish 9 (some .int) (rmd 2 0 0) (QM 0 0 (eqP (some (.int ta)) (mm (SI I k) TR (SX k r X)) (mL L TM (SY k m Y)) R 287)) (fun _ _ => True) 78 [some (.ref 278), some (.int (nI c)), some (.int had), some (.long now), none, some (.int ch), some (.int wh), some (.int q.2.2), some (.int (nI t))] [] (mm (SI I k) q.1 (SX k r X)) (mL L q.2.1 (SY k m Y)) R 287 0 0 := by
      intro n
      induction n with
      | zero =>
        intro t q ht hq
        have hqQ : q = Q := by rw [hq, ← hQ, show t = 5 by omega]
        rw [hqQ]
        refine v_iload (pc' := 80) dX8_publish_78 rfl rfl ?_
        refine v_iconst (v := nI 5) (pc' := 81) dX8_publish_80 rfl (by decide) ?_
        refine v_icmp_ge (pc' := 84) (tgt := 186) dX8_publish_81 rfl (by decide) (fun hb => ?_) (fun hb => ?_)
        · refine v_aload_n (pc' := 187) dX8_publish_186 rfl rfl ?_
          refine v_iload_n (pc' := 188) dX8_publish_187 rfl rfl ?_
          refine v_bipush (v := nI 89) (pc' := 190) dX8_publish_188 rfl (by decide) ?_
          refine v_iload (pc' := 192) dX8_publish_190 rfl rfl ?_
          refine v_cV3v (pc' := 195) dX8_publish_192 rfl cv_X8_59 kp_M (Nat.le_of_ble_eq_true rfl) rfl (m_adds (w := 89) (j := 89 + 110 * c + 6) hR rfl (by omega)) ?_
          refine v_iload (pc' := 197) dX8_publish_195 rfl rfl ?_
          exact v_iret dX8_publish_197 rfl (Nat.le_refl _) (Nat.le_refl _) ⟨by rw [hta], by rw [hTR], by rw [hTM], rfl, rfl⟩
        · exact absurd (nI_le (by omega) (by omega)) hb
      | succ n ih =>
        intro t q ht hq
        have ht5 : t < 5 := by omega
        have e : pbS c had now ch wh (r 2) (t + 1) (r0, m0, nI 0) = pb1 c had now ch wh (r 2) t q := by
          rw [hq]
          rfl
        have q2 : q.1 2 = r 2 := by
          rw [hq, pbS_ne (fun t ht => by omega) t (by omega)]
          exact e2
        have skip : ¬ (t ≠ c ∧ q.1 (96 + 110 * c + t) = nI 1) → V l yX8_publish cX8_publish 9 (some .int) (rmd 2 0 0) (QM 0 0 (eqP (some (.int ta)) (mm (SI I k) TR (SX k r X)) (mL L TM (SY k m Y)) R 287)) (fun _ _ => True) 180 [some (.ref 278), some (.int (nI c)), some (.int had), some (.long now), none, some (.int ch), some (.int wh), some (.int q.2.2), some (.int (nI t))] [] (mm (SI I k) q.1 (SX k r X)) (mL L q.2.1 (SY k m Y)) R 287 0 0 := by
          intro hn
          refine v_iinc8 (pc' := 183) dX8_publish_180 rfl (by decide) rfl (inc_nI _) ?_
          refine v_goto (tgt := 78) dX8_publish_183 (by decide) ?_
          exact ih (t + 1) q (by omega) (by rw [e]; exact (if_neg hn).symm)
        have put : (t ≠ c ∧ q.1 (96 + 110 * c + t) = nI 1) → ∀ v, v = q.2.2 + (if q.1 (106 + 110 * t + c) = had ∧ ch < wh then ch else wh) → V l yX8_publish cX8_publish 9 (some .int) (rmd 2 0 0) (QM 0 0 (eqP (some (.int ta)) (mm (SI I k) TR (SX k r X)) (mL L TM (SY k m Y)) R 287)) (fun _ _ => True) 137 [some (.ref 278), some (.int (nI c)), some (.int had), some (.long now), none, some (.int ch), some (.int wh), some (.int v), some (.int (nI t))] [] (mm (SI I k) q.1 (SX k r X)) (mL L q.2.1 (SY k m Y)) R 287 0 0 := by
          intro hy v hv
          have nxt := ih (t + 1) _ (by omega) rfl
          rw [e] at nxt
          unfold pb1 at nxt
          rw [if_pos hy, ← hv] at nxt
          refine v_aload_n (pc' := 138) dX8_publish_137 rfl rfl ?_
          refine v_getQ (pc' := 141) dX8_publish_138 rfl gf_X8_13 kp_M rfl (rf_M_mask hR) ?_
          refine v_iconst (v := nI 5) (pc' := 142) dX8_publish_141 rfl (by decide) ?_
          refine v_iconst (v := nI 5) (pc' := 143) dX8_publish_142 rfl (by decide) ?_
          refine v_iload (pc' := 145) dX8_publish_143 rfl rfl ?_
          refine v_imul (pc' := 146) dX8_publish_145 rfl ?_
          refine v_iadd (pc' := 147) dX8_publish_146 rfl ?_
          refine v_iload_n (pc' := 148) dX8_publish_147 rfl rfl ?_
          refine v_iadd (pc' := 149) dX8_publish_148 rfl ?_
          refine v_lload_n (pc' := 150) dX8_publish_149 rfl rfl ?_
          refine v_las (pc' := 151) dX8_publish_150 rfl kp_mask (Nat.zero_add _) ix5 (by omega) ?_
          rw [mL_st (by omega)]
          refine v_aload_n (pc' := 152) dX8_publish_151 rfl rfl ?_
          refine v_iload (pc' := 154) dX8_publish_152 rfl rfl ?_
          refine v_bipush (v := nI 100) (pc' := 156) dX8_publish_154 rfl (by decide) ?_
          refine v_iload_n (pc' := 157) dX8_publish_156 rfl rfl ?_
          refine v_iadd (pc' := 158) dX8_publish_157 rfl ?_
          refine v_iload_n (pc' := 159) dX8_publish_158 rfl rfl ?_
          refine v_iconst (v := nI 1) (pc' := 160) dX8_publish_159 rfl (by decide) ?_
          refine v_iadd (pc' := 161) dX8_publish_160 rfl ?_
          refine v_cV3v (pc' := 164) dX8_publish_161 rfl cv_X8_35 kp_M (Nat.le_of_ble_eq_true rfl) rfl (m_sets (w := 100 + c) (j := 106 + 110 * t + c) hR (nI_add _ _) (by omega)) ?_
          refine v_aload_n (pc' := 165) dX8_publish_164 rfl rfl ?_
          refine v_iload (pc' := 167) dX8_publish_165 rfl rfl ?_
          refine v_bipush (v := nI 105) (pc' := 169) dX8_publish_167 rfl (by decide) ?_
          refine v_iload_n (pc' := 170) dX8_publish_169 rfl rfl ?_
          refine v_iadd (pc' := 171) dX8_publish_170 rfl ?_
          refine v_aload_n (pc' := 172) dX8_publish_171 rfl rfl ?_
          refine v_getQ (pc' := 175) dX8_publish_172 rfl gf_X8_7 kp_M rfl (rf_M_row hR) ?_
          refine v_iconst (v := nI 2) (pc' := 176) dX8_publish_175 rfl (by decide) ?_
          refine v_ial (pc' := 177) dX8_publish_176 rfl kp_row (Nat.zero_add _) rfl (by omega) ?_
          rw [mm_at (by decide), va_up_ne _ _ (by omega), q2]
          refine v_cV3v (pc' := 180) dX8_publish_177 rfl cv_X8_35 kp_M (Nat.le_of_ble_eq_true rfl) rfl (m_sets (w := 105 + c) (j := 111 + 110 * t + c) hR (nI_add _ _) (by omega)) ?_
          refine v_iinc8 (pc' := 183) dX8_publish_180 rfl (by decide) rfl (inc_nI _) ?_
          refine v_goto (tgt := 78) dX8_publish_183 (by decide) ?_
          exact nxt
        refine v_iload (pc' := 80) dX8_publish_78 rfl rfl ?_
        refine v_iconst (v := nI 5) (pc' := 81) dX8_publish_80 rfl (by decide) ?_
        refine v_icmp_ge (pc' := 84) (tgt := 186) dX8_publish_81 rfl (by decide) (fun hb => ?_) (fun hb => ?_)
        · exact absurd hb (nI_ge (by omega) (by omega))
        · refine v_iload (pc' := 86) dX8_publish_84 rfl rfl ?_
          refine v_iload_n (pc' := 87) dX8_publish_86 rfl rfl ?_
          refine v_icmp_eq (pc' := 90) (tgt := 180) dX8_publish_87 rfl (by decide) (fun hz => ?_) (fun hz => ?_)
          · exact skip (fun z => z.1 ((nI_eq (by omega) (by omega)).mp hz))
          · have hz : t ≠ c := fun z => hz (by rw [z])
            refine v_aload_n (pc' := 91) dX8_publish_90 rfl rfl ?_
            refine v_iload_n (pc' := 92) dX8_publish_91 rfl rfl ?_
            refine v_bipush (v := nI 90) (pc' := 94) dX8_publish_92 rfl (by decide) ?_
            refine v_iload (pc' := 96) dX8_publish_94 rfl rfl ?_
            refine v_iadd (pc' := 97) dX8_publish_96 rfl ?_
            refine v_cV2i (pc' := 100) dX8_publish_97 rfl cv_X8_55 kp_M (Nat.le_of_ble_eq_true rfl) rfl (m_of (w := 90 + t) (j := 96 + 110 * c + t) hR (nI_add _ _) (by omega)) ?_
            refine v_iconst (v := nI 1) (pc' := 101) dX8_publish_100 rfl (by decide) ?_
            refine v_icmp_ne (pc' := 104) (tgt := 180) dX8_publish_101 rfl (by decide) (fun hu => ?_) (fun hu => ?_)
            · exact skip (fun z => hu z.2)
            · refine v_iload (pc' := 106) dX8_publish_104 rfl rfl ?_
              refine v_aload_n (pc' := 107) dX8_publish_106 rfl rfl ?_
              refine v_iload (pc' := 109) dX8_publish_107 rfl rfl ?_
              refine v_bipush (v := nI 100) (pc' := 111) dX8_publish_109 rfl (by decide) ?_
              refine v_iload_n (pc' := 112) dX8_publish_111 rfl rfl ?_
              refine v_iadd (pc' := 113) dX8_publish_112 rfl ?_
              refine v_cV2i (pc' := 116) dX8_publish_113 rfl cv_X8_55 kp_M (Nat.le_of_ble_eq_true rfl) rfl (m_of (w := 100 + c) (j := 106 + 110 * t + c) hR (nI_add _ _) (by omega)) ?_
              refine v_iload_n (pc' := 117) dX8_publish_116 rfl rfl ?_
              refine v_icmp_ne (pc' := 120) (tgt := 132) dX8_publish_117 rfl (by decide) (fun hv => ?_) (fun hv => ?_)
              · refine v_iload (pc' := 134) dX8_publish_132 rfl rfl ?_
                refine v_iadd (pc' := 135) dX8_publish_134 rfl ?_
                refine v_istore7 (pc' := 137) dX8_publish_135 rfl (by decide) rfl ?_
                exact put ⟨hz, hu⟩ _ (by rw [if_neg (fun z => hv z.1)])
              · refine v_iload (pc' := 122) dX8_publish_120 rfl rfl ?_
                refine v_iload (pc' := 124) dX8_publish_122 rfl rfl ?_
                refine v_icmp_ge (pc' := 127) (tgt := 132) dX8_publish_124 rfl (by decide) (fun hw => ?_) (fun hw => ?_)
                · refine v_iload (pc' := 134) dX8_publish_132 rfl rfl ?_
                  refine v_iadd (pc' := 135) dX8_publish_134 rfl ?_
                  refine v_istore7 (pc' := 137) dX8_publish_135 rfl (by decide) rfl ?_
                  exact put ⟨hz, hu⟩ _ (by rw [if_neg (fun z => absurd z.2 (Int32.not_lt.mpr hw))])
                · refine v_iload (pc' := 129) dX8_publish_127 rfl rfl ?_
                  refine v_goto (tgt := 134) dX8_publish_129 (by decide) ?_
                  refine v_iadd (pc' := 135) dX8_publish_134 rfl ?_
                  refine v_istore7 (pc' := 137) dX8_publish_135 rfl (by decide) rfl ?_
                  exact put ⟨hz, hu⟩ _ (by rw [if_pos ⟨hv, Int32.not_le.mp hw⟩])
    exact loop 5 0 (r0, m0, nI 0) (by omega) rfl
  · exact absurd (ite10.mp hb) (ncC hc)
theorem e_size_no {a : Int32} (h : noC a) : Ok l yX8_size cX8_size 2 (some .int) 2 0 0 [.ref 278, .int a] I L R 287 (eqP (some (.int (-2))) I L R 287) := by
  refine Ok.ofV [some (.ref 278), some (.int a)] rfl (by decide) (Nat.le_of_ble_eq_true rfl) ?_
  refine v_iload_n (pc' := 1) dX8_size_0 rfl rfl ?_
  refine v_cS1i (pc' := 4) dX8_size_1 rfl cs_X8_88 (Nat.le_of_ble_eq_true rfl) rfl (m_isCache) ?_
  refine v_if_eq (pc' := 7) (tgt := 16) dX8_size_4 rfl (by decide) (fun hb => ?_) (fun hb => ?_)
  · refine v_bipush (v := -2) (pc' := 18) dX8_size_16 rfl (by decide) ?_
    exact v_iret dX8_size_18 rfl (Nat.le_refl _) (Nat.le_refl _) ⟨rfl, rfl, rfl, rfl, rfl⟩
  · exact absurd (ite10.mpr h) hb
theorem e_size {c : Nat} (hR : RS R) (hc : c < 5) : Ok l yX8_size cX8_size 2 (some .int) 2 0 0 [.ref 278, .int (nI c)] (mm I r X) L R 287 (eqP (some (.int (r (7 + 110 * c)))) (mm I r X) L R 287) := by
  refine Ok.ofV [some (.ref 278), some (.int (nI c))] rfl (by decide) (Nat.le_of_ble_eq_true rfl) ?_
  refine v_iload_n (pc' := 1) dX8_size_0 rfl rfl ?_
  refine v_cS1i (pc' := 4) dX8_size_1 rfl cs_X8_88 (Nat.le_of_ble_eq_true rfl) rfl (m_isCache) ?_
  refine v_if_eq (pc' := 7) (tgt := 16) dX8_size_4 rfl (by decide) (fun hb => ?_) (fun hb => ?_)
  · exact absurd (ite10.mp hb) (ncC hc)
  · refine v_aload_n (pc' := 8) dX8_size_7 rfl rfl ?_
    refine v_iload_n (pc' := 9) dX8_size_8 rfl rfl ?_
    refine v_iconst (v := nI 1) (pc' := 10) dX8_size_9 rfl (by decide) ?_
    refine v_cV2i (pc' := 13) dX8_size_10 rfl cv_X8_55 kp_M (Nat.le_of_ble_eq_true rfl) rfl (m_of (w := 1) (j := 7 + 110 * c) hR rfl (by omega)) ?_
    refine v_goto (tgt := 18) dX8_size_13 (by decide) ?_
    exact v_iret dX8_size_18 rfl (Nat.le_refl _) (Nat.le_refl _) ⟨rfl, rfl, rfl, rfl, rfl⟩
theorem e_version_no {a : Int32} (h : noC a) : Ok l yX8_version cX8_version 2 (some .int) 2 0 0 [.ref 278, .int a] I L R 287 (eqP (some (.int (-2))) I L R 287) := by
  refine Ok.ofV [some (.ref 278), some (.int a)] rfl (by decide) (Nat.le_of_ble_eq_true rfl) ?_
  refine v_iload_n (pc' := 1) dX8_version_0 rfl rfl ?_
  refine v_cS1i (pc' := 4) dX8_version_1 rfl cs_X8_88 (Nat.le_of_ble_eq_true rfl) rfl (m_isCache) ?_
  refine v_if_eq (pc' := 7) (tgt := 17) dX8_version_4 rfl (by decide) (fun hb => ?_) (fun hb => ?_)
  · refine v_bipush (v := -2) (pc' := 19) dX8_version_17 rfl (by decide) ?_
    exact v_iret dX8_version_19 rfl (Nat.le_refl _) (Nat.le_refl _) ⟨rfl, rfl, rfl, rfl, rfl⟩
  · exact absurd (ite10.mpr h) hb
theorem e_version {c : Nat} (hR : RS R) (hc : c < 5) : Ok l yX8_version cX8_version 2 (some .int) 2 0 0 [.ref 278, .int (nI c)] (mm I r X) L R 287 (eqP (some (.int (r (88 + 110 * c)))) (mm I r X) L R 287) := by
  refine Ok.ofV [some (.ref 278), some (.int (nI c))] rfl (by decide) (Nat.le_of_ble_eq_true rfl) ?_
  refine v_iload_n (pc' := 1) dX8_version_0 rfl rfl ?_
  refine v_cS1i (pc' := 4) dX8_version_1 rfl cs_X8_88 (Nat.le_of_ble_eq_true rfl) rfl (m_isCache) ?_
  refine v_if_eq (pc' := 7) (tgt := 17) dX8_version_4 rfl (by decide) (fun hb => ?_) (fun hb => ?_)
  · exact absurd (ite10.mp hb) (ncC hc)
  · refine v_aload_n (pc' := 8) dX8_version_7 rfl rfl ?_
    refine v_iload_n (pc' := 9) dX8_version_8 rfl rfl ?_
    refine v_bipush (v := nI 82) (pc' := 11) dX8_version_9 rfl (by decide) ?_
    refine v_cV2i (pc' := 14) dX8_version_11 rfl cv_X8_55 kp_M (Nat.le_of_ble_eq_true rfl) rfl (m_of (w := 82) (j := 88 + 110 * c) hR rfl (by omega)) ?_
    refine v_goto (tgt := 19) dX8_version_14 (by decide) ?_
    exact v_iret dX8_version_19 rfl (Nat.le_refl _) (Nat.le_refl _) ⟨rfl, rfl, rfl, rfl, rfl⟩
theorem e_held_no1 {a b : Int32} (h : noC a) : Ok l yX8_held cX8_held 3 (some .int) 2 0 0 [.ref 278, .int a, .int b] I L R 287 (eqP (some (.int (-2))) I L R 287) := by
  refine Ok.ofV [some (.ref 278), some (.int a), some (.int b)] rfl (by decide) (Nat.le_of_ble_eq_true rfl) ?_
  refine v_iload_n (pc' := 1) dX8_held_0 rfl rfl ?_
  refine v_cS1i (pc' := 4) dX8_held_1 rfl cs_X8_88 (Nat.le_of_ble_eq_true rfl) rfl (m_isCache) ?_
  refine v_if_eq (pc' := 7) (tgt := 34) dX8_held_4 rfl (by decide) (fun hb => ?_) (fun hb => ?_)
  · refine v_bipush (v := -2) (pc' := 36) dX8_held_34 rfl (by decide) ?_
    exact v_iret dX8_held_36 rfl (Nat.le_refl _) (Nat.le_refl _) ⟨rfl, rfl, rfl, rfl, rfl⟩
  · exact absurd (ite10.mpr h) hb
theorem e_held_no2 {c : Nat} {b : Int32} (hR : RS R) (hc : c < 5) (h : b < nI 0 ∨ r (7 + 110 * c) - nI 1 < b) : Ok l yX8_held cX8_held 3 (some .int) 2 0 0 [.ref 278, .int (nI c), .int b] (mm I r X) L R 287 (eqP (some (.int (-2))) (mm I r X) L R 287) := by
  refine Ok.ofV [some (.ref 278), some (.int (nI c)), some (.int b)] rfl (by decide) (Nat.le_of_ble_eq_true rfl) ?_
  refine v_iload_n (pc' := 1) dX8_held_0 rfl rfl ?_
  refine v_cS1i (pc' := 4) dX8_held_1 rfl cs_X8_88 (Nat.le_of_ble_eq_true rfl) rfl (m_isCache) ?_
  refine v_if_eq (pc' := 7) (tgt := 34) dX8_held_4 rfl (by decide) (fun hb => ?_) (fun hb => ?_)
  · exact absurd (ite10.mp hb) (ncC hc)
  · refine v_iload_n (pc' := 8) dX8_held_7 rfl rfl ?_
    refine v_iconst (v := nI 0) (pc' := 9) dX8_held_8 rfl (by decide) ?_
    refine v_aload_n (pc' := 10) dX8_held_9 rfl rfl ?_
    refine v_iload_n (pc' := 11) dX8_held_10 rfl rfl ?_
    refine v_iconst (v := nI 1) (pc' := 12) dX8_held_11 rfl (by decide) ?_
    refine v_cV2i (pc' := 15) dX8_held_12 rfl cv_X8_55 kp_M (Nat.le_of_ble_eq_true rfl) rfl (m_of (w := 1) (j := 7 + 110 * c) hR rfl (by omega)) ?_
    refine v_iconst (v := nI 1) (pc' := 16) dX8_held_15 rfl (by decide) ?_
    refine v_isub (pc' := 17) dX8_held_16 rfl ?_
    refine v_cS3i (pc' := 20) dX8_held_17 rfl cs_X8_47 (Nat.le_of_ble_eq_true rfl) rfl (m_in) ?_
    refine v_if_eq (pc' := 23) (tgt := 34) dX8_held_20 rfl (by decide) (fun hq => ?_) (fun hq => ?_)
    · refine v_bipush (v := -2) (pc' := 36) dX8_held_34 rfl (by decide) ?_
      exact v_iret dX8_held_36 rfl (Nat.le_refl _) (Nat.le_refl _) ⟨rfl, rfl, rfl, rfl, rfl⟩
    · exact absurd (ite10.mpr h) hq
theorem e_held {c i : Nat} (hR : RS R) (hI : Inv r) (hc : c < 5) (hi : i < gS r c) : Ok l yX8_held cX8_held 3 (some .int) 2 0 0 [.ref 278, .int (nI c), .int (nI i)] (mm I r X) L R 287 (eqP (some (.int (r (8 + 110 * c + i)))) (mm I r X) L R 287) := by
  obtain ⟨i1, i2, i3, i4⟩ := (hI.2.1 c hc).1
  refine Ok.ofV [some (.ref 278), some (.int (nI c)), some (.int (nI i))] rfl (by decide) (Nat.le_of_ble_eq_true rfl) ?_
  refine v_iload_n (pc' := 1) dX8_held_0 rfl rfl ?_
  refine v_cS1i (pc' := 4) dX8_held_1 rfl cs_X8_88 (Nat.le_of_ble_eq_true rfl) rfl (m_isCache) ?_
  refine v_if_eq (pc' := 7) (tgt := 34) dX8_held_4 rfl (by decide) (fun hb => ?_) (fun hb => ?_)
  · exact absurd (ite10.mp hb) (ncC hc)
  · refine v_iload_n (pc' := 8) dX8_held_7 rfl rfl ?_
    refine v_iconst (v := nI 0) (pc' := 9) dX8_held_8 rfl (by decide) ?_
    refine v_aload_n (pc' := 10) dX8_held_9 rfl rfl ?_
    refine v_iload_n (pc' := 11) dX8_held_10 rfl rfl ?_
    refine v_iconst (v := nI 1) (pc' := 12) dX8_held_11 rfl (by decide) ?_
    refine v_cV2i (pc' := 15) dX8_held_12 rfl cv_X8_55 kp_M (Nat.le_of_ble_eq_true rfl) rfl (m_of (w := 1) (j := 7 + 110 * c) hR rfl (by omega)) ?_
    refine v_iconst (v := nI 1) (pc' := 16) dX8_held_15 rfl (by decide) ?_
    refine v_isub (pc' := 17) dX8_held_16 rfl ?_
    refine v_cS3i (pc' := 20) dX8_held_17 rfl cs_X8_47 (Nat.le_of_ble_eq_true rfl) rfl (m_in) ?_
    refine v_if_eq (pc' := 23) (tgt := 34) dX8_held_20 rfl (by decide) (fun hq => ?_) (fun hq => ?_)
    · refine absurd (ite10.mp hq) ?_
      rw [i1, nI_sub (by omega)]
      exact inr (Nat.zero_le _) (by omega) (by omega)
    · refine v_aload_n (pc' := 24) dX8_held_23 rfl rfl ?_
      refine v_iload_n (pc' := 25) dX8_held_24 rfl rfl ?_
      refine v_iconst (v := nI 2) (pc' := 26) dX8_held_25 rfl (by decide) ?_
      refine v_iload_n (pc' := 27) dX8_held_26 rfl rfl ?_
      refine v_iadd (pc' := 28) dX8_held_27 rfl ?_
      refine v_cV2i (pc' := 31) dX8_held_28 rfl cv_X8_55 kp_M (Nat.le_of_ble_eq_true rfl) rfl (m_of (w := 2 + i) (j := 8 + 110 * c + i) hR (nI_add _ _) (by omega)) ?_
      refine v_goto (tgt := 36) dX8_held_31 (by decide) ?_
      exact v_iret dX8_held_36 rfl (Nat.le_refl _) (Nat.le_refl _) ⟨rfl, rfl, rfl, rfl, rfl⟩
theorem e_counter_no1 {a b : Int32} (h : noC a) : Ok l yX8_counter cX8_counter 3 (some .int) 2 0 0 [.ref 278, .int a, .int b] I L R 287 (eqP (some (.int (-2))) I L R 287) := by
  refine Ok.ofV [some (.ref 278), some (.int a), some (.int b)] rfl (by decide) (Nat.le_of_ble_eq_true rfl) ?_
  refine v_iload_n (pc' := 1) dX8_counter_0 rfl rfl ?_
  refine v_cS1i (pc' := 4) dX8_counter_1 rfl cs_X8_88 (Nat.le_of_ble_eq_true rfl) rfl (m_isCache) ?_
  refine v_if_eq (pc' := 7) (tgt := 35) dX8_counter_4 rfl (by decide) (fun hb => ?_) (fun hb => ?_)
  · refine v_bipush (v := -2) (pc' := 37) dX8_counter_35 rfl (by decide) ?_
    exact v_iret dX8_counter_37 rfl (Nat.le_refl _) (Nat.le_refl _) ⟨rfl, rfl, rfl, rfl, rfl⟩
  · exact absurd (ite10.mpr h) hb
theorem e_counter_no2 {c : Nat} {b : Int32} (hR : RS R) (hc : c < 5) (h : b < nI 0 ∨ r 0 - nI 1 < b) : Ok l yX8_counter cX8_counter 3 (some .int) 2 0 0 [.ref 278, .int (nI c), .int b] (mm I r X) L R 287 (eqP (some (.int (-2))) (mm I r X) L R 287) := by
  refine Ok.ofV [some (.ref 278), some (.int (nI c)), some (.int b)] rfl (by decide) (Nat.le_of_ble_eq_true rfl) ?_
  refine v_iload_n (pc' := 1) dX8_counter_0 rfl rfl ?_
  refine v_cS1i (pc' := 4) dX8_counter_1 rfl cs_X8_88 (Nat.le_of_ble_eq_true rfl) rfl (m_isCache) ?_
  refine v_if_eq (pc' := 7) (tgt := 35) dX8_counter_4 rfl (by decide) (fun hb => ?_) (fun hb => ?_)
  · exact absurd (ite10.mp hb) (ncC hc)
  · refine v_iload_n (pc' := 8) dX8_counter_7 rfl rfl ?_
    refine v_iconst (v := nI 0) (pc' := 9) dX8_counter_8 rfl (by decide) ?_
    refine v_aload_n (pc' := 10) dX8_counter_9 rfl rfl ?_
    refine v_getQ (pc' := 13) dX8_counter_10 rfl gf_X8_7 kp_M rfl (rf_M_row hR) ?_
    refine v_iconst (v := nI 0) (pc' := 14) dX8_counter_13 rfl (by decide) ?_
    refine v_ial (pc' := 15) dX8_counter_14 rfl kp_row (Nat.zero_add _) rfl (by omega) ?_
    refine v_iconst (v := nI 1) (pc' := 16) dX8_counter_15 rfl (by decide) ?_
    refine v_isub (pc' := 17) dX8_counter_16 rfl ?_
    refine v_cS3i (pc' := 20) dX8_counter_17 rfl cs_X8_47 (Nat.le_of_ble_eq_true rfl) rfl (m_in) ?_
    refine v_if_eq (pc' := 23) (tgt := 35) dX8_counter_20 rfl (by decide) (fun hq => ?_) (fun hq => ?_)
    · refine v_bipush (v := -2) (pc' := 37) dX8_counter_35 rfl (by decide) ?_
      exact v_iret dX8_counter_37 rfl (Nat.le_refl _) (Nat.le_refl _) ⟨rfl, rfl, rfl, rfl, rfl⟩
    · rw [mm_at (by decide)] at hq
      exact absurd (ite10.mpr h) hq
theorem e_counter {c i : Nat} (hR : RS R) (hI : Inv r) (hc : c < 5) (hi : i < gM r) : Ok l yX8_counter cX8_counter 3 (some .int) 2 0 0 [.ref 278, .int (nI c), .int (nI i)] (mm I r X) L R 287 (eqP (some (.int (r (24 + 110 * c + i)))) (mm I r X) L R 287) := by
  obtain ⟨m1, m2, m3, m4, m5, m6⟩ := hI.1
  refine Ok.ofV [some (.ref 278), some (.int (nI c)), some (.int (nI i))] rfl (by decide) (Nat.le_of_ble_eq_true rfl) ?_
  refine v_iload_n (pc' := 1) dX8_counter_0 rfl rfl ?_
  refine v_cS1i (pc' := 4) dX8_counter_1 rfl cs_X8_88 (Nat.le_of_ble_eq_true rfl) rfl (m_isCache) ?_
  refine v_if_eq (pc' := 7) (tgt := 35) dX8_counter_4 rfl (by decide) (fun hb => ?_) (fun hb => ?_)
  · exact absurd (ite10.mp hb) (ncC hc)
  · refine v_iload_n (pc' := 8) dX8_counter_7 rfl rfl ?_
    refine v_iconst (v := nI 0) (pc' := 9) dX8_counter_8 rfl (by decide) ?_
    refine v_aload_n (pc' := 10) dX8_counter_9 rfl rfl ?_
    refine v_getQ (pc' := 13) dX8_counter_10 rfl gf_X8_7 kp_M rfl (rf_M_row hR) ?_
    refine v_iconst (v := nI 0) (pc' := 14) dX8_counter_13 rfl (by decide) ?_
    refine v_ial (pc' := 15) dX8_counter_14 rfl kp_row (Nat.zero_add _) rfl (by omega) ?_
    refine v_iconst (v := nI 1) (pc' := 16) dX8_counter_15 rfl (by decide) ?_
    refine v_isub (pc' := 17) dX8_counter_16 rfl ?_
    refine v_cS3i (pc' := 20) dX8_counter_17 rfl cs_X8_47 (Nat.le_of_ble_eq_true rfl) rfl (m_in) ?_
    refine v_if_eq (pc' := 23) (tgt := 35) dX8_counter_20 rfl (by decide) (fun hq => ?_) (fun hq => ?_)
    · rw [mm_at (by decide)] at hq
      refine absurd (ite10.mp hq) ?_
      rw [m1, nI_sub (by omega)]
      exact inr (Nat.zero_le _) (by omega) (by omega)
    · refine v_aload_n (pc' := 24) dX8_counter_23 rfl rfl ?_
      refine v_iload_n (pc' := 25) dX8_counter_24 rfl rfl ?_
      refine v_bipush (v := nI 18) (pc' := 27) dX8_counter_25 rfl (by decide) ?_
      refine v_iload_n (pc' := 28) dX8_counter_27 rfl rfl ?_
      refine v_iadd (pc' := 29) dX8_counter_28 rfl ?_
      refine v_cV2i (pc' := 32) dX8_counter_29 rfl cv_X8_55 kp_M (Nat.le_of_ble_eq_true rfl) rfl (m_of (w := 18 + i) (j := 24 + 110 * c + i) hR (nI_add _ _) (by omega)) ?_
      refine v_goto (tgt := 37) dX8_counter_32 (by decide) ?_
      exact v_iret dX8_counter_37 rfl (Nat.le_refl _) (Nat.le_refl _) ⟨rfl, rfl, rfl, rfl, rfl⟩
theorem e_value_no1 {a b : Int32} (h : noO a) : Ok l yX8_value cX8_value 3 (some .int) 2 0 0 [.ref 278, .int a, .int b] I L R 287 (eqP (some (.int (-3))) I L R 287) := by
  refine Ok.ofV [some (.ref 278), some (.int a), some (.int b)] rfl (by decide) (Nat.le_of_ble_eq_true rfl) ?_
  refine v_iload_n (pc' := 1) dX8_value_0 rfl rfl ?_
  refine v_cS1i (pc' := 4) dX8_value_1 rfl cs_X8_93 (Nat.le_of_ble_eq_true rfl) rfl (m_isObject) ?_
  refine v_if_eq (pc' := 7) (tgt := 38) dX8_value_4 rfl (by decide) (fun hb => ?_) (fun hb => ?_)
  · refine v_bipush (v := -3) (pc' := 40) dX8_value_38 rfl (by decide) ?_
    exact v_iret dX8_value_40 rfl (Nat.le_refl _) (Nat.le_refl _) ⟨rfl, rfl, rfl, rfl, rfl⟩
  · exact absurd (ite10.mpr h) hb
theorem e_value_no2 {x : Nat} {b : Int32} (hR : RS R) (hx : x < 1000) (h : b < nI 0 ∨ r 1 - nI 1 < b) : Ok l yX8_value cX8_value 3 (some .int) 2 0 0 [.ref 278, .int (nI x), .int b] (mm I r X) L R 287 (eqP (some (.int (-3))) (mm I r X) L R 287) := by
  refine Ok.ofV [some (.ref 278), some (.int (nI x)), some (.int b)] rfl (by decide) (Nat.le_of_ble_eq_true rfl) ?_
  refine v_iload_n (pc' := 1) dX8_value_0 rfl rfl ?_
  refine v_cS1i (pc' := 4) dX8_value_1 rfl cs_X8_93 (Nat.le_of_ble_eq_true rfl) rfl (m_isObject) ?_
  refine v_if_eq (pc' := 7) (tgt := 38) dX8_value_4 rfl (by decide) (fun hb => ?_) (fun hb => ?_)
  · exact absurd (ite10.mp hb) (ncO hx)
  · refine v_iload_n (pc' := 8) dX8_value_7 rfl rfl ?_
    refine v_iconst (v := nI 0) (pc' := 9) dX8_value_8 rfl (by decide) ?_
    refine v_aload_n (pc' := 10) dX8_value_9 rfl rfl ?_
    refine v_getQ (pc' := 13) dX8_value_10 rfl gf_X8_7 kp_M rfl (rf_M_row hR) ?_
    refine v_iconst (v := nI 1) (pc' := 14) dX8_value_13 rfl (by decide) ?_
    refine v_ial (pc' := 15) dX8_value_14 rfl kp_row (Nat.zero_add _) rfl (by omega) ?_
    refine v_iconst (v := nI 1) (pc' := 16) dX8_value_15 rfl (by decide) ?_
    refine v_isub (pc' := 17) dX8_value_16 rfl ?_
    refine v_cS3i (pc' := 20) dX8_value_17 rfl cs_X8_47 (Nat.le_of_ble_eq_true rfl) rfl (m_in) ?_
    refine v_if_eq (pc' := 23) (tgt := 38) dX8_value_20 rfl (by decide) (fun hq => ?_) (fun hq => ?_)
    · refine v_bipush (v := -3) (pc' := 40) dX8_value_38 rfl (by decide) ?_
      exact v_iret dX8_value_40 rfl (Nat.le_refl _) (Nat.le_refl _) ⟨rfl, rfl, rfl, rfl, rfl⟩
    · rw [mm_at (by decide)] at hq
      exact absurd (ite10.mpr h) hq
theorem e_value {x f : Nat} (hR : RS R) (hF : MF I) (hI : Inv r) (hx : x < 1000) (hf : f < gK r) : Ok l yX8_value cX8_value 3 (some .int) 2 0 0 [.ref 278, .int (nI x), .int (nI f)] (mm I r X) L R 287 (eqP (some (.int (nI (vf (gM r) x f)))) (mm I r X) L R 287) := by
  obtain ⟨m1, m2, m3, m4, m5, m6⟩ := hI.1
  refine Ok.ofV [some (.ref 278), some (.int (nI x)), some (.int (nI f))] rfl (by decide) (Nat.le_of_ble_eq_true rfl) ?_
  refine v_iload_n (pc' := 1) dX8_value_0 rfl rfl ?_
  refine v_cS1i (pc' := 4) dX8_value_1 rfl cs_X8_93 (Nat.le_of_ble_eq_true rfl) rfl (m_isObject) ?_
  refine v_if_eq (pc' := 7) (tgt := 38) dX8_value_4 rfl (by decide) (fun hb => ?_) (fun hb => ?_)
  · exact absurd (ite10.mp hb) (ncO hx)
  · refine v_iload_n (pc' := 8) dX8_value_7 rfl rfl ?_
    refine v_iconst (v := nI 0) (pc' := 9) dX8_value_8 rfl (by decide) ?_
    refine v_aload_n (pc' := 10) dX8_value_9 rfl rfl ?_
    refine v_getQ (pc' := 13) dX8_value_10 rfl gf_X8_7 kp_M rfl (rf_M_row hR) ?_
    refine v_iconst (v := nI 1) (pc' := 14) dX8_value_13 rfl (by decide) ?_
    refine v_ial (pc' := 15) dX8_value_14 rfl kp_row (Nat.zero_add _) rfl (by omega) ?_
    refine v_iconst (v := nI 1) (pc' := 16) dX8_value_15 rfl (by decide) ?_
    refine v_isub (pc' := 17) dX8_value_16 rfl ?_
    refine v_cS3i (pc' := 20) dX8_value_17 rfl cs_X8_47 (Nat.le_of_ble_eq_true rfl) rfl (m_in) ?_
    refine v_if_eq (pc' := 23) (tgt := 38) dX8_value_20 rfl (by decide) (fun hq => ?_) (fun hq => ?_)
    · rw [mm_at (by decide)] at hq
      refine absurd (ite10.mp hq) ?_
      rw [m4, nI_sub (by omega)]
      exact inr (Nat.zero_le _) (by omega) (by omega)
    · refine v_aload_n (pc' := 24) dX8_value_23 rfl rfl ?_
      refine v_iload_n (pc' := 25) dX8_value_24 rfl rfl ?_
      refine v_iload_n (pc' := 26) dX8_value_25 rfl rfl ?_
      refine v_aload_n (pc' := 27) dX8_value_26 rfl rfl ?_
      refine v_getQ (pc' := 30) dX8_value_27 rfl gf_X8_7 kp_M rfl (rf_M_row hR) ?_
      refine v_iconst (v := nI 0) (pc' := 31) dX8_value_30 rfl (by decide) ?_
      refine v_ial (pc' := 32) dX8_value_31 rfl kp_row (Nat.zero_add _) rfl (by omega) ?_
      rw [mm_at (by decide), m1]
      refine v_cV3i (pc' := 35) dX8_value_32 rfl cv_X8_51 kp_M (Nat.le_of_ble_eq_true rfl) rfl (m_valueOf hR (MF_mm hF) (by omega) m3 hx (by omega)) ?_
      refine v_goto (tgt := 40) dX8_value_35 (by decide) ?_
      exact v_iret dX8_value_40 rfl (Nat.le_refl _) (Nat.le_refl _) ⟨rfl, rfl, rfl, rfl, rfl⟩
theorem e_holds_no {a b : Int32} (h : noC a ∨ noO b) : Ok l yX8_holds cX8_holds 4 (some .int) 3 0 0 [.ref 278, .int a, .int b] I L R 287 (eqP (some (.int (ofE a))) I L R 287) := by
  refine Ok.ofV [some (.ref 278), some (.int a), some (.int b), none] rfl (by decide) (Nat.le_of_ble_eq_true rfl) ?_
  refine v_iload_n (pc' := 1) dX8_holds_0 rfl rfl ?_
  refine v_iload_n (pc' := 2) dX8_holds_1 rfl rfl ?_
  refine v_cS2i (pc' := 5) dX8_holds_2 rfl cs_X8_96 (Nat.le_of_ble_eq_true rfl) rfl (m_no2 h) ?_
  refine v_istore_n3 (pc' := 6) dX8_holds_5 rfl (by decide) rfl ?_
  refine v_iload_n (pc' := 7) dX8_holds_6 rfl rfl ?_
  refine v_if_ge (pc' := 10) (tgt := 14) dX8_holds_7 rfl (by decide) (fun hb => ?_) (fun hb => ?_)
  · exact absurd (ofE_neg a) (Int32.not_lt.mpr hb)
  · refine v_iload_n (pc' := 11) dX8_holds_10 rfl rfl ?_
    refine v_goto (tgt := 28) dX8_holds_11 (by decide) ?_
    exact v_iret dX8_holds_28 rfl (Nat.le_refl _) (Nat.le_refl _) ⟨rfl, rfl, rfl, rfl, rfl⟩
theorem e_holds {c x : Nat} (hR : RS R) (hI : Inv r) (hc : c < 5) (hx : x < 1000) : Ok l yX8_holds cX8_holds 4 (some .int) 3 0 0 [.ref 278, .int (nI c), .int (nI x)] (mm I r X) L R 287 (eqP (some (.int (if rFind c x r ≠ none then nI 1 else nI 0))) (mm I r X) L R 287) := by
  obtain ⟨i1, i2, i3, i4⟩ := (hI.2.1 c hc).1
  have hlt := oIx_lt (o := fdx r c x (gS r c)) (n := gS r c) (fun k hk => (fdx_lt hk).1) (by omega)
  refine Ok.ofV [some (.ref 278), some (.int (nI c)), some (.int (nI x)), none] rfl (by decide) (Nat.le_of_ble_eq_true rfl) ?_
  refine v_iload_n (pc' := 1) dX8_holds_0 rfl rfl ?_
  refine v_iload_n (pc' := 2) dX8_holds_1 rfl rfl ?_
  refine v_cS2i (pc' := 5) dX8_holds_2 rfl cs_X8_96 (Nat.le_of_ble_eq_true rfl) rfl (m_no1 hc hx) ?_
  refine v_istore_n3 (pc' := 6) dX8_holds_5 rfl (by decide) rfl ?_
  refine v_iload_n (pc' := 7) dX8_holds_6 rfl rfl ?_
  refine v_if_ge (pc' := 10) (tgt := 14) dX8_holds_7 rfl (by decide) (fun hb => ?_) (fun hb => ?_)
  · refine v_aload_n (pc' := 15) dX8_holds_14 rfl rfl ?_
    refine v_iload_n (pc' := 16) dX8_holds_15 rfl rfl ?_
    refine v_iload_n (pc' := 17) dX8_holds_16 rfl rfl ?_
    refine v_cV2i (pc' := 20) dX8_holds_17 rfl cv_X8_68 kp_M (Nat.le_of_ble_eq_true rfl) rfl (m_find hR hc i1 i2) ?_
    refine v_if_lt (pc' := 23) (tgt := 27) dX8_holds_20 rfl (by decide) (fun hq => ?_) (fun hq => ?_)
    · refine v_iconst (v := nI 0) (pc' := 28) dX8_holds_27 rfl (by decide) ?_
      exact v_iret dX8_holds_28 rfl (Nat.le_refl _) (Nat.le_refl _) ⟨by rw [if_neg (fun z => z (show rFind c x r = none from hlt.mp hq))], rfl, rfl, rfl, rfl⟩
    · refine v_iconst (v := nI 1) (pc' := 24) dX8_holds_23 rfl (by decide) ?_
      refine v_goto (tgt := 28) dX8_holds_24 (by decide) ?_
      exact v_iret dX8_holds_28 rfl (Nat.le_refl _) (Nat.le_refl _) ⟨by rw [if_pos (show rFind c x r ≠ none from fun z => hq (hlt.mpr z))], rfl, rfl, rfl, rfl⟩
  · exact absurd (by decide) hb
theorem e_mayHold_no {a b : Int32} (h : noC a ∨ noO b) : Ok l yX8_mayHold cX8_mayHold 4 (some .int) 3 0 0 [.ref 278, .int a, .int b] I L R 287 (eqP (some (.int (ofE a))) I L R 287) := by
  refine Ok.ofV [some (.ref 278), some (.int a), some (.int b), none] rfl (by decide) (Nat.le_of_ble_eq_true rfl) ?_
  refine v_iload_n (pc' := 1) dX8_mayHold_0 rfl rfl ?_
  refine v_iload_n (pc' := 2) dX8_mayHold_1 rfl rfl ?_
  refine v_cS2i (pc' := 5) dX8_mayHold_2 rfl cs_X8_96 (Nat.le_of_ble_eq_true rfl) rfl (m_no2 h) ?_
  refine v_istore_n3 (pc' := 6) dX8_mayHold_5 rfl (by decide) rfl ?_
  refine v_iload_n (pc' := 7) dX8_mayHold_6 rfl rfl ?_
  refine v_if_ge (pc' := 10) (tgt := 14) dX8_mayHold_7 rfl (by decide) (fun hb => ?_) (fun hb => ?_)
  · exact absurd (ofE_neg a) (Int32.not_lt.mpr hb)
  · refine v_iload_n (pc' := 11) dX8_mayHold_10 rfl rfl ?_
    refine v_goto (tgt := 32) dX8_mayHold_11 (by decide) ?_
    exact v_iret dX8_mayHold_32 rfl (Nat.le_refl _) (Nat.le_refl _) ⟨rfl, rfl, rfl, rfl, rfl⟩
theorem e_mayHold {c x : Nat} (hR : RS R) (hF : MF I) (hI : Inv r) (hc : c < 5) (hx : x < 1000) : Ok l yX8_mayHold cX8_mayHold 4 (some .int) 3 0 0 [.ref 278, .int (nI c), .int (nI x)] (mm I r X) L R 287 (eqP (some (.int (if rIs x (rBits c r) r = true then nI 1 else nI 0))) (mm I r X) L R 287) := by
  obtain ⟨m1, m2, m3, m4, m5, m6⟩ := hI.1
  refine Ok.ofV [some (.ref 278), some (.int (nI c)), some (.int (nI x)), none] rfl (by decide) (Nat.le_of_ble_eq_true rfl) ?_
  refine v_iload_n (pc' := 1) dX8_mayHold_0 rfl rfl ?_
  refine v_iload_n (pc' := 2) dX8_mayHold_1 rfl rfl ?_
  refine v_cS2i (pc' := 5) dX8_mayHold_2 rfl cs_X8_96 (Nat.le_of_ble_eq_true rfl) rfl (m_no1 hc hx) ?_
  refine v_istore_n3 (pc' := 6) dX8_mayHold_5 rfl (by decide) rfl ?_
  refine v_iload_n (pc' := 7) dX8_mayHold_6 rfl rfl ?_
  refine v_if_ge (pc' := 10) (tgt := 14) dX8_mayHold_7 rfl (by decide) (fun hb => ?_) (fun hb => ?_)
  · refine v_aload_n (pc' := 15) dX8_mayHold_14 rfl rfl ?_
    refine v_aload_n (pc' := 16) dX8_mayHold_15 rfl rfl ?_
    refine v_iload_n (pc' := 17) dX8_mayHold_16 rfl rfl ?_
    refine v_cV1l (pc' := 20) dX8_mayHold_17 rfl cv_X8_102 kp_M (Nat.le_of_ble_eq_true rfl) rfl (m_bitsOf hR hc m1 m3 rfl) ?_
    refine v_iload_n (pc' := 21) dX8_mayHold_20 rfl rfl ?_
    refine v_cV2i (pc' := 24) dX8_mayHold_21 rfl cv_X8_106 kp_M (Nat.le_of_ble_eq_true rfl) rfl (m_isIn hR hF m1 (by omega) m3 m4 m6 hx) ?_
    refine v_if_eq (pc' := 27) (tgt := 31) dX8_mayHold_24 rfl (by decide) (fun hq => ?_) (fun hq => ?_)
    · refine v_iconst (v := nI 0) (pc' := 32) dX8_mayHold_31 rfl (by decide) ?_
      exact v_iret dX8_mayHold_32 rfl (Nat.le_refl _) (Nat.le_refl _) ⟨by rw [if_neg (show ¬ rIs x (rBits c r) r = true from ite01.mp hq)], rfl, rfl, rfl, rfl⟩
    · refine v_iconst (v := nI 1) (pc' := 28) dX8_mayHold_27 rfl (by decide) ?_
      refine v_goto (tgt := 32) dX8_mayHold_28 (by decide) ?_
      exact v_iret dX8_mayHold_32 rfl (Nat.le_refl _) (Nat.le_refl _) ⟨by rw [if_pos (show rIs x (rBits c r) r = true from Classical.not_not.mp (fun z => hq (ite01.mpr z)))], rfl, rfl, rfl, rfl⟩
  · exact absurd (by decide) hb
theorem e_chance_no {a : Int32} (h : noC a) : Ok l yX8_chance cX8_chance 2 (some .int) 2 0 0 [.ref 278, .int a] I L R 287 (eqP (some (.int (-2))) I L R 287) := by
  refine Ok.ofV [some (.ref 278), some (.int a)] rfl (by decide) (Nat.le_of_ble_eq_true rfl) ?_
  refine v_iload_n (pc' := 1) dX8_chance_0 rfl rfl ?_
  refine v_cS1i (pc' := 4) dX8_chance_1 rfl cs_X8_88 (Nat.le_of_ble_eq_true rfl) rfl (m_isCache) ?_
  refine v_if_eq (pc' := 7) (tgt := 33) dX8_chance_4 rfl (by decide) (fun hb => ?_) (fun hb => ?_)
  · refine v_bipush (v := -2) (pc' := 35) dX8_chance_33 rfl (by decide) ?_
    exact v_iret dX8_chance_35 rfl (Nat.le_refl _) (Nat.le_refl _) ⟨rfl, rfl, rfl, rfl, rfl⟩
  · exact absurd (ite10.mpr h) hb
theorem e_chance {c : Nat} (hR : RS R) (hI : Inv r) (hc : c < 5) : Ok l yX8_chance cX8_chance 2 (some .int) 2 0 0 [.ref 278, .int (nI c)] (mm I r X) L R 287 (eqP (some (.int (rCh (pcn (rBits c r) 64) (gM r) (gK r)))) (mm I r X) L R 287) := by
  obtain ⟨m1, m2, m3, m4, m5, m6⟩ := hI.1
  refine Ok.ofV [some (.ref 278), some (.int (nI c))] rfl (by decide) (Nat.le_of_ble_eq_true rfl) ?_
  refine v_iload_n (pc' := 1) dX8_chance_0 rfl rfl ?_
  refine v_cS1i (pc' := 4) dX8_chance_1 rfl cs_X8_88 (Nat.le_of_ble_eq_true rfl) rfl (m_isCache) ?_
  refine v_if_eq (pc' := 7) (tgt := 33) dX8_chance_4 rfl (by decide) (fun hb => ?_) (fun hb => ?_)
  · exact absurd (ite10.mp hb) (ncC hc)
  · refine v_aload_n (pc' := 8) dX8_chance_7 rfl rfl ?_
    refine v_iload_n (pc' := 9) dX8_chance_8 rfl rfl ?_
    refine v_cV1l (pc' := 12) dX8_chance_9 rfl cv_X8_102 kp_M (Nat.le_of_ble_eq_true rfl) rfl (m_bitsOf hR hc m1 m3 rfl) ?_
    refine v_cS1i (pc' := 15) dX8_chance_12 rfl cs_X8_112 (Nat.le_of_ble_eq_true rfl) rfl (m_bits) ?_
    refine v_aload_n (pc' := 16) dX8_chance_15 rfl rfl ?_
    refine v_getQ (pc' := 19) dX8_chance_16 rfl gf_X8_7 kp_M rfl (rf_M_row hR) ?_
    refine v_iconst (v := nI 0) (pc' := 20) dX8_chance_19 rfl (by decide) ?_
    refine v_ial (pc' := 21) dX8_chance_20 rfl kp_row (Nat.zero_add _) rfl (by omega) ?_
    refine v_aload_n (pc' := 22) dX8_chance_21 rfl rfl ?_
    refine v_getQ (pc' := 25) dX8_chance_22 rfl gf_X8_7 kp_M rfl (rf_M_row hR) ?_
    refine v_iconst (v := nI 1) (pc' := 26) dX8_chance_25 rfl (by decide) ?_
    refine v_ial (pc' := 27) dX8_chance_26 rfl kp_row (Nat.zero_add _) rfl (by omega) ?_
    rw [mm_at (by decide), mm_at (by decide), m1, m4]
    refine v_cS3i (pc' := 30) dX8_chance_27 rfl cs_X8_116 (Nat.le_of_ble_eq_true rfl) rfl (m_chanceOf (by omega) m3 m6) ?_
    refine v_goto (tgt := 35) dX8_chance_30 (by decide) ?_
    exact v_iret dX8_chance_35 rfl (Nat.le_refl _) (Nat.le_refl _) ⟨rfl, rfl, rfl, rfl, rfl⟩
theorem e_wrong_no {a : Int32} (h : noC a) : Ok l yX8_wrong cX8_wrong 6 (some .int) 2 0 0 [.ref 278, .int a] I L R 287 (eqP (some (.int (-2))) I L R 287) := by
  refine Ok.ofV [some (.ref 278), some (.int a), none, none, none, none] rfl (by decide) (Nat.le_of_ble_eq_true rfl) ?_
  refine v_iload_n (pc' := 1) dX8_wrong_0 rfl rfl ?_
  refine v_cS1i (pc' := 4) dX8_wrong_1 rfl cs_X8_88 (Nat.le_of_ble_eq_true rfl) rfl (m_isCache) ?_
  refine v_if_ne (pc' := 7) (tgt := 10) dX8_wrong_4 rfl (by decide) (fun hb => ?_) (fun hb => ?_)
  · exact absurd (ite10.mpr h) hb
  · refine v_bipush (v := -2) (pc' := 9) dX8_wrong_7 rfl (by decide) ?_
    exact v_iret dX8_wrong_9 rfl (Nat.le_refl _) (Nat.le_refl _) ⟨rfl, rfl, rfl, rfl, rfl⟩
theorem e_wrong {c : Nat} {ta : Int32} (hR : RS R) (hF : MF I) (hI : Inv r) (hc : c < 5) (hta : fWr r c (gM r) (gK r) (gS r c) (rBits c r) 1000 = ta) : Ok l yX8_wrong cX8_wrong 6 (some .int) 2 0 0 [.ref 278, .int (nI c)] (mm I r X) L R 287 (eqP (some (.int ta)) (mm I r X) L R 287) := by
  obtain ⟨m1, m2, m3, m4, m5, m6⟩ := hI.1
  obtain ⟨i1, i2, i3, i4⟩ := (hI.2.1 c hc).1
  have hlt : ∀ x, (oIx (fdx r c x (gS r c)) < 0 ↔ fdx r c x (gS r c) = none) := fun x => oIx_lt (n := gS r c) (fun k hk => (fdx_lt hk).1) (by omega)
  refine Ok.ofV [some (.ref 278), some (.int (nI c)), none, none, none, none] rfl (by decide) (Nat.le_of_ble_eq_true rfl) ?_
  refine v_iload_n (pc' := 1) dX8_wrong_0 rfl rfl ?_
  refine v_cS1i (pc' := 4) dX8_wrong_1 rfl cs_X8_88 (Nat.le_of_ble_eq_true rfl) rfl (m_isCache) ?_
  refine v_if_ne (pc' := 7) (tgt := 10) dX8_wrong_4 rfl (by decide) (fun hb => ?_) (fun hb => ?_)
  · refine v_aload_n (pc' := 11) dX8_wrong_10 rfl rfl ?_
    refine v_iload_n (pc' := 12) dX8_wrong_11 rfl rfl ?_
    refine v_cV1l (pc' := 15) dX8_wrong_12 rfl cv_X8_102 kp_M (Nat.le_of_ble_eq_true rfl) rfl (m_bitsOf hR hc m1 m3 rfl) ?_
    refine v_lstore_n2 (pc' := 16) dX8_wrong_15 rfl (by decide) rfl ?_
    refine v_iconst (v := nI 0) (pc' := 17) dX8_wrong_16 rfl (by decide) ?_
    refine v_istore4 (pc' := 19) dX8_wrong_17 rfl (by decide) rfl ?_
    refine v_iconst (v := nI 0) (pc' := 20) dX8_wrong_19 rfl (by decide) ?_
    refine v_istore5 (pc' := 22) dX8_wrong_20 rfl (by decide) rfl ?_
    have loop : ∀ (n x : Nat), x + n = 1000 → V l yX8_wrong cX8_wrong 6 (some .int) (rmd 2 0 0) (QM 0 0 (eqP (some (.int ta)) (mm I r X) L R 287)) (fun _ _ => True) 22 [some (.ref 278), some (.int (nI c)), some (.long (rBits c r)), none, some (.int (fWr r c (gM r) (gK r) (gS r c) (rBits c r) x)), some (.int (nI x))] [] (mm I r X) L R 287 0 0 := by
      intro n
      induction n with
      | zero =>
        intro x hx
        refine v_iload (pc' := 24) dX8_wrong_22 rfl rfl ?_
        refine v_sipush (v := nI 1000) (pc' := 27) dX8_wrong_24 rfl (by decide) ?_
        refine v_icmp_ge (pc' := 30) (tgt := 66) dX8_wrong_27 rfl (by decide) (fun hb => ?_) (fun hb => ?_)
        · refine v_iload (pc' := 68) dX8_wrong_66 rfl rfl ?_
          exact v_iret dX8_wrong_68 rfl (Nat.le_refl _) (Nat.le_refl _) ⟨by rw [← hta, show x = 1000 by omega], rfl, rfl, rfl, rfl⟩
        · exact absurd (nI_le (by omega) (by omega)) hb
      | succ n ih =>
        intro x hx
        have nxt := ih (x + 1) (by omega)
        have no : ¬ (fIs (gM r) x (rBits c r) (gK r) = true ∧ fdx r c x (gS r c) = none) → V l yX8_wrong cX8_wrong 6 (some .int) (rmd 2 0 0) (QM 0 0 (eqP (some (.int ta)) (mm I r X) L R 287)) (fun _ _ => True) 56 [some (.ref 278), some (.int (nI c)), some (.long (rBits c r)), none, some (.int (fWr r c (gM r) (gK r) (gS r c) (rBits c r) x)), some (.int (nI x))] [.int (fWr r c (gM r) (gK r) (gS r c) (rBits c r) x)] (mm I r X) L R 287 0 0 := by
          intro hn
          refine v_iconst (v := nI 0) (pc' := 57) dX8_wrong_56 rfl (by decide) ?_
          refine v_iadd (pc' := 58) dX8_wrong_57 rfl ?_
          refine v_istore4 (pc' := 60) dX8_wrong_58 rfl (by decide) rfl ?_
          refine v_iinc5 (pc' := 63) dX8_wrong_60 rfl (by decide) rfl (inc_nI _) ?_
          refine v_goto (tgt := 22) dX8_wrong_63 (by decide) ?_
          rw [show fWr r c (gM r) (gK r) (gS r c) (rBits c r) (x + 1) = fWr r c (gM r) (gK r) (gS r c) (rBits c r) x from if_neg hn] at nxt
          rw [nI_0, Int32.add_zero]
          exact nxt
        refine v_iload (pc' := 24) dX8_wrong_22 rfl rfl ?_
        refine v_sipush (v := nI 1000) (pc' := 27) dX8_wrong_24 rfl (by decide) ?_
        refine v_icmp_ge (pc' := 30) (tgt := 66) dX8_wrong_27 rfl (by decide) (fun hb => ?_) (fun hb => ?_)
        · exact absurd hb (nI_ge (by omega) (by omega))
        · refine v_iload (pc' := 32) dX8_wrong_30 rfl rfl ?_
          refine v_aload_n (pc' := 33) dX8_wrong_32 rfl rfl ?_
          refine v_lload_n (pc' := 34) dX8_wrong_33 rfl rfl ?_
          refine v_iload (pc' := 36) dX8_wrong_34 rfl rfl ?_
          refine v_cV2i (pc' := 39) dX8_wrong_36 rfl cv_X8_106 kp_M (Nat.le_of_ble_eq_true rfl) rfl (m_isIn hR hF m1 (by omega) m3 m4 m6 (by omega)) ?_
          refine v_if_eq (pc' := 42) (tgt := 56) dX8_wrong_39 rfl (by decide) (fun hq => ?_) (fun hq => ?_)
          · exact no (fun z => ite01.mp hq z.1)
          · refine v_aload_n (pc' := 43) dX8_wrong_42 rfl rfl ?_
            refine v_iload_n (pc' := 44) dX8_wrong_43 rfl rfl ?_
            refine v_iload (pc' := 46) dX8_wrong_44 rfl rfl ?_
            refine v_cV2i (pc' := 49) dX8_wrong_46 rfl cv_X8_68 kp_M (Nat.le_of_ble_eq_true rfl) rfl (m_find hR hc i1 i2) ?_
            refine v_if_ge (pc' := 52) (tgt := 56) dX8_wrong_49 rfl (by decide) (fun hz => ?_) (fun hz => ?_)
            · exact no (fun z => absurd ((hlt x).mpr z.2) (Int32.not_lt.mpr hz))
            · refine v_iconst (v := nI 1) (pc' := 53) dX8_wrong_52 rfl (by decide) ?_
              refine v_goto (tgt := 57) dX8_wrong_53 (by decide) ?_
              refine v_iadd (pc' := 58) dX8_wrong_57 rfl ?_
              refine v_istore4 (pc' := 60) dX8_wrong_58 rfl (by decide) rfl ?_
              refine v_iinc5 (pc' := 63) dX8_wrong_60 rfl (by decide) rfl (inc_nI _) ?_
              refine v_goto (tgt := 22) dX8_wrong_63 (by decide) ?_
              rw [show fWr r c (gM r) (gK r) (gS r c) (rBits c r) (x + 1) = fWr r c (gM r) (gK r) (gS r c) (rBits c r) x + nI 1 from if_pos ⟨Classical.not_not.mp (fun z => hq (ite01.mpr z)), (hlt x).mp (Int32.not_le.mp hz)⟩] at nxt
              exact nxt
    exact loop 1000 0 (by omega)
  · exact absurd (ite10.mp hb) (ncC hc)
theorem e_count_no1 {a b : Int32} (h : noC a) : Ok l yX8_count cX8_count 3 (some .int) 2 0 0 [.ref 278, .int a, .int b] I L R 287 (eqP (some (.int (-2))) I L R 287) := by
  refine Ok.ofV [some (.ref 278), some (.int a), some (.int b)] rfl (by decide) (Nat.le_of_ble_eq_true rfl) ?_
  refine v_iload_n (pc' := 1) dX8_count_0 rfl rfl ?_
  refine v_cS1i (pc' := 4) dX8_count_1 rfl cs_X8_88 (Nat.le_of_ble_eq_true rfl) rfl (m_isCache) ?_
  refine v_if_ne (pc' := 7) (tgt := 10) dX8_count_4 rfl (by decide) (fun hb => ?_) (fun hb => ?_)
  · exact absurd (ite10.mpr h) hb
  · refine v_bipush (v := -2) (pc' := 9) dX8_count_7 rfl (by decide) ?_
    exact v_iret dX8_count_9 rfl (Nat.le_refl _) (Nat.le_refl _) ⟨rfl, rfl, rfl, rfl, rfl⟩
theorem e_count_no2 {c : Nat} {b : Int32} (hc : c < 5) (h : b < nI 0 ∨ nI 6 < b) : Ok l yX8_count cX8_count 3 (some .int) 2 0 0 [.ref 278, .int (nI c), .int b] I L R 287 (eqP (some (.int (-3))) I L R 287) := by
  refine Ok.ofV [some (.ref 278), some (.int (nI c)), some (.int b)] rfl (by decide) (Nat.le_of_ble_eq_true rfl) ?_
  refine v_iload_n (pc' := 1) dX8_count_0 rfl rfl ?_
  refine v_cS1i (pc' := 4) dX8_count_1 rfl cs_X8_88 (Nat.le_of_ble_eq_true rfl) rfl (m_isCache) ?_
  refine v_if_ne (pc' := 7) (tgt := 10) dX8_count_4 rfl (by decide) (fun hb => ?_) (fun hb => ?_)
  · refine v_iload_n (pc' := 11) dX8_count_10 rfl rfl ?_
    refine v_iconst (v := nI 0) (pc' := 12) dX8_count_11 rfl (by decide) ?_
    refine v_bipush (v := nI 6) (pc' := 14) dX8_count_12 rfl (by decide) ?_
    refine v_cS3i (pc' := 17) dX8_count_14 rfl cs_X8_47 (Nat.le_of_ble_eq_true rfl) rfl (m_in) ?_
    refine v_if_eq (pc' := 20) (tgt := 32) dX8_count_17 rfl (by decide) (fun hq => ?_) (fun hq => ?_)
    · refine v_bipush (v := -3) (pc' := 34) dX8_count_32 rfl (by decide) ?_
      exact v_iret dX8_count_34 rfl (Nat.le_refl _) (Nat.le_refl _) ⟨rfl, rfl, rfl, rfl, rfl⟩
    · exact absurd (ite10.mpr h) hq
  · exact absurd (ite10.mp hb) (ncC hc)
theorem e_count {c w : Nat} (hR : RS R) (hc : c < 5) (hw : w ≤ 6) : Ok l yX8_count cX8_count 3 (some .int) 2 0 0 [.ref 278, .int (nI c), .int (nI w)] (mm I r X) L R 287 (eqP (some (.int (r (89 + 110 * c + w)))) (mm I r X) L R 287) := by
  refine Ok.ofV [some (.ref 278), some (.int (nI c)), some (.int (nI w))] rfl (by decide) (Nat.le_of_ble_eq_true rfl) ?_
  refine v_iload_n (pc' := 1) dX8_count_0 rfl rfl ?_
  refine v_cS1i (pc' := 4) dX8_count_1 rfl cs_X8_88 (Nat.le_of_ble_eq_true rfl) rfl (m_isCache) ?_
  refine v_if_ne (pc' := 7) (tgt := 10) dX8_count_4 rfl (by decide) (fun hb => ?_) (fun hb => ?_)
  · refine v_iload_n (pc' := 11) dX8_count_10 rfl rfl ?_
    refine v_iconst (v := nI 0) (pc' := 12) dX8_count_11 rfl (by decide) ?_
    refine v_bipush (v := nI 6) (pc' := 14) dX8_count_12 rfl (by decide) ?_
    refine v_cS3i (pc' := 17) dX8_count_14 rfl cs_X8_47 (Nat.le_of_ble_eq_true rfl) rfl (m_in) ?_
    refine v_if_eq (pc' := 20) (tgt := 32) dX8_count_17 rfl (by decide) (fun hq => ?_) (fun hq => ?_)
    · exact absurd (ite10.mp hq) (inr (Nat.zero_le _) hw (by decide))
    · refine v_aload_n (pc' := 21) dX8_count_20 rfl rfl ?_
      refine v_iload_n (pc' := 22) dX8_count_21 rfl rfl ?_
      refine v_bipush (v := nI 83) (pc' := 24) dX8_count_22 rfl (by decide) ?_
      refine v_iload_n (pc' := 25) dX8_count_24 rfl rfl ?_
      refine v_iadd (pc' := 26) dX8_count_25 rfl ?_
      refine v_cV2i (pc' := 29) dX8_count_26 rfl cv_X8_55 kp_M (Nat.le_of_ble_eq_true rfl) rfl (m_of (w := 83 + w) (j := 89 + 110 * c + w) hR (nI_add _ _) (by omega)) ?_
      refine v_goto (tgt := 34) dX8_count_29 (by decide) ?_
      exact v_iret dX8_count_34 rfl (Nat.le_refl _) (Nat.le_refl _) ⟨rfl, rfl, rfl, rfl, rfl⟩
  · exact absurd (ite10.mp hb) (ncC hc)
theorem e_way_no {a : Int32} (h : a < 0) : Ok l yX8_way cX8_way 2 (some .int) 0 0 0 [.ref 278, .int a] I L R 287 (eqP (some (.int (-3))) I L R 287) := by
  refine Ok.ofV [some (.ref 278), some (.int a)] rfl (by decide) (Nat.le_of_ble_eq_true rfl) ?_
  refine v_iload_n (pc' := 1) dX8_way_0 rfl rfl ?_
  refine v_if_ge (pc' := 4) (tgt := 9) dX8_way_1 rfl (by decide) (fun hb => ?_) (fun hb => ?_)
  · exact absurd h (Int32.not_lt.mpr hb)
  · refine v_bipush (v := -3) (pc' := 6) dX8_way_4 rfl (by decide) ?_
    refine v_goto (tgt := 27) dX8_way_6 (by decide) ?_
    exact v_iret dX8_way_27 rfl (Nat.le_refl _) (Nat.le_refl _) ⟨rfl, rfl, rfl, rfl, rfl⟩
theorem e_way_out {i n : Nat} (hR : RS R) (hn : I 21 1 = nI n) (hi : n ≤ i) (hi2 : i < 2 ^ 31) : Ok l yX8_way cX8_way 2 (some .int) 0 0 0 [.ref 278, .int (nI i)] I L R 287 (eqP (some (.int (-1))) I L R 287) := by
  refine Ok.ofV [some (.ref 278), some (.int (nI i))] rfl (by decide) (Nat.le_of_ble_eq_true rfl) ?_
  refine v_iload_n (pc' := 1) dX8_way_0 rfl rfl ?_
  refine v_if_ge (pc' := 4) (tgt := 9) dX8_way_1 rfl (by decide) (fun hb => ?_) (fun hb => ?_)
  · refine v_iload_n (pc' := 10) dX8_way_9 rfl rfl ?_
    refine v_aload_n (pc' := 11) dX8_way_10 rfl rfl ?_
    refine v_gI (o := 1) (pc' := 14) dX8_way_11 rfl gf_X8_136 kp_M rfl rfl ?_
    refine v_icmp_ge (pc' := 17) (tgt := 26) dX8_way_14 rfl (by decide) (fun hq => ?_) (fun hq => ?_)
    · refine v_iconst (v := -1) (pc' := 27) dX8_way_26 rfl (by decide) ?_
      exact v_iret dX8_way_27 rfl (Nat.le_refl _) (Nat.le_refl _) ⟨rfl, rfl, rfl, rfl, rfl⟩
    · refine absurd ?_ hq
      rw [hn]
      exact nI_le hi hi2
  · exact absurd (nI_pos' hi2) hb
theorem e_way {i n : Nat} (hR : RS R) (hn : I 21 1 = nI n) (hi : i < n) (hn5 : n ≤ 5) : Ok l yX8_way cX8_way 2 (some .int) 0 0 0 [.ref 278, .int (nI i)] I L R 287 (eqP (some (.int (I 25 i))) I L R 287) := by
  refine Ok.ofV [some (.ref 278), some (.int (nI i))] rfl (by decide) (Nat.le_of_ble_eq_true rfl) ?_
  refine v_iload_n (pc' := 1) dX8_way_0 rfl rfl ?_
  refine v_if_ge (pc' := 4) (tgt := 9) dX8_way_1 rfl (by decide) (fun hb => ?_) (fun hb => ?_)
  · refine v_iload_n (pc' := 10) dX8_way_9 rfl rfl ?_
    refine v_aload_n (pc' := 11) dX8_way_10 rfl rfl ?_
    refine v_gI (o := 1) (pc' := 14) dX8_way_11 rfl gf_X8_136 kp_M rfl rfl ?_
    refine v_icmp_ge (pc' := 17) (tgt := 26) dX8_way_14 rfl (by decide) (fun hq => ?_) (fun hq => ?_)
    · rw [hn] at hq
      exact absurd hq (nI_ge hi (by omega))
    · refine v_aload_n (pc' := 18) dX8_way_17 rfl rfl ?_
      refine v_getQ (pc' := 21) dX8_way_18 rfl gf_X8_26 kp_M rfl (rf_M_went hR) ?_
      refine v_iload_n (pc' := 22) dX8_way_21 rfl rfl ?_
      refine v_ial (pc' := 23) dX8_way_22 rfl kp_went (Nat.zero_add _) rfl (by omega) ?_
      refine v_goto (tgt := 27) dX8_way_23 (by decide) ?_
      exact v_iret dX8_way_27 rfl (Nat.le_refl _) (Nat.le_refl _) ⟨rfl, rfl, rfl, rfl, rfl⟩
  · exact absurd (nI_pos' (by omega)) hb
end B36
