/-! ===== DigestCachesModel: wouldServe, digest ===== -/
/-- the first k places of a row come from another -/
def hd5 (k : Nat) (v w : Row) : Row := fun j => if j < k then v j else w j
theorem hd5_succ {k : Nat} {v w : Row} : va_up (hd5 k v w) k (v k) = hd5 (k + 1) v w := by
  funext j
  unfold va_up hd5
  by_cases h : j = k
  · rw [if_pos h, if_pos (by omega), h]
  · rw [if_neg h]
    by_cases h2 : j < k
    · rw [if_pos h2, if_pos (by omega)]
    · rw [if_neg h2, if_neg (by omega)]
theorem hd5_0 {v w : Row} : hd5 0 v w = w := by
  funext j
  exact if_neg (by omega)
/-- the model's memory after wouldServe -/
def wSI (I : MI) (q : List Nat × Nat × Nat) : MI := va_up (va_up (va_up I 26 (hd5 5 (I 25) (I 26))) 21 (va_up (gN q.1.length q.2.2 (mtV q.1) (I 21)) 1 (I 21 1))) 25 (hd5 5 (I 25) (wsA q.1 (I 25)))
section B38
variable {l : Launch} {I : MI} {L : ML} {R : MR} {r X : Row} {m Y : Msk} {k : Nat} {TR : Row}
theorem e_wouldServe_no {a b : Int32} (h : noC a ∨ noO b) : Ok l yX8_wouldServe cX8_wouldServe 7 (some .int) 5 0 0 [.ref 278, .int a, .int b] I L R 287 (eqP (some (.int (ofE a))) I L R 287) := by
  refine Ok.ofV [some (.ref 278), some (.int a), some (.int b), none, none, none, none] rfl (by decide) (Nat.le_of_ble_eq_true rfl) ?_
  refine v_iload_n (pc' := 1) dX8_wouldServe_0 rfl rfl ?_
  refine v_iload_n (pc' := 2) dX8_wouldServe_1 rfl rfl ?_
  refine v_cS2i (pc' := 5) dX8_wouldServe_2 rfl cs_X8_96 (Nat.le_of_ble_eq_true rfl) rfl (m_no2 h) ?_
  refine v_istore_n3 (pc' := 6) dX8_wouldServe_5 rfl (by decide) rfl ?_
  refine v_iload_n (pc' := 7) dX8_wouldServe_6 rfl rfl ?_
  refine v_if_ge (pc' := 10) (tgt := 12) dX8_wouldServe_7 rfl (by decide) (fun hb => ?_) (fun hb => ?_)
  · exact absurd (ofE_neg a) (Int32.not_lt.mpr hb)
  · refine v_iload_n (pc' := 11) dX8_wouldServe_10 rfl rfl ?_
    exact v_iret dX8_wouldServe_11 rfl (Nat.le_refl _) (Nat.le_refl _) ⟨rfl, rfl, rfl, rfl, rfl⟩
theorem e_wouldServe {c x : Nat} {ta : Int32} {TI : MI} (hR : RS R) (hF : MF I) (hI : Inv r) (hc : c < 5) (hx : x < 1000) (hTI : wSI I (skW r m c x 4) = TI) (hta : nI (skW r m c x 4).2.1 = ta) : Ok l yX8_wouldServe cX8_wouldServe 7 (some .int) 5 0 0 [.ref 278, .int (nI c), .int (nI x)] (mm I r X) (mL L m Y) R 287 (eqP (some (.int ta)) (mm TI r X) (mL L m Y) R 287) := by
  generalize hI2 : va_up I 26 (hd5 5 (I 25) (I 26)) = I2
  have hF2 : MF I2 := fun f hf => by
    rw [← hI2, va_up_ne _ _ (by decide), va_up_ne _ _ (by decide)]
    exact hF f hf
  have hgo := m_goes (l := l) (X := X) (L := L) (Y := Y) hR hF2 hc hx (Nat.le_refl 4) hI.1 (fun c hc => (hI.2.1 c hc).1) rfl hta
  have hl5 := (skW_fact (r := r) (m := m) (x := x) (lim := 4) hc).2.2.2
  generalize skW r m c x 4 = Z at *
  have e1 : I 21 1 = mm I r X 21 1 := by rw [mm_o (by decide)]
  refine Ok.ofV [some (.ref 278), some (.int (nI c)), some (.int (nI x)), none, none, none, none] rfl (by decide) (Nat.le_of_ble_eq_true rfl) ?_
  refine v_iload_n (pc' := 1) dX8_wouldServe_0 rfl rfl ?_
  refine v_iload_n (pc' := 2) dX8_wouldServe_1 rfl rfl ?_
  refine v_cS2i (pc' := 5) dX8_wouldServe_2 rfl cs_X8_96 (Nat.le_of_ble_eq_true rfl) rfl (m_no1 hc hx) ?_
  refine v_istore_n3 (pc' := 6) dX8_wouldServe_5 rfl (by decide) rfl ?_
  refine v_iload_n (pc' := 7) dX8_wouldServe_6 rfl rfl ?_
  refine v_if_ge (pc' := 10) (tgt := 12) dX8_wouldServe_7 rfl (by decide) (fun hb => ?_) (fun hb => ?_)
  · refine v_aload_n (pc' := 13) dX8_wouldServe_12 rfl rfl ?_
    refine v_gI (o := 1) (pc' := 16) dX8_wouldServe_13 rfl gf_X8_136 kp_M rfl rfl ?_
    refine v_istore4 (pc' := 18) dX8_wouldServe_16 rfl (by decide) rfl ?_
    refine v_iconst (v := nI 0) (pc' := 19) dX8_wouldServe_18 rfl (by decide) ?_
    refine v_istore5 (pc' := 21) dX8_wouldServe_19 rfl (by decide) rfl ?_
    rw [← e1]
    have l1 : ∀ (n d : Nat), d + n = 5 → V l yX8_wouldServe cX8_wouldServe 7 (some .int) (rmd 5 0 0) (QM 0 0 (eqP (some (.int ta)) (mm TI r X) (mL L m Y) R 287)) (fun _ _ => True) 21 [some (.ref 278), some (.int (nI c)), some (.int (nI x)), some (.int (nI 0)), some (.int (I 21 1)), some (.int (nI d)), none] [] (mm (va_up I 26 (hd5 d (I 25) (I 26))) r X) (mL L m Y) R 287 0 0 := by
      intro n
      induction n with
      | zero =>
        intro d hd
        refine v_iload (pc' := 23) dX8_wouldServe_21 rfl rfl ?_
        refine v_iconst (v := nI 5) (pc' := 24) dX8_wouldServe_23 rfl (by decide) ?_
        refine v_icmp_ge (pc' := 27) (tgt := 47) dX8_wouldServe_24 rfl (by decide) (fun hb => ?_) (fun hb => ?_)
        · rw [show d = 5 by omega, hI2]
          refine v_aload_n (pc' := 48) dX8_wouldServe_47 rfl rfl ?_
          refine v_iload_n (pc' := 49) dX8_wouldServe_48 rfl rfl ?_
          refine v_iload_n (pc' := 50) dX8_wouldServe_49 rfl rfl ?_
          refine v_iconst (v := nI 4) (pc' := 51) dX8_wouldServe_50 rfl (by decide) ?_
          refine v_cV3i (pc' := 54) dX8_wouldServe_51 rfl cv_X8_142 kp_M (Nat.le_of_ble_eq_true rfl) rfl (hgo) ?_
          refine v_istore5 (pc' := 56) dX8_wouldServe_54 rfl (by decide) rfl ?_
          refine v_aload_n (pc' := 57) dX8_wouldServe_56 rfl rfl ?_
          refine v_iload (pc' := 59) dX8_wouldServe_57 rfl rfl ?_
          refine v_pI (o := 1) (pc' := 62) dX8_wouldServe_59 rfl gf_X8_136 pf_X8_136 kp_M rfl rfl (Or.inl rfl) rfl rfl ?_
          have e2 : stI (mm (gw I2 Z.1 Z.2.2) r X) 21 1 (I 21 1) = mm (stI (gw I2 Z.1 Z.2.2) 21 1 (I 21 1)) r X := mm_st2 (by decide)
          rw [e2]
          generalize hJ : stI (gw I2 Z.1 Z.2.2) 21 1 (I 21 1) = J
          have j26 : ∀ i, i < 5 → J 26 i = I 25 i := by
            intro i hi
            rw [← hJ, stI_ne (by omega), gw_o (by decide) (by decide), ← hI2, va_up_self]
            exact if_pos hi
          have j25 : J 25 = wsA Z.1 (I 25) := by
            rw [← hJ, stI_r (by decide), gw_25, ← hI2, va_up_ne _ _ (by decide)]
          refine v_iconst (v := nI 0) (pc' := 63) dX8_wouldServe_62 rfl (by decide) ?_
          refine v_istore6 (pc' := 65) dX8_wouldServe_63 rfl (by decide) rfl ?_
          have l2 : ∀ (n d : Nat), d + n = 5 → V l yX8_wouldServe cX8_wouldServe 7 (some .int) (rmd 5 0 0) (QM 0 0 (eqP (some (.int ta)) (mm TI r X) (mL L m Y) R 287)) (fun _ _ => True) 65 [some (.ref 278), some (.int (nI c)), some (.int (nI x)), some (.int (nI 0)), some (.int (I 21 1)), some (.int ta), some (.int (nI d))] [] (mm (va_up J 25 (hd5 d (I 25) (wsA Z.1 (I 25)))) r X) (mL L m Y) R 287 0 0 := by
            intro n
            induction n with
            | zero =>
              intro d hd
              refine v_iload (pc' := 67) dX8_wouldServe_65 rfl rfl ?_
              refine v_iconst (v := nI 5) (pc' := 68) dX8_wouldServe_67 rfl (by decide) ?_
              refine v_icmp_ge (pc' := 71) (tgt := 91) dX8_wouldServe_68 rfl (by decide) (fun hb => ?_) (fun hb => ?_)
              · refine v_iload (pc' := 93) dX8_wouldServe_91 rfl rfl ?_
                exact v_iret dX8_wouldServe_93 rfl (Nat.le_refl _) (Nat.le_refl _) ⟨rfl, by
                    rw [← hTI, show d = 5 by omega]
                    congr 1
                    unfold wSI
                    rw [hI2, ← hJ]
                    unfold stI
                    rw [gw_21]
                    unfold gw
                    rw [up_comm _ (show (25 : Nat) ≠ 21 by decide), bx_uu, bx_uu]
                    congr 2
                    rw [← hI2, va_up_ne _ _ (show (21 : Nat) ≠ 26 by decide)], rfl, rfl, rfl⟩
              · exact absurd (nI_le (by omega) (by omega)) hb
            | succ n ih =>
              intro d hd
              have ed : mm (va_up J 25 (hd5 d (I 25) (wsA Z.1 (I 25)))) r X 26 d = I 25 d := by
                rw [mm_o (by decide), va_up_ne _ _ (by decide)]
                exact j26 d (by omega)
              refine v_iload (pc' := 67) dX8_wouldServe_65 rfl rfl ?_
              refine v_iconst (v := nI 5) (pc' := 68) dX8_wouldServe_67 rfl (by decide) ?_
              refine v_icmp_ge (pc' := 71) (tgt := 91) dX8_wouldServe_68 rfl (by decide) (fun hb => ?_) (fun hb => ?_)
              · exact absurd hb (nI_ge (by omega) (by omega))
              · refine v_aload_n (pc' := 72) dX8_wouldServe_71 rfl rfl ?_
                refine v_getQ (pc' := 75) dX8_wouldServe_72 rfl gf_X8_26 kp_M rfl (rf_M_went hR) ?_
                refine v_iload (pc' := 77) dX8_wouldServe_75 rfl rfl ?_
                refine v_aload_n (pc' := 78) dX8_wouldServe_77 rfl rfl ?_
                refine v_getQ (pc' := 81) dX8_wouldServe_78 rfl gf_X8_29 kp_M rfl (rf_M_keptWay hR) ?_
                refine v_iload (pc' := 83) dX8_wouldServe_81 rfl rfl ?_
                refine v_ial (pc' := 84) dX8_wouldServe_83 rfl kp_keptWay (Nat.zero_add _) rfl (by omega) ?_
                rw [ed]
                refine v_ias (pc' := 85) dX8_wouldServe_84 rfl kp_went (Nat.zero_add _) rfl (by omega) ?_
                refine v_iinc6 (pc' := 88) dX8_wouldServe_85 rfl (by decide) rfl (inc_nI _) ?_
                refine v_goto (tgt := 65) dX8_wouldServe_88 (by decide) ?_
                rw [mm_st2 (by decide)]
                unfold stI
                rw [va_up_self, bx_uu, hd5_succ]
                exact ih (d + 1) (by omega)
          have := l2 5 0 (by omega)
          rw [hd5_0, ← j25, up_id] at this
          exact this
        · exact absurd (nI_le (by omega) (by omega)) hb
      | succ n ih =>
        intro d hd
        have ed : mm (va_up I 26 (hd5 d (I 25) (I 26))) r X 25 d = I 25 d := by rw [mm_o (by decide), va_up_ne _ _ (by decide)]
        refine v_iload (pc' := 23) dX8_wouldServe_21 rfl rfl ?_
        refine v_iconst (v := nI 5) (pc' := 24) dX8_wouldServe_23 rfl (by decide) ?_
        refine v_icmp_ge (pc' := 27) (tgt := 47) dX8_wouldServe_24 rfl (by decide) (fun hb => ?_) (fun hb => ?_)
        · exact absurd hb (nI_ge (by omega) (by omega))
        · refine v_aload_n (pc' := 28) dX8_wouldServe_27 rfl rfl ?_
          refine v_getQ (pc' := 31) dX8_wouldServe_28 rfl gf_X8_29 kp_M rfl (rf_M_keptWay hR) ?_
          refine v_iload (pc' := 33) dX8_wouldServe_31 rfl rfl ?_
          refine v_aload_n (pc' := 34) dX8_wouldServe_33 rfl rfl ?_
          refine v_getQ (pc' := 37) dX8_wouldServe_34 rfl gf_X8_26 kp_M rfl (rf_M_went hR) ?_
          refine v_iload (pc' := 39) dX8_wouldServe_37 rfl rfl ?_
          refine v_ial (pc' := 40) dX8_wouldServe_39 rfl kp_went (Nat.zero_add _) rfl (by omega) ?_
          rw [ed]
          refine v_ias (pc' := 41) dX8_wouldServe_40 rfl kp_keptWay (Nat.zero_add _) rfl (by omega) ?_
          refine v_iinc5 (pc' := 44) dX8_wouldServe_41 rfl (by decide) rfl (inc_nI _) ?_
          refine v_goto (tgt := 21) dX8_wouldServe_44 (by decide) ?_
          rw [mm_st2 (by decide)]
          unfold stI
          rw [va_up_self, bx_uu, hd5_succ]
          exact ih (d + 1) (by omega)
    have := l1 5 0 (by omega)
    rw [hd5_0, up_id] at this
    exact this
  · exact absurd (by decide) hb
/-! the digest -/
def hS (L : ML) (h : Int64) : ML := stL L 21 0 h
theorem hS_hS {h h' : Int64} : stL (mL (hS L h) m Y) 21 0 h' = mL (hS L h') m Y := by
  rw [mL_st2 (by decide)]
  unfold hS stL
  rw [va_up_self, bx_uu, bx_uu]
theorem hS_at {h : Int64} : mL (hS L h) m Y 21 0 = h := by
  rw [mL_o (by decide)]
  unfold hS stL
  rw [va_up_self, va_up_self]
theorem m_note {h v : Int64} (hR : RS R) : Ok l yX8_note cX8_note 3 none 0 0 0 [.ref 278, .long v] I (mL (hS L h) m Y) R 287 (eqP (none) I (mL (hS L (31 * h + v)) m Y) R 287) := by
  refine Ok.ofV [some (.ref 278), some (.long v), none] rfl (by decide) (Nat.le_of_ble_eq_true rfl) ?_
  refine v_aload_n (pc' := 1) dX8_note_0 rfl rfl ?_
  refine v_ldc2 (pc' := 4) dX8_note_1 rfl kc_X8_171 ?_
  refine v_aload_n (pc' := 5) dX8_note_4 rfl rfl ?_
  refine v_gL (o := 0) (pc' := 8) dX8_note_5 rfl gf_X8_173 kp_M rfl rfl ?_
  rw [hS_at]
  refine v_lmul (pc' := 9) dX8_note_8 rfl ?_
  refine v_lload_n (pc' := 10) dX8_note_9 rfl rfl ?_
  refine v_ladd (pc' := 11) dX8_note_10 rfl ?_
  refine v_pL (o := 0) (pc' := 14) dX8_note_11 rfl gf_X8_173 pf_X8_173 kp_M rfl rfl (Or.inl rfl) rfl rfl ?_
  exact v_vret dX8_note_14 rfl (Nat.le_refl _) (Nat.le_refl _) ⟨rfl, rfl, by rw [hS_hS], rfl, rfl⟩
theorem m_noteCache {c : Nat} {h ta : Int64} (hR : RS R) (hI : Inv r) (hc : c < 5) (hta : hCa r m c h = ta) : Ok l yX8_noteCache cX8_noteCache 3 none 1 0 0 [.ref 278, .int (nI c)] (mm I r X) (mL (hS L h) m Y) R 287 (eqP (none) (mm I r X) (mL (hS L ta) m Y) R 287) := by
  obtain ⟨i1, i2, i3, i4⟩ := (hI.2.1 c hc).1
  obtain ⟨m1, m2, m3, m4, m5, m6⟩ := hI.1
  have e0 : mm I r X 20 0 = nI (gM r) := by rw [mm_at (by decide)]; exact m1
  unfold hCa at hta
  generalize hh1 : hA1 r c h = h1 at hta
  generalize hh2 : hsq (fun k => (r (8 + 110 * c + k)).toInt64) (gS r c) h1 = h2 at hta
  generalize hh3 : hsq (fun k => (r (24 + 110 * c + k)).toInt64) (gM r) h2 = h3 at hta
  generalize hh4 : 31 * h3 + (r (88 + 110 * c)).toInt64 = h4 at hta
  generalize hh5 : hsq (fun k => (r (89 + 110 * c + k)).toInt64) 7 h4 = h5 at hta
  refine Ok.ofV [some (.ref 278), some (.int (nI c)), none] rfl (by decide) (Nat.le_of_ble_eq_true rfl) ?_
  refine v_aload_n (pc' := 1) dX8_noteCache_0 rfl rfl ?_
  refine v_aload_n (pc' := 2) dX8_noteCache_1 rfl rfl ?_
  refine v_iload_n (pc' := 3) dX8_noteCache_2 rfl rfl ?_
  refine v_iconst (v := nI 0) (pc' := 4) dX8_noteCache_3 rfl (by decide) ?_
  refine v_cV2i (pc' := 7) dX8_noteCache_4 rfl cv_X8_55 kp_M (Nat.le_of_ble_eq_true rfl) rfl (m_of (w := 0) (j := 6 + 110 * c) hR rfl (by omega)) ?_
  refine v_i2l (pc' := 8) dX8_noteCache_7 rfl ?_
  refine v_cV1v (pc' := 11) dX8_noteCache_8 rfl cv_X8_177 kp_M (Nat.le_of_ble_eq_true rfl) rfl (m_note hR) ?_
  refine v_aload_n (pc' := 12) dX8_noteCache_11 rfl rfl ?_
  refine v_aload_n (pc' := 13) dX8_noteCache_12 rfl rfl ?_
  refine v_iload_n (pc' := 14) dX8_noteCache_13 rfl rfl ?_
  refine v_iconst (v := nI 1) (pc' := 15) dX8_noteCache_14 rfl (by decide) ?_
  refine v_cV2i (pc' := 18) dX8_noteCache_15 rfl cv_X8_55 kp_M (Nat.le_of_ble_eq_true rfl) rfl (m_of (w := 1) (j := 7 + 110 * c) hR rfl (by omega)) ?_
  refine v_i2l (pc' := 19) dX8_noteCache_18 rfl ?_
  refine v_cV1v (pc' := 22) dX8_noteCache_19 rfl cv_X8_177 kp_M (Nat.le_of_ble_eq_true rfl) rfl (m_note hR) ?_
  refine v_iconst (v := nI 0) (pc' := 23) dX8_noteCache_22 rfl (by decide) ?_
  refine v_istore_n2 (pc' := 24) dX8_noteCache_23 rfl (by decide) rfl ?_
  rw [show 31 * (31 * h + (r (6 + 110 * c)).toInt64) + (r (7 + 110 * c)).toInt64 = h1 from hh1]
  have l4 : ∀ (n d : Nat), d + n = 5 → V l yX8_noteCache cX8_noteCache 3 none (rmd 1 0 0) (QM 0 0 (eqP (none) (mm I r X) (mL (hS L ta) m Y) R 287)) (fun _ _ => True) 127 [some (.ref 278), some (.int (nI c)), some (.int (nI d))] [] (mm I r X) (mL (hS L (hCp r m c d h5)) m Y) R 287 0 0 := by
    intro n
    induction n with
    | zero =>
      intro d hd
      refine v_iload_n (pc' := 128) dX8_noteCache_127 rfl rfl ?_
      refine v_iconst (v := nI 5) (pc' := 129) dX8_noteCache_128 rfl (by decide) ?_
      refine v_icmp_ge (pc' := 132) (tgt := 187) dX8_noteCache_129 rfl (by decide) (fun hb => ?_) (fun hb => ?_)
      · exact v_vret dX8_noteCache_187 rfl (Nat.le_refl _) (Nat.le_refl _) ⟨rfl, rfl, by rw [← hta, show d = 5 by omega], rfl, rfl⟩
      · exact absurd (nI_le (by omega) (by omega)) hb
    | succ n ih =>
      intro d hd
      have nxt := ih (d + 1) (by omega)
      refine v_iload_n (pc' := 128) dX8_noteCache_127 rfl rfl ?_
      refine v_iconst (v := nI 5) (pc' := 129) dX8_noteCache_128 rfl (by decide) ?_
      refine v_icmp_ge (pc' := 132) (tgt := 187) dX8_noteCache_129 rfl (by decide) (fun hb => ?_) (fun hb => ?_)
      · exact absurd hb (nI_ge (by omega) (by omega))
      · refine v_iload_n (pc' := 133) dX8_noteCache_132 rfl rfl ?_
        refine v_iload_n (pc' := 134) dX8_noteCache_133 rfl rfl ?_
        refine v_icmp_eq (pc' := 137) (tgt := 181) dX8_noteCache_134 rfl (by decide) (fun hq => ?_) (fun hq => ?_)
        · have hq := (nI_eq (by omega) (by omega)).mp hq
          refine v_iinc2 (pc' := 184) dX8_noteCache_181 rfl (by decide) rfl (inc_nI _) ?_
          refine v_goto (tgt := 127) dX8_noteCache_184 (by decide) ?_
          rw [show hCp r m c (d + 1) h5 = hCp r m c d h5 from if_pos hq] at nxt
          exact nxt
        · have hq : ¬ d = c := fun z => hq (by rw [z])
          refine v_aload_n (pc' := 138) dX8_noteCache_137 rfl rfl ?_
          refine v_aload_n (pc' := 139) dX8_noteCache_138 rfl rfl ?_
          refine v_getQ (pc' := 142) dX8_noteCache_139 rfl gf_X8_13 kp_M rfl (rf_M_mask hR) ?_
          refine v_iconst (v := nI 5) (pc' := 143) dX8_noteCache_142 rfl (by decide) ?_
          refine v_iconst (v := nI 5) (pc' := 144) dX8_noteCache_143 rfl (by decide) ?_
          refine v_iload_n (pc' := 145) dX8_noteCache_144 rfl rfl ?_
          refine v_imul (pc' := 146) dX8_noteCache_145 rfl ?_
          refine v_iadd (pc' := 147) dX8_noteCache_146 rfl ?_
          refine v_iload_n (pc' := 148) dX8_noteCache_147 rfl rfl ?_
          refine v_iadd (pc' := 149) dX8_noteCache_148 rfl ?_
          refine v_lal (pc' := 150) dX8_noteCache_149 rfl kp_mask (Nat.zero_add _) ix5 (by omega) ?_
          rw [mL_at (by omega)]
          refine v_cV1v (pc' := 153) dX8_noteCache_150 rfl cv_X8_177 kp_M (Nat.le_of_ble_eq_true rfl) rfl (m_note hR) ?_
          refine v_aload_n (pc' := 154) dX8_noteCache_153 rfl rfl ?_
          refine v_aload_n (pc' := 155) dX8_noteCache_154 rfl rfl ?_
          refine v_iload_n (pc' := 156) dX8_noteCache_155 rfl rfl ?_
          refine v_bipush (v := nI 100) (pc' := 158) dX8_noteCache_156 rfl (by decide) ?_
          refine v_iload_n (pc' := 159) dX8_noteCache_158 rfl rfl ?_
          refine v_iadd (pc' := 160) dX8_noteCache_159 rfl ?_
          refine v_cV2i (pc' := 163) dX8_noteCache_160 rfl cv_X8_55 kp_M (Nat.le_of_ble_eq_true rfl) rfl (m_of (w := 100 + d) (j := 106 + 110 * c + d) hR (nI_add _ _) (by omega)) ?_
          refine v_i2l (pc' := 164) dX8_noteCache_163 rfl ?_
          refine v_cV1v (pc' := 167) dX8_noteCache_164 rfl cv_X8_177 kp_M (Nat.le_of_ble_eq_true rfl) rfl (m_note hR) ?_
          refine v_aload_n (pc' := 168) dX8_noteCache_167 rfl rfl ?_
          refine v_aload_n (pc' := 169) dX8_noteCache_168 rfl rfl ?_
          refine v_iload_n (pc' := 170) dX8_noteCache_169 rfl rfl ?_
          refine v_bipush (v := nI 105) (pc' := 172) dX8_noteCache_170 rfl (by decide) ?_
          refine v_iload_n (pc' := 173) dX8_noteCache_172 rfl rfl ?_
          refine v_iadd (pc' := 174) dX8_noteCache_173 rfl ?_
          refine v_cV2i (pc' := 177) dX8_noteCache_174 rfl cv_X8_55 kp_M (Nat.le_of_ble_eq_true rfl) rfl (m_of (w := 105 + d) (j := 111 + 110 * c + d) hR (nI_add _ _) (by omega)) ?_
          refine v_i2l (pc' := 178) dX8_noteCache_177 rfl ?_
          refine v_cV1v (pc' := 181) dX8_noteCache_178 rfl cv_X8_177 kp_M (Nat.le_of_ble_eq_true rfl) rfl (m_note hR) ?_
          refine v_iinc2 (pc' := 184) dX8_noteCache_181 rfl (by decide) rfl (inc_nI _) ?_
          refine v_goto (tgt := 127) dX8_noteCache_184 (by decide) ?_
          rw [show hCp r m c (d + 1) h5 = 31 * (31 * (31 * hCp r m c d h5 + m (5 + 5 * c + d)) + (r (106 + 110 * c + d)).toInt64) + (r (111 + 110 * c + d)).toInt64 from if_neg hq] at nxt
          exact nxt
  have l3 : ∀ (n d : Nat), d + n = 7 → V l yX8_noteCache cX8_noteCache 3 none (rmd 1 0 0) (QM 0 0 (eqP (none) (mm I r X) (mL (hS L ta) m Y) R 287)) (fun _ _ => True) 99 [some (.ref 278), some (.int (nI c)), some (.int (nI d))] [] (mm I r X) (mL (hS L (hsq (fun k => (r (89 + 110 * c + k)).toInt64) d h4)) m Y) R 287 0 0 := by
    intro n
    induction n with
    | zero =>
      intro d hd
      refine v_iload_n (pc' := 100) dX8_noteCache_99 rfl rfl ?_
      refine v_bipush (v := nI 7) (pc' := 102) dX8_noteCache_100 rfl (by decide) ?_
      refine v_icmp_ge (pc' := 105) (tgt := 125) dX8_noteCache_102 rfl (by decide) (fun hb => ?_) (fun hb => ?_)
      · refine v_iconst (v := nI 0) (pc' := 126) dX8_noteCache_125 rfl (by decide) ?_
        refine v_istore_n2 (pc' := 127) dX8_noteCache_126 rfl (by decide) rfl ?_
        rw [show d = 7 by omega, hh5]
        exact l4 5 0 (by omega)
      · exact absurd (nI_le (by omega) (by omega)) hb
    | succ n ih =>
      intro d hd
      refine v_iload_n (pc' := 100) dX8_noteCache_99 rfl rfl ?_
      refine v_bipush (v := nI 7) (pc' := 102) dX8_noteCache_100 rfl (by decide) ?_
      refine v_icmp_ge (pc' := 105) (tgt := 125) dX8_noteCache_102 rfl (by decide) (fun hb => ?_) (fun hb => ?_)
      · exact absurd hb (nI_ge (by omega) (by omega))
      · refine v_aload_n (pc' := 106) dX8_noteCache_105 rfl rfl ?_
        refine v_aload_n (pc' := 107) dX8_noteCache_106 rfl rfl ?_
        refine v_iload_n (pc' := 108) dX8_noteCache_107 rfl rfl ?_
        refine v_bipush (v := nI 83) (pc' := 110) dX8_noteCache_108 rfl (by decide) ?_
        refine v_iload_n (pc' := 111) dX8_noteCache_110 rfl rfl ?_
        refine v_iadd (pc' := 112) dX8_noteCache_111 rfl ?_
        refine v_cV2i (pc' := 115) dX8_noteCache_112 rfl cv_X8_55 kp_M (Nat.le_of_ble_eq_true rfl) rfl (m_of (w := 83 + d) (j := 89 + 110 * c + d) hR (nI_add _ _) (by omega)) ?_
        refine v_i2l (pc' := 116) dX8_noteCache_115 rfl ?_
        refine v_cV1v (pc' := 119) dX8_noteCache_116 rfl cv_X8_177 kp_M (Nat.le_of_ble_eq_true rfl) rfl (m_note hR) ?_
        refine v_iinc2 (pc' := 122) dX8_noteCache_119 rfl (by decide) rfl (inc_nI _) ?_
        refine v_goto (tgt := 99) dX8_noteCache_122 (by decide) ?_
        exact ih (d + 1) (by omega)
  have l2 : ∀ (n d : Nat), d + n = gM r → V l yX8_noteCache cX8_noteCache 3 none (rmd 1 0 0) (QM 0 0 (eqP (none) (mm I r X) (mL (hS L ta) m Y) R 287)) (fun _ _ => True) 55 [some (.ref 278), some (.int (nI c)), some (.int (nI d))] [] (mm I r X) (mL (hS L (hsq (fun k => (r (24 + 110 * c + k)).toInt64) d h2)) m Y) R 287 0 0 := by
    intro n
    induction n with
    | zero =>
      intro d hd
      refine v_iload_n (pc' := 56) dX8_noteCache_55 rfl rfl ?_
      refine v_aload_n (pc' := 57) dX8_noteCache_56 rfl rfl ?_
      refine v_getQ (pc' := 60) dX8_noteCache_57 rfl gf_X8_7 kp_M rfl (rf_M_row hR) ?_
      refine v_iconst (v := nI 0) (pc' := 61) dX8_noteCache_60 rfl (by decide) ?_
      refine v_ial (pc' := 62) dX8_noteCache_61 rfl kp_row (Nat.zero_add _) rfl (by omega) ?_
      refine v_icmp_ge (pc' := 65) (tgt := 85) dX8_noteCache_62 rfl (by decide) (fun hb => ?_) (fun hb => ?_)
      · refine v_aload_n (pc' := 86) dX8_noteCache_85 rfl rfl ?_
        refine v_aload_n (pc' := 87) dX8_noteCache_86 rfl rfl ?_
        refine v_iload_n (pc' := 88) dX8_noteCache_87 rfl rfl ?_
        refine v_bipush (v := nI 82) (pc' := 90) dX8_noteCache_88 rfl (by decide) ?_
        refine v_cV2i (pc' := 93) dX8_noteCache_90 rfl cv_X8_55 kp_M (Nat.le_of_ble_eq_true rfl) rfl (m_of (w := 82) (j := 88 + 110 * c) hR rfl (by omega)) ?_
        refine v_i2l (pc' := 94) dX8_noteCache_93 rfl ?_
        refine v_cV1v (pc' := 97) dX8_noteCache_94 rfl cv_X8_177 kp_M (Nat.le_of_ble_eq_true rfl) rfl (m_note hR) ?_
        refine v_iconst (v := nI 0) (pc' := 98) dX8_noteCache_97 rfl (by decide) ?_
        refine v_istore_n2 (pc' := 99) dX8_noteCache_98 rfl (by decide) rfl ?_
        rw [show d = gM r by omega, hh3, hh4]
        exact l3 7 0 (by omega)
      · exact absurd (by rw [e0]; exact nI_le (by omega) (by omega)) hb
    | succ n ih =>
      intro d hd
      refine v_iload_n (pc' := 56) dX8_noteCache_55 rfl rfl ?_
      refine v_aload_n (pc' := 57) dX8_noteCache_56 rfl rfl ?_
      refine v_getQ (pc' := 60) dX8_noteCache_57 rfl gf_X8_7 kp_M rfl (rf_M_row hR) ?_
      refine v_iconst (v := nI 0) (pc' := 61) dX8_noteCache_60 rfl (by decide) ?_
      refine v_ial (pc' := 62) dX8_noteCache_61 rfl kp_row (Nat.zero_add _) rfl (by omega) ?_
      refine v_icmp_ge (pc' := 65) (tgt := 85) dX8_noteCache_62 rfl (by decide) (fun hb => ?_) (fun hb => ?_)
      · exact absurd (by rw [e0] at hb; exact hb) (nI_ge (by omega) (by omega))
      · refine v_aload_n (pc' := 66) dX8_noteCache_65 rfl rfl ?_
        refine v_aload_n (pc' := 67) dX8_noteCache_66 rfl rfl ?_
        refine v_iload_n (pc' := 68) dX8_noteCache_67 rfl rfl ?_
        refine v_bipush (v := nI 18) (pc' := 70) dX8_noteCache_68 rfl (by decide) ?_
        refine v_iload_n (pc' := 71) dX8_noteCache_70 rfl rfl ?_
        refine v_iadd (pc' := 72) dX8_noteCache_71 rfl ?_
        refine v_cV2i (pc' := 75) dX8_noteCache_72 rfl cv_X8_55 kp_M (Nat.le_of_ble_eq_true rfl) rfl (m_of (w := 18 + d) (j := 24 + 110 * c + d) hR (nI_add _ _) (by omega)) ?_
        refine v_i2l (pc' := 76) dX8_noteCache_75 rfl ?_
        refine v_cV1v (pc' := 79) dX8_noteCache_76 rfl cv_X8_177 kp_M (Nat.le_of_ble_eq_true rfl) rfl (m_note hR) ?_
        refine v_iinc2 (pc' := 82) dX8_noteCache_79 rfl (by decide) rfl (inc_nI _) ?_
        refine v_goto (tgt := 55) dX8_noteCache_82 (by decide) ?_
        exact ih (d + 1) (by omega)
  have l1 : ∀ (n d : Nat), d + n = gS r c → V l yX8_noteCache cX8_noteCache 3 none (rmd 1 0 0) (QM 0 0 (eqP (none) (mm I r X) (mL (hS L ta) m Y) R 287)) (fun _ _ => True) 24 [some (.ref 278), some (.int (nI c)), some (.int (nI d))] [] (mm I r X) (mL (hS L (hsq (fun k => (r (8 + 110 * c + k)).toInt64) d h1)) m Y) R 287 0 0 := by
    intro n
    induction n with
    | zero =>
      intro d hd
      refine v_iload_n (pc' := 25) dX8_noteCache_24 rfl rfl ?_
      refine v_aload_n (pc' := 26) dX8_noteCache_25 rfl rfl ?_
      refine v_iload_n (pc' := 27) dX8_noteCache_26 rfl rfl ?_
      refine v_iconst (v := nI 1) (pc' := 28) dX8_noteCache_27 rfl (by decide) ?_
      refine v_cV2i (pc' := 31) dX8_noteCache_28 rfl cv_X8_55 kp_M (Nat.le_of_ble_eq_true rfl) rfl (m_of (w := 1) (j := 7 + 110 * c) hR rfl (by omega)) ?_
      refine v_icmp_ge (pc' := 34) (tgt := 53) dX8_noteCache_31 rfl (by decide) (fun hb => ?_) (fun hb => ?_)
      · refine v_iconst (v := nI 0) (pc' := 54) dX8_noteCache_53 rfl (by decide) ?_
        refine v_istore_n2 (pc' := 55) dX8_noteCache_54 rfl (by decide) rfl ?_
        rw [show d = gS r c by omega, hh2]
        exact l2 (gM r) 0 (by omega)
      · exact absurd (by rw [i1]; exact nI_le (by omega) (by omega)) hb
    | succ n ih =>
      intro d hd
      refine v_iload_n (pc' := 25) dX8_noteCache_24 rfl rfl ?_
      refine v_aload_n (pc' := 26) dX8_noteCache_25 rfl rfl ?_
      refine v_iload_n (pc' := 27) dX8_noteCache_26 rfl rfl ?_
      refine v_iconst (v := nI 1) (pc' := 28) dX8_noteCache_27 rfl (by decide) ?_
      refine v_cV2i (pc' := 31) dX8_noteCache_28 rfl cv_X8_55 kp_M (Nat.le_of_ble_eq_true rfl) rfl (m_of (w := 1) (j := 7 + 110 * c) hR rfl (by omega)) ?_
      refine v_icmp_ge (pc' := 34) (tgt := 53) dX8_noteCache_31 rfl (by decide) (fun hb => ?_) (fun hb => ?_)
      · exact absurd (by rw [i1] at hb; exact hb) (nI_ge (by omega) (by omega))
      · refine v_aload_n (pc' := 35) dX8_noteCache_34 rfl rfl ?_
        refine v_aload_n (pc' := 36) dX8_noteCache_35 rfl rfl ?_
        refine v_iload_n (pc' := 37) dX8_noteCache_36 rfl rfl ?_
        refine v_iconst (v := nI 2) (pc' := 38) dX8_noteCache_37 rfl (by decide) ?_
        refine v_iload_n (pc' := 39) dX8_noteCache_38 rfl rfl ?_
        refine v_iadd (pc' := 40) dX8_noteCache_39 rfl ?_
        refine v_cV2i (pc' := 43) dX8_noteCache_40 rfl cv_X8_55 kp_M (Nat.le_of_ble_eq_true rfl) rfl (m_of (w := 2 + d) (j := 8 + 110 * c + d) hR (nI_add _ _) (by omega)) ?_
        refine v_i2l (pc' := 44) dX8_noteCache_43 rfl ?_
        refine v_cV1v (pc' := 47) dX8_noteCache_44 rfl cv_X8_177 kp_M (Nat.le_of_ble_eq_true rfl) rfl (m_note hR) ?_
        refine v_iinc2 (pc' := 50) dX8_noteCache_47 rfl (by decide) rfl (inc_nI _) ?_
        refine v_goto (tgt := 24) dX8_noteCache_50 (by decide) ?_
        exact ih (d + 1) (by omega)
  exact l1 (gS r c) 0 (by omega)
theorem e_digest {ta : Int64} (hR : RS R) (hI : Inv r) (hta : rHash r m = ta) : Ok l yX8_digest cX8_digest 2 (some .long) 2 0 0 [.ref 278] (mm I r X) (mL L m Y) R 287 (eqP (some (.long ta)) (mm I r X) (mL (hS L ta) m Y) R 287) := by
  unfold rHash at hta
  generalize hh : 31 * (31 * (31 * 17 + (r 0).toInt64) + (r 1).toInt64) + (r 2).toInt64 = h0 at hta
  refine Ok.ofV [some (.ref 278), none] rfl (by decide) (Nat.le_of_ble_eq_true rfl) ?_
  refine v_aload_n (pc' := 1) dX8_digest_0 rfl rfl ?_
  refine v_ldc2 (pc' := 4) dX8_digest_1 rfl kc_X8_181 ?_
  refine v_pL (o := 0) (pc' := 7) dX8_digest_4 rfl gf_X8_173 pf_X8_173 kp_M rfl rfl (Or.inl rfl) rfl rfl ?_
  rw [mL_st2 (by decide)]
  rw [show stL L 21 0 17 = hS L 17 from rfl]
  refine v_aload_n (pc' := 8) dX8_digest_7 rfl rfl ?_
  refine v_aload_n (pc' := 9) dX8_digest_8 rfl rfl ?_
  refine v_getQ (pc' := 12) dX8_digest_9 rfl gf_X8_7 kp_M rfl (rf_M_row hR) ?_
  refine v_iconst (v := nI 0) (pc' := 13) dX8_digest_12 rfl (by decide) ?_
  refine v_ial (pc' := 14) dX8_digest_13 rfl kp_row (Nat.zero_add _) rfl (by omega) ?_
  refine v_i2l (pc' := 15) dX8_digest_14 rfl ?_
  refine v_cV1v (pc' := 18) dX8_digest_15 rfl cv_X8_177 kp_M (Nat.le_of_ble_eq_true rfl) rfl (m_note hR) ?_
  refine v_aload_n (pc' := 19) dX8_digest_18 rfl rfl ?_
  refine v_aload_n (pc' := 20) dX8_digest_19 rfl rfl ?_
  refine v_getQ (pc' := 23) dX8_digest_20 rfl gf_X8_7 kp_M rfl (rf_M_row hR) ?_
  refine v_iconst (v := nI 1) (pc' := 24) dX8_digest_23 rfl (by decide) ?_
  refine v_ial (pc' := 25) dX8_digest_24 rfl kp_row (Nat.zero_add _) rfl (by omega) ?_
  refine v_i2l (pc' := 26) dX8_digest_25 rfl ?_
  refine v_cV1v (pc' := 29) dX8_digest_26 rfl cv_X8_177 kp_M (Nat.le_of_ble_eq_true rfl) rfl (m_note hR) ?_
  refine v_aload_n (pc' := 30) dX8_digest_29 rfl rfl ?_
  refine v_aload_n (pc' := 31) dX8_digest_30 rfl rfl ?_
  refine v_getQ (pc' := 34) dX8_digest_31 rfl gf_X8_7 kp_M rfl (rf_M_row hR) ?_
  refine v_iconst (v := nI 2) (pc' := 35) dX8_digest_34 rfl (by decide) ?_
  refine v_ial (pc' := 36) dX8_digest_35 rfl kp_row (Nat.zero_add _) rfl (by omega) ?_
  refine v_i2l (pc' := 37) dX8_digest_36 rfl ?_
  refine v_cV1v (pc' := 40) dX8_digest_37 rfl cv_X8_177 kp_M (Nat.le_of_ble_eq_true rfl) rfl (m_note hR) ?_
  refine v_iconst (v := nI 0) (pc' := 41) dX8_digest_40 rfl (by decide) ?_
  refine v_istore_n1 (pc' := 42) dX8_digest_41 rfl (by decide) rfl ?_
  rw [mm_at (by decide), mm_at (by decide), mm_at (by decide), hh]
  have loop : ∀ (n c : Nat), c + n = 5 → V l yX8_digest cX8_digest 2 (some .long) (rmd 2 0 0) (QM 0 0 (eqP (some (.long ta)) (mm I r X) (mL (hS L ta) m Y) R 287)) (fun _ _ => True) 42 [some (.ref 278), some (.int (nI c))] [] (mm I r X) (mL (hS L (hAl r m c h0)) m Y) R 287 0 0 := by
    intro n
    induction n with
    | zero =>
      intro c hc
      have hc5 : c = 5 := by omega
      subst hc5
      rw [hta]
      refine v_iload_n (pc' := 43) dX8_digest_42 rfl rfl ?_
      refine v_iconst (v := nI 5) (pc' := 44) dX8_digest_43 rfl (by decide) ?_
      refine v_icmp_ge (pc' := 47) (tgt := 58) dX8_digest_44 rfl (by decide) (fun hb => ?_) (fun hb => ?_)
      · refine v_aload_n (pc' := 59) dX8_digest_58 rfl rfl ?_
        refine v_gL (o := 0) (pc' := 62) dX8_digest_59 rfl gf_X8_173 kp_M rfl rfl ?_
        exact v_lret dX8_digest_62 rfl (Nat.le_refl _) (Nat.le_refl _) ⟨by rw [hS_at], rfl, rfl, rfl, rfl⟩
      · exact absurd (by decide) hb
    | succ n ih =>
      intro c hc
      have hc5 : c < 5 := by omega
      refine v_iload_n (pc' := 43) dX8_digest_42 rfl rfl ?_
      refine v_iconst (v := nI 5) (pc' := 44) dX8_digest_43 rfl (by decide) ?_
      refine v_icmp_ge (pc' := 47) (tgt := 58) dX8_digest_44 rfl (by decide) (fun hb => ?_) (fun hb => ?_)
      · exact absurd hb (nI_ge (by omega) (by omega))
      · refine v_aload_n (pc' := 48) dX8_digest_47 rfl rfl ?_
        refine v_iload_n (pc' := 49) dX8_digest_48 rfl rfl ?_
        refine v_cV1v (pc' := 52) dX8_digest_49 rfl cv_X8_183 kp_M (Nat.le_of_ble_eq_true rfl) rfl (m_noteCache hR hI hc5 rfl) ?_
        refine v_iinc1 (pc' := 55) dX8_digest_52 rfl (by decide) rfl (inc_nI _) ?_
        refine v_goto (tgt := 42) dX8_digest_55 (by decide) ?_
        exact ih (c + 1) (by omega)
  exact loop 5 0 (by omega)
end B38
