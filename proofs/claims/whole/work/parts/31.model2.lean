/-! ===== DigestCachesModel: objects ===== -/
section B31
variable {l : Launch} {I : MI} {L : ML} {R : MR} {r X : Row}
theorem oIx_lt {o : Option Nat} {n : Nat} (h : ∀ k, o = some k → k < n) (hn : n < 2 ^ 31) : oIx o < 0 ↔ o = none := by
  cases o with
  | none => exact ⟨fun _ => rfl, fun _ => by decide⟩
  | some k => exact ⟨fun q => absurd q (nI_pos (by have := h k rfl; omega)), fun q => by cases q⟩
theorem m_takesOut {c idx sz : Nat} (hR : RS R) (hc : c < 5) (hz : r (7 + 110 * c) = nI sz) (hz2 : sz ≤ 16) (hi : idx < sz) : Ok l yX8_takesOut cX8_takesOut 4 none 1 0 0 [.ref 278, .int (nI c), .int (nI idx)] (mm I r X) L R 287 (eqP (none) (mm I (va_up (rSh c idx sz r) (7 + 110 * c) (nI (sz - 1))) X) L R 287) := by
  refine Ok.ofV [some (.ref 278), some (.int (nI c)), some (.int (nI idx)), none] rfl (by decide) (Nat.le_of_ble_eq_true rfl) ?_
  refine v_iload_n (pc' := 1) dX8_takesOut_0 rfl rfl ?_
  refine v_istore_n3 (pc' := 2) dX8_takesOut_1 rfl (by decide) rfl ?_
  have loop : ∀ (n k : Nat) (q : Row), k + 1 + n = sz → idx ≤ k → q = rSh c idx (k + 1) r → V l yX8_takesOut cX8_takesOut 4 none (rmd 1 0 0) (QM 0 0 (eqP (none) (mm I (va_up (rSh c idx sz r) (7 + 110 * c) (nI (sz - 1))) X) L R 287)) (fun _ _ => True) 2 [some (.ref 278), some (.int (nI c)), some (.int (nI idx)), some (.int (nI k))] [] (mm I q X) L R 287 0 0 := by
    intro n
    induction n with
    | zero =>
      intro k q hk hik hq
      have ez : q (7 + 110 * c) = nI sz := by rw [hq, rSh_out (by omega)]; exact hz
      refine v_iload_n (pc' := 3) dX8_takesOut_2 rfl rfl ?_
      refine v_iconst (v := nI 1) (pc' := 4) dX8_takesOut_3 rfl (by decide) ?_
      refine v_iadd (pc' := 5) dX8_takesOut_4 rfl ?_
      refine v_aload_n (pc' := 6) dX8_takesOut_5 rfl rfl ?_
      refine v_iload_n (pc' := 7) dX8_takesOut_6 rfl rfl ?_
      refine v_iconst (v := nI 1) (pc' := 8) dX8_takesOut_7 rfl (by decide) ?_
      refine v_cV2i (pc' := 11) dX8_takesOut_8 rfl cv_X8_55 kp_M (Nat.le_of_ble_eq_true rfl) rfl (m_of (w := 1) (j := 7 + 110 * c) hR rfl (by omega)) ?_
      refine v_icmp_ge (pc' := 14) (tgt := 38) dX8_takesOut_11 rfl (by decide) (fun hb => ?_) (fun hb => ?_)
      · refine v_aload_n (pc' := 39) dX8_takesOut_38 rfl rfl ?_
        refine v_iload_n (pc' := 40) dX8_takesOut_39 rfl rfl ?_
        refine v_iconst (v := nI 1) (pc' := 41) dX8_takesOut_40 rfl (by decide) ?_
        refine v_iconst (v := -1) (pc' := 42) dX8_takesOut_41 rfl (by decide) ?_
        refine v_cV3v (pc' := 45) dX8_takesOut_42 rfl cv_X8_59 kp_M (Nat.le_of_ble_eq_true rfl) rfl (m_adds (w := 1) (j := 7 + 110 * c) hR rfl (by omega)) ?_
        exact v_vret dX8_takesOut_45 rfl (Nat.le_refl _) (Nat.le_refl _) ⟨rfl, by rw [ez, hq, show k + 1 = sz by omega, show nI sz + -1 = nI (sz - 1) by rw [← nI_sub (by omega), ← sub1_nI]; rfl], rfl, rfl, rfl⟩
      · exact absurd (by rw [ez, nI_add]; exact nI_le (by omega) (by omega)) hb
    | succ n ih =>
      intro k q hk hik hq
      have ez : q (7 + 110 * c) = nI sz := by rw [hq, rSh_out (by omega)]; exact hz
      have ei : q (8 + 110 * c + (k + 1)) = r (8 + 110 * c + (k + 1)) := by rw [hq, rSh_out (by omega)]
      refine v_iload_n (pc' := 3) dX8_takesOut_2 rfl rfl ?_
      refine v_iconst (v := nI 1) (pc' := 4) dX8_takesOut_3 rfl (by decide) ?_
      refine v_iadd (pc' := 5) dX8_takesOut_4 rfl ?_
      refine v_aload_n (pc' := 6) dX8_takesOut_5 rfl rfl ?_
      refine v_iload_n (pc' := 7) dX8_takesOut_6 rfl rfl ?_
      refine v_iconst (v := nI 1) (pc' := 8) dX8_takesOut_7 rfl (by decide) ?_
      refine v_cV2i (pc' := 11) dX8_takesOut_8 rfl cv_X8_55 kp_M (Nat.le_of_ble_eq_true rfl) rfl (m_of (w := 1) (j := 7 + 110 * c) hR rfl (by omega)) ?_
      refine v_icmp_ge (pc' := 14) (tgt := 38) dX8_takesOut_11 rfl (by decide) (fun hb => ?_) (fun hb => ?_)
      · exact absurd (by rw [ez, nI_add] at hb; exact hb) (nI_ge (by omega) (by omega))
      · refine v_aload_n (pc' := 15) dX8_takesOut_14 rfl rfl ?_
        refine v_iload_n (pc' := 16) dX8_takesOut_15 rfl rfl ?_
        refine v_iconst (v := nI 2) (pc' := 17) dX8_takesOut_16 rfl (by decide) ?_
        refine v_iload_n (pc' := 18) dX8_takesOut_17 rfl rfl ?_
        refine v_iadd (pc' := 19) dX8_takesOut_18 rfl ?_
        refine v_aload_n (pc' := 20) dX8_takesOut_19 rfl rfl ?_
        refine v_iload_n (pc' := 21) dX8_takesOut_20 rfl rfl ?_
        refine v_iconst (v := nI 2) (pc' := 22) dX8_takesOut_21 rfl (by decide) ?_
        refine v_iload_n (pc' := 23) dX8_takesOut_22 rfl rfl ?_
        refine v_iadd (pc' := 24) dX8_takesOut_23 rfl ?_
        refine v_iconst (v := nI 1) (pc' := 25) dX8_takesOut_24 rfl (by decide) ?_
        refine v_iadd (pc' := 26) dX8_takesOut_25 rfl ?_
        refine v_cV2i (pc' := 29) dX8_takesOut_26 rfl cv_X8_55 kp_M (Nat.le_of_ble_eq_true rfl) rfl (m_of (w := 2 + k + 1) (j := 8 + 110 * c + (k + 1)) hR (by rw [nI_add, nI_add]) (by omega)) ?_
        refine v_cV3v (pc' := 32) dX8_takesOut_29 rfl cv_X8_35 kp_M (Nat.le_of_ble_eq_true rfl) rfl (m_sets (w := 2 + k) (j := 8 + 110 * c + (k + 1 - 1)) hR (nI_add _ _) (by omega)) ?_
        refine v_iinc3 (pc' := 35) dX8_takesOut_32 rfl (by decide) rfl (inc_nI _) ?_
        refine v_goto (tgt := 2) dX8_takesOut_35 (by decide) ?_
        refine ih (k + 1) _ (by omega) (by omega) ?_
        rw [ei, hq, rSh_succ (by omega)]
  exact loop (sz - (idx + 1)) idx r (by omega) (Nat.le_refl _) rSh_0.symm
theorem m_putsInFront {c x sz : Nat} (hR : RS R) (hc : c < 5) (hz : r (7 + 110 * c) = nI sz) (hz2 : sz < 16) : Ok l yX8_putsInFront cX8_putsInFront 4 none 1 0 0 [.ref 278, .int (nI c), .int (nI x)] (mm I r X) L R 287 (eqP (none) (mm I (va_up (rPutF c sz x r) (7 + 110 * c) (nI (sz + 1))) X) L R 287) := by
  refine Ok.ofV [some (.ref 278), some (.int (nI c)), some (.int (nI x)), none] rfl (by decide) (Nat.le_of_ble_eq_true rfl) ?_
  refine v_aload_n (pc' := 1) dX8_putsInFront_0 rfl rfl ?_
  refine v_iload_n (pc' := 2) dX8_putsInFront_1 rfl rfl ?_
  refine v_iconst (v := nI 1) (pc' := 3) dX8_putsInFront_2 rfl (by decide) ?_
  refine v_cV2i (pc' := 6) dX8_putsInFront_3 rfl cv_X8_55 kp_M (Nat.le_of_ble_eq_true rfl) rfl (m_of (w := 1) (j := 7 + 110 * c) hR rfl (by omega)) ?_
  rw [hz]
  refine v_istore_n3 (pc' := 7) dX8_putsInFront_6 rfl (by decide) rfl ?_
  have loop : ∀ (i : Nat) (q : Row), i ≤ sz → q = shR c i sz r → V l yX8_putsInFront cX8_putsInFront 4 none (rmd 1 0 0) (QM 0 0 (eqP (none) (mm I (va_up (rPutF c sz x r) (7 + 110 * c) (nI (sz + 1))) X) L R 287)) (fun _ _ => True) 7 [some (.ref 278), some (.int (nI c)), some (.int (nI x)), some (.int (nI i))] [] (mm I q X) L R 287 0 0 := by
    intro i
    induction i with
    | zero =>
      intro q hi hq
      have ez : rPutF c sz x r (7 + 110 * c) = nI sz := by rw [rPutF_out (by omega)]; exact hz
      refine v_iload_n (pc' := 8) dX8_putsInFront_7 rfl rfl ?_
      refine v_if_le (pc' := 11) (tgt := 35) dX8_putsInFront_8 rfl (by decide) (fun hb => ?_) (fun hb => ?_)
      · refine v_aload_n (pc' := 36) dX8_putsInFront_35 rfl rfl ?_
        refine v_iload_n (pc' := 37) dX8_putsInFront_36 rfl rfl ?_
        refine v_iconst (v := nI 2) (pc' := 38) dX8_putsInFront_37 rfl (by decide) ?_
        refine v_iload_n (pc' := 39) dX8_putsInFront_38 rfl rfl ?_
        refine v_cV3v (pc' := 42) dX8_putsInFront_39 rfl cv_X8_35 kp_M (Nat.le_of_ble_eq_true rfl) rfl (m_sets (w := 2) (j := 8 + 110 * c + 0) hR rfl (by omega)) ?_
        rw [hq, shR_put]
        refine v_aload_n (pc' := 43) dX8_putsInFront_42 rfl rfl ?_
        refine v_iload_n (pc' := 44) dX8_putsInFront_43 rfl rfl ?_
        refine v_iconst (v := nI 1) (pc' := 45) dX8_putsInFront_44 rfl (by decide) ?_
        refine v_iconst (v := nI 1) (pc' := 46) dX8_putsInFront_45 rfl (by decide) ?_
        refine v_cV3v (pc' := 49) dX8_putsInFront_46 rfl cv_X8_59 kp_M (Nat.le_of_ble_eq_true rfl) rfl (m_adds (w := 1) (j := 7 + 110 * c) hR rfl (by omega)) ?_
        exact v_vret dX8_putsInFront_49 rfl (Nat.le_refl _) (Nat.le_refl _) ⟨rfl, by rw [ez, nI_add], rfl, rfl, rfl⟩
      · exact absurd (by decide) hb
    | succ i ih =>
      intro q hi hq
      have ei : q (8 + 110 * c + i) = r (8 + 110 * c + i) := by rw [hq, shR_out (by omega)]
      refine v_iload_n (pc' := 8) dX8_putsInFront_7 rfl rfl ?_
      refine v_if_le (pc' := 11) (tgt := 35) dX8_putsInFront_8 rfl (by decide) (fun hb => ?_) (fun hb => ?_)
      · exact absurd hb (nI_nle (by omega) (by omega))
      · refine v_aload_n (pc' := 12) dX8_putsInFront_11 rfl rfl ?_
        refine v_iload_n (pc' := 13) dX8_putsInFront_12 rfl rfl ?_
        refine v_iconst (v := nI 2) (pc' := 14) dX8_putsInFront_13 rfl (by decide) ?_
        refine v_iload_n (pc' := 15) dX8_putsInFront_14 rfl rfl ?_
        refine v_iadd (pc' := 16) dX8_putsInFront_15 rfl ?_
        refine v_aload_n (pc' := 17) dX8_putsInFront_16 rfl rfl ?_
        refine v_iload_n (pc' := 18) dX8_putsInFront_17 rfl rfl ?_
        refine v_iconst (v := nI 2) (pc' := 19) dX8_putsInFront_18 rfl (by decide) ?_
        refine v_iload_n (pc' := 20) dX8_putsInFront_19 rfl rfl ?_
        refine v_iadd (pc' := 21) dX8_putsInFront_20 rfl ?_
        refine v_iconst (v := nI 1) (pc' := 22) dX8_putsInFront_21 rfl (by decide) ?_
        refine v_isub (pc' := 23) dX8_putsInFront_22 rfl ?_
        refine v_cV2i (pc' := 26) dX8_putsInFront_23 rfl cv_X8_55 kp_M (Nat.le_of_ble_eq_true rfl) rfl (m_of (w := 2 + i) (j := 8 + 110 * c + i) hR (by rw [nI_add, nI_sub (by omega), show 2 + (i + 1) - 1 = 2 + i by omega]) (by omega)) ?_
        refine v_cV3v (pc' := 29) dX8_putsInFront_26 rfl cv_X8_35 kp_M (Nat.le_of_ble_eq_true rfl) rfl (m_sets (w := 2 + (i + 1)) (j := 8 + 110 * c + (i + 1)) hR (nI_add _ _) (by omega)) ?_
        refine v_iinc3 (pc' := 32) dX8_putsInFront_29 rfl (by decide) rfl (dec_nI _) ?_
        refine v_goto (tgt := 7) dX8_putsInFront_32 (by decide) ?_
        refine ih _ (by omega) ?_
        rw [ei, hq, shR_succ hi]
  exact loop sz r (Nat.le_refl _) shR_0.symm
theorem m_dropsLast {c : Nat} {TR : Row} (hR : RS R) (hF : MF I) (hc : c < 5) (hm : IM r) (hi : IS r c) (h1 : 1 ≤ gS r c) (hT : rRem c (gS r c - 1) r = TR) : Ok l yX8_dropsLast cX8_dropsLast 3 (some .int) 2 0 0 [.ref 278, .int (nI c)] (mm I r X) L R 287 (eqP (some (.int (nI (gO r c (gS r c - 1))))) (mm I TR X) L R 287) := by
  obtain ⟨m1, m2, m3, m4, m5, m6⟩ := id hm
  obtain ⟨i1, i6, i7, i8⟩ := id hi
  obtain ⟨o1, o2⟩ := i7 (gS r c - 1) (by omega)
  have e2 : va_up (rSh c (gS r c - 1) (gS r c) r) (7 + 110 * c) (nI (gS r c - 1)) = va_up r (7 + 110 * c) (nI (gS r c - 1)) := by
    have : rSh c (gS r c - 1) (gS r c) r = r := by
      funext j
      exact rSh_out (by omega)
    rw [this]
  rw [rRem_eq, e2] at hT
  refine Ok.ofV [some (.ref 278), some (.int (nI c)), none] rfl (by decide) (Nat.le_of_ble_eq_true rfl) ?_
  refine v_aload_n (pc' := 1) dX8_dropsLast_0 rfl rfl ?_
  refine v_iload_n (pc' := 2) dX8_dropsLast_1 rfl rfl ?_
  refine v_iconst (v := nI 2) (pc' := 3) dX8_dropsLast_2 rfl (by decide) ?_
  refine v_aload_n (pc' := 4) dX8_dropsLast_3 rfl rfl ?_
  refine v_iload_n (pc' := 5) dX8_dropsLast_4 rfl rfl ?_
  refine v_iconst (v := nI 1) (pc' := 6) dX8_dropsLast_5 rfl (by decide) ?_
  refine v_cV2i (pc' := 9) dX8_dropsLast_6 rfl cv_X8_55 kp_M (Nat.le_of_ble_eq_true rfl) rfl (m_of (w := 1) (j := 7 + 110 * c) hR rfl (by omega)) ?_
  rw [i1]
  refine v_iadd (pc' := 10) dX8_dropsLast_9 rfl ?_
  refine v_iconst (v := nI 1) (pc' := 11) dX8_dropsLast_10 rfl (by decide) ?_
  refine v_isub (pc' := 12) dX8_dropsLast_11 rfl ?_
  refine v_cV2i (pc' := 15) dX8_dropsLast_12 rfl cv_X8_55 kp_M (Nat.le_of_ble_eq_true rfl) rfl (m_of (w := 2 + gS r c - 1) (j := 8 + 110 * c + (gS r c - 1)) hR (by rw [nI_add, nI_sub (by omega)]) (by omega)) ?_
  rw [o1]
  refine v_istore_n2 (pc' := 16) dX8_dropsLast_15 rfl (by decide) rfl ?_
  refine v_aload_n (pc' := 17) dX8_dropsLast_16 rfl rfl ?_
  refine v_iload_n (pc' := 18) dX8_dropsLast_17 rfl rfl ?_
  refine v_iconst (v := nI 1) (pc' := 19) dX8_dropsLast_18 rfl (by decide) ?_
  refine v_iconst (v := -1) (pc' := 20) dX8_dropsLast_19 rfl (by decide) ?_
  refine v_cV3v (pc' := 23) dX8_dropsLast_20 rfl cv_X8_59 kp_M (Nat.le_of_ble_eq_true rfl) rfl (m_adds (w := 1) (j := 7 + 110 * c) hR rfl (by omega)) ?_
  rw [i1, show nI (gS r c) + -1 = nI (gS r c - 1) by rw [← nI_sub h1, ← sub1_nI]; rfl]
  refine v_aload_n (pc' := 24) dX8_dropsLast_23 rfl rfl ?_
  refine v_iload_n (pc' := 25) dX8_dropsLast_24 rfl rfl ?_
  refine v_iload_n (pc' := 26) dX8_dropsLast_25 rfl rfl ?_
  refine v_cV2v (pc' := 29) dX8_dropsLast_26 rfl cv_X8_65 kp_M (Nat.le_of_ble_eq_true rfl) rfl (m_discounts (M := gM r) (K := gK r) hR hF hc (by rw [va_up_ne _ _ (by omega)]; exact m1) (by omega) m3 (by rw [va_up_ne _ _ (by omega)]; exact m4) m6 o2 hT) ?_
  refine v_iload_n (pc' := 30) dX8_dropsLast_29 rfl rfl ?_
  exact v_iret dX8_dropsLast_30 rfl (Nat.le_refl _) (Nat.le_refl _) ⟨rfl, rfl, rfl, rfl, rfl⟩
theorem m_stores {c x : Nat} {TR : Row} (hR : RS R) (hF : MF I) (hc : c < 5) (hx : x < 1000) (hm : IM r) (hi : IC r c) (hT : rTake c x r = TR) : Ok l yX8_stores cX8_stores 5 (some .int) 3 0 0 [.ref 278, .int (nI c), .int (nI x)] (mm I r X) L R 287 (eqP (some (.int (aTake c x r))) (mm I TR X) L R 287) := by
  obtain ⟨his, i2, i3, i4, i5⟩ := id hi
  obtain ⟨i1, i6, i7, i8⟩ := id his
  have hm1 := oIx_lt (o := fdx r c x (gS r c)) (n := gS r c) (fun k hk => (fdx_lt hk).1) (by omega)
  refine Ok.ofV [some (.ref 278), some (.int (nI c)), some (.int (nI x)), none, none] rfl (by decide) (Nat.le_of_ble_eq_true rfl) ?_
  refine v_aload_n (pc' := 1) dX8_stores_0 rfl rfl ?_
  refine v_iload_n (pc' := 2) dX8_stores_1 rfl rfl ?_
  refine v_iload_n (pc' := 3) dX8_stores_2 rfl rfl ?_
  refine v_cV2i (pc' := 6) dX8_stores_3 rfl cv_X8_68 kp_M (Nat.le_of_ble_eq_true rfl) rfl (m_find hR hc i1 i6) ?_
  refine v_istore_n3 (pc' := 7) dX8_stores_6 rfl (by decide) rfl ?_
  refine v_iload_n (pc' := 8) dX8_stores_7 rfl rfl ?_
  refine v_if_lt (pc' := 11) (tgt := 25) dX8_stores_8 rfl (by decide) (fun hb => ?_) (fun hb => ?_)
  · have hn : rFind c x r = none := hm1.mp hb
    have et : rTake c x r = rTk c x (rDrop c r) := by unfold rTake; rw [hn]
    have tail : ∀ (d : Int32) (q : Row), q = rDrop c r → d = aTake c x r → IM q → q (7 + 110 * c) = nI (gS q c) → gS q c < 16 → ∀ w : Option Value, V l yX8_stores cX8_stores 5 (some .int) (rmd 3 0 0) (QM 0 0 (eqP (some (.int (aTake c x r))) (mm I TR X) L R 287)) (fun _ _ => True) 49 [some (.ref 278), some (.int (nI c)), some (.int (nI x)), some (.int (oIx (fdx r c x (gS r c)))), w] [.int d] (mm I q X) L R 287 0 0 := by
      intro d q hq hd hmd hsd hs16 w
      refine v_istore4 (pc' := 51) dX8_stores_49 rfl (by decide) rfl ?_
      refine v_aload_n (pc' := 52) dX8_stores_51 rfl rfl ?_
      refine v_iload_n (pc' := 53) dX8_stores_52 rfl rfl ?_
      refine v_iload_n (pc' := 54) dX8_stores_53 rfl rfl ?_
      refine v_cV2v (pc' := 57) dX8_stores_54 rfl cv_X8_74 kp_M (Nat.le_of_ble_eq_true rfl) rfl (m_putsInFront hR hc hsd hs16) ?_
      generalize hJ2 : va_up (rPutF c (gS q c) x q) (7 + 110 * c) (nI (gS q c + 1)) = J2
      have z0 : J2 0 = q 0 := by rw [← hJ2, va_up_ne _ _ (by omega), rPutF_out (by omega)]
      have z1 : J2 1 = q 1 := by rw [← hJ2, va_up_ne _ _ (by omega), rPutF_out (by omega)]
      have hmJ : IM J2 := IM_of hmd z0 z1
      refine v_aload_n (pc' := 58) dX8_stores_57 rfl rfl ?_
      refine v_iload_n (pc' := 59) dX8_stores_58 rfl rfl ?_
      refine v_iload_n (pc' := 60) dX8_stores_59 rfl rfl ?_
      refine v_cV2v (pc' := 63) dX8_stores_60 rfl cv_X8_62 kp_M (Nat.le_of_ble_eq_true rfl) rfl (m_counts (M := gM J2) (K := gK J2) (TR := TR) hR hF hc hmJ.1 (by have := hmJ.2.1; omega) hmJ.2.2.1 hmJ.2.2.2.1 hmJ.2.2.2.2.2 hx (by rw [← hT, et, ← hq]; unfold rTk rIn; rw [hJ2])) ?_
      refine v_iload (pc' := 65) dX8_stores_63 rfl rfl ?_
      exact v_iret dX8_stores_65 rfl (Nat.le_refl _) (Nat.le_refl _) ⟨by rw [hd], rfl, rfl, rfl, rfl⟩
    refine v_aload_n (pc' := 26) dX8_stores_25 rfl rfl ?_
    refine v_iload_n (pc' := 27) dX8_stores_26 rfl rfl ?_
    refine v_iconst (v := nI 1) (pc' := 28) dX8_stores_27 rfl (by decide) ?_
    refine v_cV2i (pc' := 31) dX8_stores_28 rfl cv_X8_55 kp_M (Nat.le_of_ble_eq_true rfl) rfl (m_of (w := 1) (j := 7 + 110 * c) hR rfl (by omega)) ?_
    refine v_aload_n (pc' := 32) dX8_stores_31 rfl rfl ?_
    refine v_iload_n (pc' := 33) dX8_stores_32 rfl rfl ?_
    refine v_iconst (v := nI 0) (pc' := 34) dX8_stores_33 rfl (by decide) ?_
    refine v_cV2i (pc' := 37) dX8_stores_34 rfl cv_X8_55 kp_M (Nat.le_of_ble_eq_true rfl) rfl (m_of (w := 0) (j := 6 + 110 * c) hR rfl (by omega)) ?_
    refine v_icmp_ne (pc' := 40) (tgt := 48) dX8_stores_37 rfl (by decide) (fun hq => ?_) (fun hq => ?_)
    · have hq : gS r c < gC r c := by
        rw [i1, i2] at hq
        have : gS r c ≠ gC r c := fun z => hq (by rw [z])
        omega
      have er : rDrop c r = r := if_pos hq
      refine v_iconst (v := -1) (pc' := 49) dX8_stores_48 rfl (by decide) ?_
      refine tail _ _ er.symm ?_ hm i1 (by omega) _
      unfold aTake
      rw [hn]
      show _ = if gS r c < gC r c then _ else _
      rw [if_pos hq]
    · have hq : ¬ gS r c < gC r c := by
        rw [i1, i2] at hq
        have := (nI_eq (by omega) (by omega)).mp hq
        omega
      have er : rDrop c r = rRem c (gS r c - 1) r := if_neg hq
      obtain ⟨q1, q2⟩ := rRem_IS hm his (show gS r c - 1 < gS r c by omega)
      refine v_aload_n (pc' := 41) dX8_stores_40 rfl rfl ?_
      refine v_iload_n (pc' := 42) dX8_stores_41 rfl rfl ?_
      refine v_cV1i (pc' := 45) dX8_stores_42 rfl cv_X8_77 kp_M (Nat.le_of_ble_eq_true rfl) rfl (m_dropsLast hR hF hc hm his (by omega) er.symm) ?_
      refine v_goto (tgt := 49) dX8_stores_45 (by decide) ?_
      refine tail _ _ rfl ?_ (by rw [er]; exact rRem_IM hm i6) (by rw [er]; exact q1.1) (by rw [er, q2]; omega) _
      unfold aTake
      rw [hn]
      show _ = if gS r c < gC r c then _ else _
      rw [if_neg hq]
  · cases ho : fdx r c x (gS r c) with
    | none => exact absurd (hm1.mpr ho) hb
    | some k =>
      have hk := (fdx_lt ho).1
      show V l yX8_stores cX8_stores 5 (some .int) (rmd 3 0 0) (QM 0 0 (eqP (some (.int (aTake c x r))) (mm I TR X) L R 287)) (fun _ _ => True) 11 [some (.ref 278), some (.int (nI c)), some (.int (nI x)), some (.int (nI k)), none] [] (mm I r X) L R 287 0 0
      have hn : rFind c x r = some k := ho
      have e1 : va_up (rSh c k (gS r c) r) (7 + 110 * c) (nI (gS r c - 1)) (7 + 110 * c) = nI (gS r c - 1) := va_up_self _ _ _
      have e2 : va_up (rPutF c (gS r c - 1) x (va_up (rSh c k (gS r c) r) (7 + 110 * c) (nI (gS r c - 1)))) (7 + 110 * c) (nI (gS r c - 1 + 1)) = TR := by
        rw [← hT]
        unfold rTake
        rw [hn]
        show _ = rPutF c k x r
        funext j
        unfold rPutF rSh va_up
        by_cases h7 : j = 7 + 110 * c
        · rw [if_pos h7, if_neg (by omega), if_neg (by omega), h7, i1]
          congr 1
          omega
        · rw [if_neg h7]
          dsimp only
          by_cases h8 : j = 8 + 110 * c
          · rw [if_pos h8, if_pos h8]
          · rw [if_neg h8, if_neg h8]
            by_cases ha : 8 + 110 * c < j ∧ j ≤ 8 + 110 * c + (gS r c - 1)
            · rw [if_pos ha, if_neg (by omega)]
              by_cases hb2 : 8 + 110 * c + k ≤ j - 1
              · rw [if_pos (by omega), if_neg (by omega)]
                congr 1
                omega
              · rw [if_neg (by omega), if_pos (by omega)]
            · rw [if_neg ha, if_neg h7]
              by_cases hb2 : 8 + 110 * c < j ∧ j ≤ 8 + 110 * c + k
              · exfalso
                omega
              · rw [if_neg hb2, if_neg (by omega)]
      refine v_aload_n (pc' := 12) dX8_stores_11 rfl rfl ?_
      refine v_iload_n (pc' := 13) dX8_stores_12 rfl rfl ?_
      refine v_iload_n (pc' := 14) dX8_stores_13 rfl rfl ?_
      refine v_cV2v (pc' := 17) dX8_stores_14 rfl cv_X8_71 kp_M (Nat.le_of_ble_eq_true rfl) rfl (m_takesOut hR hc i1 i6 hk) ?_
      refine v_aload_n (pc' := 18) dX8_stores_17 rfl rfl ?_
      refine v_iload_n (pc' := 19) dX8_stores_18 rfl rfl ?_
      refine v_iload_n (pc' := 20) dX8_stores_19 rfl rfl ?_
      refine v_cV2v (pc' := 23) dX8_stores_20 rfl cv_X8_74 kp_M (Nat.le_of_ble_eq_true rfl) rfl (m_putsInFront hR hc e1 (by omega)) ?_
      refine v_iconst (v := -1) (pc' := 24) dX8_stores_23 rfl (by decide) ?_
      exact v_iret dX8_stores_24 rfl (Nat.le_refl _) (Nat.le_refl _) ⟨by unfold aTake; rw [hn], by rw [e2], rfl, rfl, rfl⟩
theorem m_countsAnew {c : Nat} {TR : Row} (hR : RS R) (hF : MF I) (hc : c < 5) (hm : IM r) (hi : IS r c) (hT : rNew c r = TR) : Ok l yX8_countsAnew cX8_countsAnew 3 none 2 0 0 [.ref 278, .int (nI c)] (mm I r X) L R 287 (eqP (none) (mm I TR X) L R 287) := by
  obtain ⟨i1, i6, i7, i8⟩ := id hi
  obtain ⟨m1, m2, m3, m4, m5, m6⟩ := id hm
  unfold rNew at hT
  generalize hB : fillF r (24 + 110 * c) 64 0 = B at hT
  have eB : ∀ j, j < 24 + 110 * c → B j = r j := fun j hj => by rw [← hB]; exact fillF_out (by omega)
  refine Ok.ofV [some (.ref 278), some (.int (nI c)), none] rfl (by decide) (Nat.le_of_ble_eq_true rfl) ?_
  refine v_iconst (v := nI 0) (pc' := 1) dX8_countsAnew_0 rfl (by decide) ?_
  refine v_istore_n2 (pc' := 2) dX8_countsAnew_1 rfl (by decide) rfl ?_
  have l2 : ∀ (n i : Nat) (q : Row), i + n = gS r c → q = fNew (gM r) (gK r) c i B → V l yX8_countsAnew cX8_countsAnew 3 none (rmd 2 0 0) (QM 0 0 (eqP (none) (mm I TR X) L R 287)) (fun _ _ => True) 26 [some (.ref 278), some (.int (nI c)), some (.int (nI i))] [] (mm I q X) L R 287 0 0 := by
    intro n
    induction n with
    | zero =>
      intro i q hin hq
      have ej : ∀ j, j < 24 + 110 * c → q j = r j := fun j hj => by rw [hq, fNew_ne (by omega) m3 (by omega), eB j hj]
      refine v_iload_n (pc' := 27) dX8_countsAnew_26 rfl rfl ?_
      refine v_aload_n (pc' := 28) dX8_countsAnew_27 rfl rfl ?_
      refine v_iload_n (pc' := 29) dX8_countsAnew_28 rfl rfl ?_
      refine v_iconst (v := nI 1) (pc' := 30) dX8_countsAnew_29 rfl (by decide) ?_
      refine v_cV2i (pc' := 33) dX8_countsAnew_30 rfl cv_X8_55 kp_M (Nat.le_of_ble_eq_true rfl) rfl (m_of (w := 1) (j := 7 + 110 * c) hR rfl (by omega)) ?_
      refine v_icmp_ge (pc' := 36) (tgt := 55) dX8_countsAnew_33 rfl (by decide) (fun hb => ?_) (fun hb => ?_)
      · exact v_vret dX8_countsAnew_55 rfl (Nat.le_refl _) (Nat.le_refl _) ⟨rfl, by rw [hq, show i = gS r c by omega, hT], rfl, rfl, rfl⟩
      · exact absurd (by rw [ej _ (by omega), i1]; exact nI_le (by omega) (by omega)) hb
    | succ n ih =>
      intro i q hin hq
      have ej : ∀ j, j < 24 + 110 * c → q j = r j := fun j hj => by rw [hq, fNew_ne (by omega) m3 (by omega), eB j hj]
      have eg : gO B c i = gO r c i := by unfold gO; rw [eB _ (by omega)]
      refine v_iload_n (pc' := 27) dX8_countsAnew_26 rfl rfl ?_
      refine v_aload_n (pc' := 28) dX8_countsAnew_27 rfl rfl ?_
      refine v_iload_n (pc' := 29) dX8_countsAnew_28 rfl rfl ?_
      refine v_iconst (v := nI 1) (pc' := 30) dX8_countsAnew_29 rfl (by decide) ?_
      refine v_cV2i (pc' := 33) dX8_countsAnew_30 rfl cv_X8_55 kp_M (Nat.le_of_ble_eq_true rfl) rfl (m_of (w := 1) (j := 7 + 110 * c) hR rfl (by omega)) ?_
      refine v_icmp_ge (pc' := 36) (tgt := 55) dX8_countsAnew_33 rfl (by decide) (fun hb => ?_) (fun hb => ?_)
      · exact absurd (by rw [ej _ (by omega), i1] at hb; exact hb) (nI_ge (by omega) (by omega))
      · refine v_aload_n (pc' := 37) dX8_countsAnew_36 rfl rfl ?_
        refine v_iload_n (pc' := 38) dX8_countsAnew_37 rfl rfl ?_
        refine v_aload_n (pc' := 39) dX8_countsAnew_38 rfl rfl ?_
        refine v_iload_n (pc' := 40) dX8_countsAnew_39 rfl rfl ?_
        refine v_iconst (v := nI 2) (pc' := 41) dX8_countsAnew_40 rfl (by decide) ?_
        refine v_iload_n (pc' := 42) dX8_countsAnew_41 rfl rfl ?_
        refine v_iadd (pc' := 43) dX8_countsAnew_42 rfl ?_
        refine v_cV2i (pc' := 46) dX8_countsAnew_43 rfl cv_X8_55 kp_M (Nat.le_of_ble_eq_true rfl) rfl (m_of (w := 2 + i) (j := 8 + 110 * c + i) hR (nI_add _ _) (by omega)) ?_
        rw [ej _ (by omega), (i7 i (by omega)).1]
        refine v_cV2v (pc' := 49) dX8_countsAnew_46 rfl cv_X8_62 kp_M (Nat.le_of_ble_eq_true rfl) rfl (m_counts (M := gM r) (K := gK r) hR hF hc (by rw [ej _ (by omega)]; exact m1) (by omega) m3 (by rw [ej _ (by omega)]; exact m4) m6 (i7 i (by omega)).2 rfl) ?_
        refine v_iinc2 (pc' := 52) dX8_countsAnew_49 rfl (by decide) rfl (inc_nI _) ?_
        refine v_goto (tgt := 26) dX8_countsAnew_52 (by decide) ?_
        refine ih (i + 1) _ (by omega) ?_
        show _ = fIn (gM r) c (gO B c i) (gK r) (fNew (gM r) (gK r) c i B)
        rw [hq, eg]
  have l1 : ∀ (n k : Nat), k + n = 64 → V l yX8_countsAnew cX8_countsAnew 3 none (rmd 2 0 0) (QM 0 0 (eqP (none) (mm I TR X) L R 287)) (fun _ _ => True) 2 [some (.ref 278), some (.int (nI c)), some (.int (nI k))] [] (mm I (fillF r (24 + 110 * c) k 0) X) L R 287 0 0 := by
    intro n
    induction n with
    | zero =>
      intro k hk
      refine v_iload_n (pc' := 3) dX8_countsAnew_2 rfl rfl ?_
      refine v_bipush (v := nI 64) (pc' := 5) dX8_countsAnew_3 rfl (by decide) ?_
      refine v_icmp_ge (pc' := 8) (tgt := 24) dX8_countsAnew_5 rfl (by decide) (fun hb => ?_) (fun hb => ?_)
      · refine v_iconst (v := nI 0) (pc' := 25) dX8_countsAnew_24 rfl (by decide) ?_
        refine v_istore_n2 (pc' := 26) dX8_countsAnew_25 rfl (by decide) rfl ?_
        rw [show k = 64 by omega, hB]
        exact l2 (gS r c) 0 B (by omega) rfl
      · exact absurd (nI_le (by omega) (by omega)) hb
    | succ n ih =>
      intro k hk
      refine v_iload_n (pc' := 3) dX8_countsAnew_2 rfl rfl ?_
      refine v_bipush (v := nI 64) (pc' := 5) dX8_countsAnew_3 rfl (by decide) ?_
      refine v_icmp_ge (pc' := 8) (tgt := 24) dX8_countsAnew_5 rfl (by decide) (fun hb => ?_) (fun hb => ?_)
      · exact absurd hb (nI_ge (by omega) (by omega))
      · refine v_aload_n (pc' := 9) dX8_countsAnew_8 rfl rfl ?_
        refine v_iload_n (pc' := 10) dX8_countsAnew_9 rfl rfl ?_
        refine v_bipush (v := nI 18) (pc' := 12) dX8_countsAnew_10 rfl (by decide) ?_
        refine v_iload_n (pc' := 13) dX8_countsAnew_12 rfl rfl ?_
        refine v_iadd (pc' := 14) dX8_countsAnew_13 rfl ?_
        refine v_iconst (v := nI 0) (pc' := 15) dX8_countsAnew_14 rfl (by decide) ?_
        refine v_cV3v (pc' := 18) dX8_countsAnew_15 rfl cv_X8_35 kp_M (Nat.le_of_ble_eq_true rfl) rfl (m_sets (w := 18 + k) (j := 24 + 110 * c + k) hR (nI_add _ _) (by omega)) ?_
        refine v_iinc2 (pc' := 21) dX8_countsAnew_18 rfl (by decide) rfl (inc_nI _) ?_
        refine v_goto (tgt := 2) dX8_countsAnew_21 (by decide) ?_
        have := ih (k + 1) (by omega)
        rw [← fillF_succ] at this
        exact this
  have := l1 64 0 (by omega)
  rw [fillF_0] at this
  exact this
end B31
