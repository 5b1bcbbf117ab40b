/-! ===== Cache ===== -/
def IM (r : Row) : Prop := r 0 = nI (gM r) ∧ 8 ≤ gM r ∧ gM r ≤ 64 ∧ r 1 = nI (gK r) ∧ 1 ≤ gK r ∧ gK r ≤ 4
/-- the size and the objects of cache c; and its capacity -/
def IS (r : Row) (c : Nat) : Prop := r (7 + 110 * c) = nI (gS r c) ∧ gS r c ≤ 16 ∧ (∀ i, i < gS r c → r (8 + 110 * c + i) = nI (gO r c i) ∧ gO r c i < 1000) ∧ Dst r c (gS r c)
def IC (r : Row) (c : Nat) : Prop := IS r c ∧ r (6 + 110 * c) = nI (gC r c) ∧ gS r c ≤ gC r c ∧ 1 ≤ gC r c ∧ gC r c ≤ 16
theorem rSh_out {c idx sz j : Nat} {r : Row} (h : j < 8 + 110 * c + idx ∨ 8 + 110 * c + sz ≤ j + 1) : rSh c idx sz r j = r j := by
  unfold rSh
  rw [if_neg (by omega)]
theorem rSh_0 {c idx : Nat} {r : Row} : rSh c idx (idx + 1) r = r := by
  funext j
  exact rSh_out (by omega)
theorem rSh_succ {c idx i : Nat} {r : Row} (h : idx < i) : va_up (rSh c idx i r) (8 + 110 * c + (i - 1)) (r (8 + 110 * c + i)) = rSh c idx (i + 1) r := by
  funext j
  unfold va_up rSh
  by_cases h1 : j = 8 + 110 * c + (i - 1)
  · rw [if_pos h1, if_pos (by omega)]
    congr 1
    omega
  · rw [if_neg h1]
    by_cases h2 : 8 + 110 * c + idx ≤ j ∧ j + 1 < 8 + 110 * c + i
    · rw [if_pos h2, if_pos (by omega)]
    · rw [if_neg h2, if_neg (by omega)]
/-- the objects i to idx - 1 have moved back -/
def shR (c i idx : Nat) (r : Row) : Row := fun j => if 8 + 110 * c + i < j ∧ j ≤ 8 + 110 * c + idx then r (j - 1) else r j
theorem shR_0 {c idx : Nat} {r : Row} : shR c idx idx r = r := by
  funext j
  unfold shR
  rw [if_neg (by omega)]
theorem shR_out {c i idx j : Nat} {r : Row} (h : j ≤ 8 + 110 * c + i ∨ 8 + 110 * c + idx < j) : shR c i idx r j = r j := by
  unfold shR
  rw [if_neg (by omega)]
theorem shR_succ {c i idx : Nat} {r : Row} (h : i + 1 ≤ idx) : va_up (shR c (i + 1) idx r) (8 + 110 * c + (i + 1)) (r (8 + 110 * c + i)) = shR c i idx r := by
  funext j
  unfold va_up shR
  by_cases h1 : j = 8 + 110 * c + (i + 1)
  · rw [if_pos h1, if_pos (by omega)]
    congr 1
    omega
  · rw [if_neg h1]
    by_cases h2 : 8 + 110 * c + (i + 1) < j ∧ j ≤ 8 + 110 * c + idx
    · rw [if_pos h2, if_pos (by omega)]
    · rw [if_neg h2, if_neg (by omega)]
theorem shR_put {c idx x : Nat} {r : Row} : va_up (shR c 0 idx r) (8 + 110 * c + 0) (nI x) = rPutF c idx x r := by
  funext j
  unfold va_up shR rPutF
  by_cases h1 : j = 8 + 110 * c
  · rw [if_pos (by omega), if_pos h1]
  · rw [if_neg (by omega), if_neg h1]
    rfl
theorem rPutF_out {c idx x j : Nat} {r : Row} (h : j < 8 + 110 * c ∨ 8 + 110 * c + idx < j) : rPutF c idx x r j = r j := by
  unfold rPutF
  rw [if_neg (by omega), if_neg (by omega)]
theorem oIx_m1 {o : Option Nat} {n : Nat} (h : ∀ k, o = some k → k < n) (hn : n < 2 ^ 31) : oIx o = -1 ↔ o = none := by
  cases o with
  | none => exact ⟨fun _ => rfl, fun _ => rfl⟩
  | some k =>
    refine ⟨fun q => ?_, fun q => by cases q⟩
    have h1 := h k rfl
    have h2 : ¬ nI k < 0 := nI_pos (by omega)
    have q : nI k = -1 := q
    rw [q] at h2
    exact absurd (by decide) h2
section B14
variable {l : Launch} {I : MI} {L : ML} {R : MR}
theorem ok_indexOf {s c x sz : Nat} (hR : RS R) (hs : s < 5) (hc : c < 5) (hz : I s (7 + 110 * c) = nI sz) (hz2 : sz ≤ 16) (hd : Dst (I s) c sz) : Ok l yX0_indexOf cX0_indexOf 3 (some .int) 0 0 0 [.ref (pq s c), .int (nI x)] I L R 287 (eqP (some (.int (oIx (fdx (I s) c x sz)))) I L R 287) := by
  refine Ok.ofV [some (.ref (pq s c)), some (.int (nI x)), none] rfl (by decide) (Nat.le_of_ble_eq_true rfl) ?_
  refine v_iconst (v := nI 0) (pc' := 1) dX0_indexOf_0 rfl (by decide) ?_
  refine v_istore_n2 (pc' := 2) dX0_indexOf_1 rfl (by decide) rfl ?_
  have loop : ∀ (n i : Nat), i + n = sz → (∀ j, j < i → I s (8 + 110 * c + j) ≠ nI x) → V l yX0_indexOf cX0_indexOf 3 (some .int) (rmd 0 0 0) (QM 0 0 (eqP (some (.int (oIx (fdx (I s) c x sz)))) I L R 287)) (fun _ _ => True) 2 [some (.ref (pq s c)), some (.int (nI x)), some (.int (nI i))] [] I L R 287 0 0 := by
    intro n
    induction n with
    | zero =>
      intro i hi hn
      refine v_iload_n (pc' := 3) dX0_indexOf_2 rfl rfl ?_
      refine v_aload_n (pc' := 4) dX0_indexOf_3 rfl rfl ?_
      refine v_gI (o := 7 + 110 * c) (pc' := 7) dX0_indexOf_4 rfl gf_X0_15 (kp_C hs hc) rfl (by omega) ?_
      refine v_icmp_ge (pc' := 10) (tgt := 28) dX0_indexOf_7 rfl (by decide) (fun hb => ?_) (fun hb => ?_)
      · refine v_iconst (v := -1) (pc' := 29) dX0_indexOf_28 rfl (by decide) ?_
        exact v_iret dX0_indexOf_29 rfl (Nat.le_refl _) (Nat.le_refl _) ⟨by rw [fdx_no.mpr (by rw [show sz = i by omega]; exact hn)]; rfl, rfl, rfl, rfl, rfl⟩
      · exact absurd (by rw [hz]; exact nI_le (by omega) (by omega)) hb
    | succ n ih =>
      intro i hi hn
      refine v_iload_n (pc' := 3) dX0_indexOf_2 rfl rfl ?_
      refine v_aload_n (pc' := 4) dX0_indexOf_3 rfl rfl ?_
      refine v_gI (o := 7 + 110 * c) (pc' := 7) dX0_indexOf_4 rfl gf_X0_15 (kp_C hs hc) rfl (by omega) ?_
      refine v_icmp_ge (pc' := 10) (tgt := 28) dX0_indexOf_7 rfl (by decide) (fun hb => ?_) (fun hb => ?_)
      · exact absurd (by rw [hz] at hb; exact hb) (nI_ge (by omega) (by omega))
      · refine v_aload_n (pc' := 11) dX0_indexOf_10 rfl rfl ?_
        refine v_getQ (pc' := 14) dX0_indexOf_11 rfl gf_X0_9 (kp_C hs hc) rfl (rf_C_objects hR hs hc) ?_
        refine v_iload_n (pc' := 15) dX0_indexOf_14 rfl rfl ?_
        refine v_ial (pc' := 16) dX0_indexOf_15 rfl (kp_objects hs hc) rfl rfl (by omega) ?_
        refine v_iload_n (pc' := 17) dX0_indexOf_16 rfl rfl ?_
        refine v_icmp_ne (pc' := 20) (tgt := 22) dX0_indexOf_17 rfl (by decide) (fun hq => ?_) (fun hq => ?_)
        · refine v_iinc2 (pc' := 25) dX0_indexOf_22 rfl (by decide) rfl (inc_nI _) ?_
          refine v_goto (tgt := 2) dX0_indexOf_25 (by decide) ?_
          refine ih (i + 1) (by omega) (fun j hj => ?_)
          by_cases hji : j = i
          · rw [hji]; exact hq
          · exact hn j (by omega)
        · refine v_iload_n (pc' := 21) dX0_indexOf_20 rfl rfl ?_
          exact v_iret dX0_indexOf_21 rfl (Nat.le_refl _) (Nat.le_refl _) ⟨by rw [fdx_eq hd (by omega) hq]; rfl, rfl, rfl, rfl, rfl⟩
  exact loop sz 0 (by omega) (fun j hj => absurd hj (Nat.not_lt_zero j))
theorem ok_has {s c x sz : Nat} (hR : RS R) (hs : s < 5) (hc : c < 5) (hz : I s (7 + 110 * c) = nI sz) (hz2 : sz ≤ 16) (hd : Dst (I s) c sz) : Ok l yX0_has cX0_has 2 (some .boolean) 1 0 0 [.ref (pq s c), .int (nI x)] I L R 287 (eqP (some (.int (if fdx (I s) c x sz ≠ none then nI 1 else nI 0))) I L R 287) := by
  have hm := oIx_m1 (o := fdx (I s) c x sz) (n := sz) (fun k hk => (fdx_lt hk).1) (by omega)
  refine Ok.ofV [some (.ref (pq s c)), some (.int (nI x))] rfl (by decide) (Nat.le_of_ble_eq_true rfl) ?_
  refine v_aload_n (pc' := 1) dX0_has_0 rfl rfl ?_
  refine v_iload_n (pc' := 2) dX0_has_1 rfl rfl ?_
  refine v_cV1i (pc' := 5) dX0_has_2 rfl cv_X0_67 (kp_C hs hc) (Nat.le_of_ble_eq_true rfl) rfl (ok_indexOf hR hs hc hz hz2 hd) ?_
  refine v_iconst (v := -1) (pc' := 6) dX0_has_5 rfl (by decide) ?_
  refine v_icmp_eq (pc' := 9) (tgt := 13) dX0_has_6 rfl (by decide) (fun hb => ?_) (fun hb => ?_)
  · refine v_iconst (v := nI 0) (pc' := 14) dX0_has_13 rfl (by decide) ?_
    exact v_zret dX0_has_14 rfl rfl (Nat.le_refl _) (Nat.le_refl _) ⟨by rw [if_neg (fun q => q (hm.mp hb))], rfl, rfl, rfl, rfl⟩
  · refine v_iconst (v := nI 1) (pc' := 10) dX0_has_9 rfl (by decide) ?_
    refine v_goto (tgt := 14) dX0_has_10 (by decide) ?_
    exact v_zret dX0_has_14 rfl rfl (Nat.le_refl _) (Nat.le_refl _) ⟨by rw [if_pos (fun q => hb (hm.mpr q))], rfl, rfl, rfl, rfl⟩
theorem ok_putFirst {s c x idx : Nat} (hR : RS R) (hs : s < 5) (hc : c < 5) (hi : idx < 16) : Ok l yX0_putFirst cX0_putFirst 4 none 0 0 0 [.ref (pq s c), .int (nI x), .int (nI idx)] I L R 287 (eqP (none) (va_up I s (rPutF c idx x (I s))) L R 287) := by
  refine Ok.ofV [some (.ref (pq s c)), some (.int (nI x)), some (.int (nI idx)), none] rfl (by decide) (Nat.le_of_ble_eq_true rfl) ?_
  refine v_iload_n (pc' := 1) dX0_putFirst_0 rfl rfl ?_
  refine v_istore_n3 (pc' := 2) dX0_putFirst_1 rfl (by decide) rfl ?_
  have loop : ∀ (i : Nat) (J : MI), i ≤ idx → J = va_up I s (shR c i idx (I s)) → V l yX0_putFirst cX0_putFirst 4 none (rmd 0 0 0) (QM 0 0 (eqP (none) (va_up I s (rPutF c idx x (I s))) L R 287)) (fun _ _ => True) 2 [some (.ref (pq s c)), some (.int (nI x)), some (.int (nI idx)), some (.int (nI i))] [] J L R 287 0 0 := by
    intro i
    induction i with
    | zero =>
      intro J hi2 hJ
      refine v_iload_n (pc' := 3) dX0_putFirst_2 rfl rfl ?_
      refine v_if_le (pc' := 6) (tgt := 26) dX0_putFirst_3 rfl (by decide) (fun hb => ?_) (fun hb => ?_)
      · refine v_aload_n (pc' := 27) dX0_putFirst_26 rfl rfl ?_
        refine v_getQ (pc' := 30) dX0_putFirst_27 rfl gf_X0_9 (kp_C hs hc) rfl (rf_C_objects hR hs hc) ?_
        refine v_iconst (v := nI 0) (pc' := 31) dX0_putFirst_30 rfl (by decide) ?_
        refine v_iload_n (pc' := 32) dX0_putFirst_31 rfl rfl ?_
        refine v_ias (pc' := 33) dX0_putFirst_32 rfl (kp_objects hs hc) rfl rfl (by omega) ?_
        exact v_vret dX0_putFirst_33 rfl (Nat.le_refl _) (Nat.le_refl _) ⟨rfl, by rw [hJ, stI_up, shR_put], rfl, rfl, rfl⟩
      · exact absurd (by decide) hb
    | succ i ih =>
      intro J hi2 hJ
      have ej : J s (8 + 110 * c + i) = I s (8 + 110 * c + i) := by rw [hJ, va_up_self, shR_out (by omega)]
      refine v_iload_n (pc' := 3) dX0_putFirst_2 rfl rfl ?_
      refine v_if_le (pc' := 6) (tgt := 26) dX0_putFirst_3 rfl (by decide) (fun hb => ?_) (fun hb => ?_)
      · exact absurd hb (nI_nle (by omega) (by omega))
      · refine v_aload_n (pc' := 7) dX0_putFirst_6 rfl rfl ?_
        refine v_getQ (pc' := 10) dX0_putFirst_7 rfl gf_X0_9 (kp_C hs hc) rfl (rf_C_objects hR hs hc) ?_
        refine v_iload_n (pc' := 11) dX0_putFirst_10 rfl rfl ?_
        refine v_aload_n (pc' := 12) dX0_putFirst_11 rfl rfl ?_
        refine v_getQ (pc' := 15) dX0_putFirst_12 rfl gf_X0_9 (kp_C hs hc) rfl (rf_C_objects hR hs hc) ?_
        refine v_iload_n (pc' := 16) dX0_putFirst_15 rfl rfl ?_
        refine v_iconst (v := nI 1) (pc' := 17) dX0_putFirst_16 rfl (by decide) ?_
        refine v_isub (pc' := 18) dX0_putFirst_17 rfl ?_
        refine v_ial (pc' := 19) dX0_putFirst_18 rfl (kp_objects hs hc) rfl (pk_sub (by omega)) (by omega) ?_
        refine v_ias (pc' := 20) dX0_putFirst_19 rfl (kp_objects hs hc) rfl rfl (by omega) ?_
        refine v_iinc3 (pc' := 23) dX0_putFirst_20 rfl (by decide) rfl (dec_nI _) ?_
        refine v_goto (tgt := 2) dX0_putFirst_23 (by decide) ?_
        refine ih _ (by omega) ?_
        rw [show i + 1 - 1 = i by omega, ej, hJ, stI_up, shR_succ hi2]
  exact loop idx I (Nat.le_refl _) (by rw [shR_0, up_id])
theorem gMK_of {r r' : Row} (h0 : r' 0 = r 0) (h1 : r' 1 = r 1) : gM r' = gM r ∧ gK r' = gK r := by
  unfold gM gK
  rw [h0, h1]
  exact ⟨rfl, rfl⟩
theorem rRem_eq {c idx : Nat} {r : Row} : rRem c idx r = fOut (gM r) c (gO r c idx) (gK r) (va_up (rSh c idx (gS r c) r) (7 + 110 * c) (nI (gS r c - 1))) := by
  unfold rRem rOut
  obtain ⟨e0, e1⟩ := gMK_of (r := r) (r' := va_up (rSh c idx (gS r c) r) (7 + 110 * c) (nI (gS r c - 1))) (by rw [va_up_ne _ _ (by omega), rSh_out (by omega)]) (by rw [va_up_ne _ _ (by omega), rSh_out (by omega)])
  rw [e0, e1]
theorem ok_removeAt {s c idx : Nat} (hR : RS R) (hs : s < 5) (hc : c < 5) (hm : IM (I s)) (hi : IS (I s) c) (hx : idx < gS (I s) c) : Ok l yX0_removeAt cX0_removeAt 4 (some .int) 2 0 0 [.ref (pq s c), .int (nI idx)] I L R 287 (eqP (some (.int (nI (gO (I s) c idx)))) (va_up I s (rRem c idx (I s))) L R 287) := by
  obtain ⟨m1, m2, m3, m4, m5, m6⟩ := hm
  obtain ⟨i1, i5, i6, i7⟩ := hi
  obtain ⟨o1, o2⟩ := i6 idx hx
  have hsb : nI (gS (I s) c) - nI 1 = nI (gS (I s) c - 1) := pk_sub (by omega)
  refine Ok.ofV [some (.ref (pq s c)), some (.int (nI idx)), none, none] rfl (by decide) (Nat.le_of_ble_eq_true rfl) ?_
  refine v_iload_n (pc' := 1) dX0_removeAt_0 rfl rfl ?_
  refine v_iconst (v := nI 0) (pc' := 2) dX0_removeAt_1 rfl (by decide) ?_
  refine v_aload_n (pc' := 3) dX0_removeAt_2 rfl rfl ?_
  refine v_gI (o := 7 + 110 * c) (pc' := 6) dX0_removeAt_3 rfl gf_X0_15 (kp_C hs hc) rfl (by omega) ?_
  refine v_iconst (v := nI 1) (pc' := 7) dX0_removeAt_6 rfl (by decide) ?_
  refine v_isub (pc' := 8) dX0_removeAt_7 rfl ?_
  refine v_cN3i (pc' := 11) dX0_removeAt_8 rfl cs_X0_81 (Nat.le_of_ble_eq_true rfl) rfl (ok_isOutside) ?_
  refine v_if_eq (pc' := 14) (tgt := 16) dX0_removeAt_11 rfl (by decide) (fun hb => ?_) (fun hb => ?_)
  · refine v_aload_n (pc' := 17) dX0_removeAt_16 rfl rfl ?_
    refine v_getQ (pc' := 20) dX0_removeAt_17 rfl gf_X0_9 (kp_C hs hc) rfl (rf_C_objects hR hs hc) ?_
    refine v_iload_n (pc' := 21) dX0_removeAt_20 rfl rfl ?_
    refine v_ial (pc' := 22) dX0_removeAt_21 rfl (kp_objects hs hc) rfl rfl (by omega) ?_
    refine v_istore_n2 (pc' := 23) dX0_removeAt_22 rfl (by decide) rfl ?_
    refine v_iload_n (pc' := 24) dX0_removeAt_23 rfl rfl ?_
    refine v_iconst (v := nI 1) (pc' := 25) dX0_removeAt_24 rfl (by decide) ?_
    refine v_iadd (pc' := 26) dX0_removeAt_25 rfl ?_
    refine v_istore_n3 (pc' := 27) dX0_removeAt_26 rfl (by decide) rfl ?_
    rw [o1, nI_add]
    have loop : ∀ (n i : Nat) (J : MI), i + n = gS (I s) c → idx < i → J = va_up I s (rSh c idx i (I s)) → V l yX0_removeAt cX0_removeAt 4 (some .int) (rmd 2 0 0) (QM 0 0 (eqP (some (.int (nI (gO (I s) c idx)))) (va_up I s (rRem c idx (I s))) L R 287)) (fun _ _ => True) 27 [some (.ref (pq s c)), some (.int (nI idx)), some (.int (nI (gO (I s) c idx))), some (.int (nI i))] [] J L R 287 0 0 := by
      intro n
      induction n with
      | zero =>
        intro i J hin hii hJ
        have hiS : i = gS (I s) c := by omega
        have ez : J s (7 + 110 * c) = nI (gS (I s) c) := by rw [hJ, va_up_self, rSh_out (by omega)]; exact i1
        refine v_iload_n (pc' := 28) dX0_removeAt_27 rfl rfl ?_
        refine v_aload_n (pc' := 29) dX0_removeAt_28 rfl rfl ?_
        refine v_gI (o := 7 + 110 * c) (pc' := 32) dX0_removeAt_29 rfl gf_X0_15 (kp_C hs hc) rfl (by omega) ?_
        refine v_icmp_ge (pc' := 35) (tgt := 55) dX0_removeAt_32 rfl (by decide) (fun hb => ?_) (fun hb => ?_)
        · refine v_aload_n (pc' := 56) dX0_removeAt_55 rfl rfl ?_
          refine v_dup (pc' := 57) dX0_removeAt_56 rfl rfl ?_
          refine v_gI (o := 7 + 110 * c) (pc' := 60) dX0_removeAt_57 rfl gf_X0_15 (kp_C hs hc) rfl (by omega) ?_
          refine v_iconst (v := nI 1) (pc' := 61) dX0_removeAt_60 rfl (by decide) ?_
          refine v_isub (pc' := 62) dX0_removeAt_61 rfl ?_
          refine v_pI (o := 7 + 110 * c) (pc' := 65) dX0_removeAt_62 rfl gf_X0_15 pf_X0_15 (kp_C hs hc) rfl (by omega) (Or.inl rfl) rfl rfl ?_
          refine v_aload_n (pc' := 66) dX0_removeAt_65 rfl rfl ?_
          refine v_getQ (pc' := 69) dX0_removeAt_66 rfl gf_X0_57 (kp_C hs hc) rfl (rf_C_filter hR hs hc) ?_
          refine v_iload_n (pc' := 70) dX0_removeAt_69 rfl rfl ?_
          rw [ez, hsb, hJ, hiS, stI_up]
          generalize hJ2 : va_up I s (va_up (rSh c idx (gS (I s) c) (I s)) (7 + 110 * c) (nI (gS (I s) c - 1))) = J2
          have e2 : J2 s = va_up (rSh c idx (gS (I s) c) (I s)) (7 + 110 * c) (nI (gS (I s) c - 1)) := by rw [← hJ2, va_up_self]
          refine v_cV1v (pc' := 73) dX0_removeAt_70 rfl cv_X0_85 (kp_F hs hc) (Nat.le_of_ble_eq_true rfl) rfl (ok_countOut (M := gM (I s)) (K := gK (I s)) hR hs hc (by rw [e2, va_up_ne _ _ (by omega), rSh_out (by omega)]; exact m1) (by omega) m3 (by rw [e2, va_up_ne _ _ (by omega), rSh_out (by omega)]; exact m4) m6 o2) ?_
          refine v_iload_n (pc' := 74) dX0_removeAt_73 rfl rfl ?_
          exact v_iret dX0_removeAt_74 rfl (Nat.le_refl _) (Nat.le_refl _) ⟨rfl, by rw [e2, rRem_eq, ← hJ2, bx_uu], rfl, rfl, rfl⟩
        · exact absurd (by rw [ez]; exact nI_le (by omega) (by omega)) hb
      | succ n ih =>
        intro i J hin hii hJ
        have ez : J s (7 + 110 * c) = nI (gS (I s) c) := by rw [hJ, va_up_self, rSh_out (by omega)]; exact i1
        have ei : J s (8 + 110 * c + i) = I s (8 + 110 * c + i) := by rw [hJ, va_up_self, rSh_out (by omega)]
        refine v_iload_n (pc' := 28) dX0_removeAt_27 rfl rfl ?_
        refine v_aload_n (pc' := 29) dX0_removeAt_28 rfl rfl ?_
        refine v_gI (o := 7 + 110 * c) (pc' := 32) dX0_removeAt_29 rfl gf_X0_15 (kp_C hs hc) rfl (by omega) ?_
        refine v_icmp_ge (pc' := 35) (tgt := 55) dX0_removeAt_32 rfl (by decide) (fun hb => ?_) (fun hb => ?_)
        · exact absurd (by rw [ez] at hb; exact hb) (nI_ge (by omega) (by omega))
        · refine v_aload_n (pc' := 36) dX0_removeAt_35 rfl rfl ?_
          refine v_getQ (pc' := 39) dX0_removeAt_36 rfl gf_X0_9 (kp_C hs hc) rfl (rf_C_objects hR hs hc) ?_
          refine v_iload_n (pc' := 40) dX0_removeAt_39 rfl rfl ?_
          refine v_iconst (v := nI 1) (pc' := 41) dX0_removeAt_40 rfl (by decide) ?_
          refine v_isub (pc' := 42) dX0_removeAt_41 rfl ?_
          refine v_aload_n (pc' := 43) dX0_removeAt_42 rfl rfl ?_
          refine v_getQ (pc' := 46) dX0_removeAt_43 rfl gf_X0_9 (kp_C hs hc) rfl (rf_C_objects hR hs hc) ?_
          refine v_iload_n (pc' := 47) dX0_removeAt_46 rfl rfl ?_
          refine v_ial (pc' := 48) dX0_removeAt_47 rfl (kp_objects hs hc) rfl rfl (by omega) ?_
          refine v_ias (pc' := 49) dX0_removeAt_48 rfl (kp_objects hs hc) rfl (pk_sub (by omega)) (by omega) ?_
          refine v_iinc3 (pc' := 52) dX0_removeAt_49 rfl (by decide) rfl (inc_nI _) ?_
          refine v_goto (tgt := 27) dX0_removeAt_52 (by decide) ?_
          refine ih (i + 1) _ (by omega) (by omega) ?_
          rw [ei, hJ, stI_up, rSh_succ hii]
    exact loop (gS (I s) c - (idx + 1)) (idx + 1) I (by omega) (by omega) (by rw [rSh_0, up_id])
  · refine absurd (ite01.mpr ?_) hb
    rw [i1, hsb]
    exact fun q => q.elim (nI_nlt (by omega) (by omega)) (nI_nlt (by omega) (by omega))
end B14
