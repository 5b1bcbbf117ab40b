/-! ===== Cache: rows under its methods ===== -/
theorem sub1_nI (a : Int32) : a + Int32.ofInt (-1) = a - nI 1 := by
  rw [Int32.sub_eq_add_neg]
  rfl
theorem nn_at {r : Row} {j k : Nat} (h : r j = nI k) (hk : k < 2 ^ 31) : nn (r j) = k := by rw [h]; exact nn_nI hk
theorem rRem_out {c idx j : Nat} {r : Row} (hm : IM r) (h : j < 7 + 110 * c ∨ 88 + 110 * c ≤ j) (hz : gS r c ≤ 16) : rRem c idx r j = r j := by
  rw [rRem_eq, fOut_ne (by have := hm.2.1; omega) hm.2.2.1 (by omega), va_up_ne _ _ (by omega), rSh_out (by omega)]
theorem rRem_sz {c idx : Nat} {r : Row} (hm : IM r) : rRem c idx r (7 + 110 * c) = nI (gS r c - 1) := by
  rw [rRem_eq, fOut_ne (by have := hm.2.1; omega) hm.2.2.1 (by omega), va_up_self]
theorem rRem_ob {c idx i : Nat} {r : Row} (hm : IM r) (hi : i < 16) : rRem c idx r (8 + 110 * c + i) = rSh c idx (gS r c) r (8 + 110 * c + i) := by
  rw [rRem_eq, fOut_ne (by have := hm.2.1; omega) hm.2.2.1 (by omega), va_up_ne _ _ (by omega)]
theorem IM_of {r r' : Row} (h : IM r) (h0 : r' 0 = r 0) (h1 : r' 1 = r 1) : IM r' := by
  obtain ⟨e0, e1⟩ := gMK_of h0 h1
  unfold IM
  rw [e0, e1, h0, h1]
  exact h
theorem rRem_IM {c idx : Nat} {r : Row} (hm : IM r) (hz : gS r c ≤ 16) : IM (rRem c idx r) := IM_of hm (rRem_out hm (by omega) hz) (rRem_out hm (by omega) hz)
theorem rRem_IS {c idx : Nat} {r : Row} (hm : IM r) (hi : IS r c) (hx : idx < gS r c) : IS (rRem c idx r) c ∧ gS (rRem c idx r) c = gS r c - 1 := by
  obtain ⟨i1, i2, i3, i4⟩ := hi
  have e : gS (rRem c idx r) c = gS r c - 1 := nn_at (rRem_sz hm) (by omega)
  have ho : ∀ i, i < gS r c - 1 → rRem c idx r (8 + 110 * c + i) = r (8 + 110 * c + (if idx ≤ i then i + 1 else i)) := by
    intro i hi
    rw [rRem_ob hm (by omega)]
    by_cases h : idx ≤ i
    · rw [if_pos h]
      unfold rSh
      rw [if_pos (by omega)]
      rfl
    · rw [if_neg h, rSh_out (by omega)]
  have hb : ∀ i, i < gS r c - 1 → (if idx ≤ i then i + 1 else i) < gS r c := by
    intro i hi
    split <;> omega
  refine ⟨⟨by rw [e]; exact rRem_sz hm, by omega, fun i hi => ?_, fun i j hi hj hij => ?_⟩, e⟩
  · rw [e] at hi
    obtain ⟨q1, q2⟩ := i3 _ (hb i hi)
    have e2 : gO (rRem c idx r) c i = gO r c (if idx ≤ i then i + 1 else i) := by unfold gO; rw [ho i hi]
    rw [e2, ho i hi]
    exact ⟨q1, q2⟩
  · rw [e] at hi hj
    rw [ho i hi, ho j hj] at hij
    have := i4 _ _ (hb i hi) (hb j hj) hij
    by_cases h1 : idx ≤ i <;> by_cases h2 : idx ≤ j
    · rw [if_pos h1, if_pos h2] at this; omega
    · rw [if_pos h1, if_neg h2] at this; omega
    · rw [if_neg h1, if_pos h2] at this; omega
    · rw [if_neg h1, if_neg h2] at this; omega
/-- so many of the last objects are dropped -/
def rLm (c : Nat) : Nat → Row → Row
  | 0, r => r
  | k + 1, r => rLm c k (rRem c (gS r c - 1) r)
def rLim (c cap : Nat) (r : Row) : Row := rLm c (gS r c - cap) (va_up r (6 + 110 * c) (nI cap))
section B15
variable {l : Launch} {I : MI} {L : ML} {R : MR}
theorem ok_take {s c x : Nat} (hR : RS R) (hs : s < 5) (hc : c < 5) (hx : x < 1000) (hm : IM (I s)) (hi : IC (I s) c) : Ok l yX0_take cX0_take 4 (some .int) 3 0 0 [.ref (pq s c), .int (nI x)] I L R 287 (eqP (some (.int (aTake c x (I s)))) (va_up I s (rTake c x (I s))) L R 287) := by
  obtain ⟨his, i2, i3, i4, i5⟩ := id hi
  obtain ⟨i1, i6, i7, i8⟩ := id his
  have hm1 := oIx_m1 (o := fdx (I s) c x (gS (I s) c)) (n := gS (I s) c) (fun k hk => (fdx_lt hk).1) (by omega)
  refine Ok.ofV [some (.ref (pq s c)), some (.int (nI x)), none, none] rfl (by decide) (Nat.le_of_ble_eq_true rfl) ?_
  refine v_aload_n (pc' := 1) dX0_take_0 rfl rfl ?_
  refine v_iload_n (pc' := 2) dX0_take_1 rfl rfl ?_
  refine v_cV1i (pc' := 5) dX0_take_2 rfl cv_X0_67 (kp_C hs hc) (Nat.le_of_ble_eq_true rfl) rfl (ok_indexOf hR hs hc i1 i6 i8) ?_
  refine v_istore_n2 (pc' := 6) dX0_take_5 rfl (by decide) rfl ?_
  refine v_iload_n (pc' := 7) dX0_take_6 rfl rfl ?_
  refine v_iconst (v := -1) (pc' := 8) dX0_take_7 rfl (by decide) ?_
  refine v_icmp_eq (pc' := 11) (tgt := 19) dX0_take_8 rfl (by decide) (fun hb => ?_) (fun hb => ?_)
  · have hn : rFind c x (I s) = none := hm1.mp hb
    have tail : ∀ (d : Int32) (J : MI), J = va_up I s (rDrop c (I s)) → d = aTake c x (I s) → IM (rDrop c (I s)) → rDrop c (I s) (7 + 110 * c) = nI (gS (rDrop c (I s)) c) → gS (rDrop c (I s)) c < 16 → ∀ w : Option Value, V l yX0_take cX0_take 4 (some .int) (rmd 3 0 0) (QM 0 0 (eqP (some (.int (aTake c x (I s)))) (va_up I s (rTake c x (I s))) L R 287)) (fun _ _ => True) 44 [some (.ref (pq s c)), some (.int (nI x)), some (.int (oIx (fdx (I s) c x (gS (I s) c)))), w] [.int d] J L R 287 0 0 := by
      intro d J hJ hd hmd hsd hs16 w
      have ej : J s = rDrop c (I s) := by rw [hJ, va_up_self]
      have ez : J s (7 + 110 * c) = nI (gS (rDrop c (I s)) c) := by rw [ej]; exact hsd
      refine v_istore_n3 (pc' := 45) dX0_take_44 rfl (by decide) rfl ?_
      refine v_aload_n (pc' := 46) dX0_take_45 rfl rfl ?_
      refine v_gI (o := 7 + 110 * c) (pc' := 49) dX0_take_46 rfl gf_X0_15 (kp_C hs hc) rfl (by omega) ?_
      refine v_bipush (v := nI 16) (pc' := 51) dX0_take_49 rfl (by decide) ?_
      refine v_icmp_ge (pc' := 54) (tgt := 81) dX0_take_51 rfl (by decide) (fun hq => ?_) (fun hq => ?_)
      · rw [ez] at hq
        exact absurd hq (nI_ge hs16 (by decide))
      · refine v_aload_n (pc' := 55) dX0_take_54 rfl rfl ?_
        refine v_iload_n (pc' := 56) dX0_take_55 rfl rfl ?_
        refine v_aload_n (pc' := 57) dX0_take_56 rfl rfl ?_
        refine v_gI (o := 7 + 110 * c) (pc' := 60) dX0_take_57 rfl gf_X0_15 (kp_C hs hc) rfl (by omega) ?_
        rw [ez]
        refine v_cV2v (pc' := 63) dX0_take_60 rfl cv_X0_70 (kp_C hs hc) (Nat.le_of_ble_eq_true rfl) rfl (ok_putFirst hR hs hc hs16) ?_
        refine v_aload_n (pc' := 64) dX0_take_63 rfl rfl ?_
        refine v_dup (pc' := 65) dX0_take_64 rfl rfl ?_
        refine v_gI (o := 7 + 110 * c) (pc' := 68) dX0_take_65 rfl gf_X0_15 (kp_C hs hc) rfl (by omega) ?_
        refine v_iconst (v := nI 1) (pc' := 69) dX0_take_68 rfl (by decide) ?_
        refine v_iadd (pc' := 70) dX0_take_69 rfl ?_
        rw [va_up_self, rPutF_out (by omega), ez, nI_add]
        refine v_pI (o := 7 + 110 * c) (pc' := 73) dX0_take_70 rfl gf_X0_15 pf_X0_15 (kp_C hs hc) rfl (by omega) (Or.inl rfl) rfl rfl ?_
        refine v_aload_n (pc' := 74) dX0_take_73 rfl rfl ?_
        refine v_getQ (pc' := 77) dX0_take_74 rfl gf_X0_57 (kp_C hs hc) rfl (rf_C_filter hR hs hc) ?_
        refine v_iload_n (pc' := 78) dX0_take_77 rfl rfl ?_
        rw [stI_up, ej]
        generalize hJ2 : va_up J s (va_up (rPutF c (gS (rDrop c (I s)) c) x (rDrop c (I s))) (7 + 110 * c) (nI (gS (rDrop c (I s)) c + 1))) = J2
        have e2 : J2 s = va_up (rPutF c (gS (rDrop c (I s)) c) x (rDrop c (I s))) (7 + 110 * c) (nI (gS (rDrop c (I s)) c + 1)) := by rw [← hJ2, va_up_self]
        have z0 : J2 s 0 = rDrop c (I s) 0 := by rw [e2, va_up_ne _ _ (by omega), rPutF_out (by omega)]
        have z1 : J2 s 1 = rDrop c (I s) 1 := by rw [e2, va_up_ne _ _ (by omega), rPutF_out (by omega)]
        have hmJ : IM (J2 s) := IM_of hmd z0 z1
        refine v_cV1v (pc' := 81) dX0_take_78 rfl cv_X0_77 (kp_F hs hc) (Nat.le_of_ble_eq_true rfl) rfl (ok_countIn (M := gM (J2 s)) (K := gK (J2 s)) hR hs hc hmJ.1 (by have := hmJ.2.1; omega) hmJ.2.2.1 hmJ.2.2.2.1 hmJ.2.2.2.2.2 hx) ?_
        refine v_iload_n (pc' := 82) dX0_take_81 rfl rfl ?_
        exact v_iret dX0_take_82 rfl (Nat.le_refl _) (Nat.le_refl _) ⟨by rw [hd], by
              have et : rTake c x (I s) = rTk c x (rDrop c (I s)) := by unfold rTake; rw [hn]
              rw [et]
              unfold rTk rIn
              rw [← e2, ← hJ2, bx_uu, hJ, bx_uu], rfl, rfl, rfl⟩
    refine v_aload_n (pc' := 20) dX0_take_19 rfl rfl ?_
    refine v_gI (o := 7 + 110 * c) (pc' := 23) dX0_take_20 rfl gf_X0_15 (kp_C hs hc) rfl (by omega) ?_
    refine v_aload_n (pc' := 24) dX0_take_23 rfl rfl ?_
    refine v_gI (o := 6 + 110 * c) (pc' := 27) dX0_take_24 rfl gf_X0_19 (kp_C hs hc) rfl (Nat.add_zero _) ?_
    refine v_icmp_ge (pc' := 30) (tgt := 34) dX0_take_27 rfl (by decide) (fun hq => ?_) (fun hq => ?_)
    · have hq : ¬ gS (I s) c < gC (I s) c := by
        rw [i1, i2] at hq
        exact fun z => absurd hq (nI_ge z (by omega))
      have hz1 : gS (I s) c - 1 < gS (I s) c := by omega
      have er : rDrop c (I s) = rRem c (gS (I s) c - 1) (I s) := if_neg hq
      obtain ⟨q1, q2⟩ := rRem_IS hm his hz1
      refine v_aload_n (pc' := 35) dX0_take_34 rfl rfl ?_
      refine v_aload_n (pc' := 36) dX0_take_35 rfl rfl ?_
      refine v_gI (o := 7 + 110 * c) (pc' := 39) dX0_take_36 rfl gf_X0_15 (kp_C hs hc) rfl (by omega) ?_
      refine v_iconst (v := nI 1) (pc' := 40) dX0_take_39 rfl (by decide) ?_
      refine v_isub (pc' := 41) dX0_take_40 rfl ?_
      rw [i1, pk_sub (by omega)]
      refine v_cV1i (pc' := 44) dX0_take_41 rfl cv_X0_74 (kp_C hs hc) (Nat.le_of_ble_eq_true rfl) rfl (ok_removeAt hR hs hc hm his hz1) ?_
      refine tail _ _ (by rw [er]) ?_ (by rw [er]; exact rRem_IM hm i6) (by rw [er]; exact q1.1) (by rw [er, q2]; omega) _
      unfold aTake
      rw [hn]
      show _ = if gS (I s) c < gC (I s) c then _ else _
      rw [if_neg hq]
    · have hq : gS (I s) c < gC (I s) c := by
        rw [i1, i2] at hq
        exact (nI_ltI (by omega) (by omega)).mp (Int32.not_le.mp hq)
      have er : rDrop c (I s) = I s := if_pos hq
      refine v_iconst (v := -1) (pc' := 31) dX0_take_30 rfl (by decide) ?_
      refine v_goto (tgt := 44) dX0_take_31 (by decide) ?_
      refine tail _ _ (by rw [er, up_id]) ?_ (by rw [er]; exact hm) (by rw [er]; exact i1) (by rw [er]; omega) _
      unfold aTake
      rw [hn]
      show _ = if gS (I s) c < gC (I s) c then _ else _
      rw [if_pos hq]
  · cases ho : fdx (I s) c x (gS (I s) c) with
    | none => exact absurd (hm1.mpr ho) hb
    | some k =>
      have hk := (fdx_lt ho).1
      show V l yX0_take cX0_take 4 (some .int) (rmd 3 0 0) (QM 0 0 (eqP (some (.int (aTake c x (I s)))) (va_up I s (rTake c x (I s))) L R 287)) (fun _ _ => True) 11 [some (.ref (pq s c)), some (.int (nI x)), some (.int (nI k)), none] [] I L R 287 0 0
      have hn : rFind c x (I s) = some k := ho
      refine v_aload_n (pc' := 12) dX0_take_11 rfl rfl ?_
      refine v_iload_n (pc' := 13) dX0_take_12 rfl rfl ?_
      refine v_iload_n (pc' := 14) dX0_take_13 rfl rfl ?_
      refine v_cV2v (pc' := 17) dX0_take_14 rfl cv_X0_70 (kp_C hs hc) (Nat.le_of_ble_eq_true rfl) rfl (ok_putFirst hR hs hc (by omega)) ?_
      refine v_iconst (v := -1) (pc' := 18) dX0_take_17 rfl (by decide) ?_
      exact v_iret dX0_take_18 rfl (Nat.le_refl _) (Nat.le_refl _) ⟨by unfold aTake; rw [hn], by unfold rTake; rw [hn], rfl, rfl, rfl⟩
theorem ok_limitTo {s c cap : Nat} (hR : RS R) (hs : s < 5) (hc : c < 5) (hm : IM (I s)) (hi : IS (I s) c) (hcap : cap ≤ 16) : Ok l yX0_limitTo cX0_limitTo 3 none 3 0 0 [.ref (pq s c), .int (nI cap)] I L R 287 (eqP (none) (va_up I s (rLim c cap (I s))) L R 287) := by
  obtain ⟨i1, i6, i7, i8⟩ := id hi
  refine Ok.ofV [some (.ref (pq s c)), some (.int (nI cap)), none] rfl (by decide) (Nat.le_of_ble_eq_true rfl) ?_
  refine v_aload_n (pc' := 1) dX0_limitTo_0 rfl rfl ?_
  refine v_iload_n (pc' := 2) dX0_limitTo_1 rfl rfl ?_
  refine v_pI (o := 6 + 110 * c) (pc' := 5) dX0_limitTo_2 rfl gf_X0_19 pf_X0_19 (kp_C hs hc) rfl (Nat.add_zero _) (Or.inl rfl) rfl rfl ?_
  refine v_aload_n (pc' := 6) dX0_limitTo_5 rfl rfl ?_
  refine v_gI (o := 7 + 110 * c) (pc' := 9) dX0_limitTo_6 rfl gf_X0_15 (kp_C hs hc) rfl (by omega) ?_
  refine v_iconst (v := nI 1) (pc' := 10) dX0_limitTo_9 rfl (by decide) ?_
  refine v_isub (pc' := 11) dX0_limitTo_10 rfl ?_
  refine v_istore_n2 (pc' := 12) dX0_limitTo_11 rfl (by decide) rfl ?_
  have hz0 : (stI I s (6 + 110 * c) (nI cap)) s = va_up (I s) (6 + 110 * c) (nI cap) := by unfold stI; rw [va_up_self]
  have e1 : ∀ j, j ≠ 6 + 110 * c → va_up (I s) (6 + 110 * c) (nI cap) j = I s j := fun j hj => va_up_ne _ _ hj
  have eS : gS (va_up (I s) (6 + 110 * c) (nI cap)) c = gS (I s) c := by unfold gS; rw [e1 _ (by omega)]
  have hm' : IM (va_up (I s) (6 + 110 * c) (nI cap)) := IM_of hm (e1 _ (by omega)) (e1 _ (by omega))
  have hi' : IS (va_up (I s) (6 + 110 * c) (nI cap)) c := by
    refine ⟨by rw [eS, e1 _ (by omega)]; exact i1, by omega, fun k hk => ?_, fun a b ha hb h => ?_⟩
    · rw [eS] at hk
      have e2 : gO (va_up (I s) (6 + 110 * c) (nI cap)) c k = gO (I s) c k := by unfold gO; rw [e1 _ (by omega)]
      rw [e2, e1 _ (by omega)]
      exact i7 k hk
    · rw [eS] at ha hb
      rw [e1 _ (by omega), e1 _ (by omega)] at h
      exact i8 a b ha hb h
  have loop : ∀ (n z : Nat) (J : MI), gS (J s) c = z → z - cap = n → IM (J s) → IS (J s) c → ∀ w : Int32, w = nI z - nI 1 → va_up J s (rLm c n (J s)) = va_up I s (rLim c cap (I s)) → V l yX0_limitTo cX0_limitTo 3 none (rmd 3 0 0) (QM 0 0 (eqP (none) (va_up I s (rLim c cap (I s))) L R 287)) (fun _ _ => True) 12 [some (.ref (pq s c)), some (.int (nI cap)), some (.int w)] [] J L R 287 0 0 := by
    intro n
    induction n with
    | zero =>
      intro z J hz hn hmJ hiJ w hw hf
      have z16 : z ≤ 16 := by rw [← hz]; exact hiJ.2.1
      refine v_iload_n (pc' := 13) dX0_limitTo_12 rfl rfl ?_
      refine v_iload_n (pc' := 14) dX0_limitTo_13 rfl rfl ?_
      refine v_icmp_lt (pc' := 17) (tgt := 29) dX0_limitTo_14 rfl (by decide) (fun hb => ?_) (fun hb => ?_)
      · exact v_vret dX0_limitTo_29 rfl (Nat.le_refl _) (Nat.le_refl _) ⟨rfl, by rw [← hf]; exact (up_id J s).symm, rfl, rfl, rfl⟩
      · refine absurd ?_ hb
        rw [hw, Int32.lt_iff_toInt_lt, pk_sub_toInt (by omega) (by decide), nI_toInt (by omega)]
        omega
    | succ n ih =>
      intro z J hz hn hmJ hiJ w hw hf
      have z16 : z ≤ 16 := by rw [← hz]; exact hiJ.2.1
      have hw2 : w = nI (z - 1) := by rw [hw, pk_sub (by omega)]
      subst hw2
      refine v_iload_n (pc' := 13) dX0_limitTo_12 rfl rfl ?_
      refine v_iload_n (pc' := 14) dX0_limitTo_13 rfl rfl ?_
      refine v_icmp_lt (pc' := 17) (tgt := 29) dX0_limitTo_14 rfl (by decide) (fun hb => ?_) (fun hb => ?_)
      · exact absurd hb (nI_nlt (by omega) (by omega))
      · have hx : z - 1 < gS (J s) c := by omega
        obtain ⟨q1, q2⟩ := rRem_IS hmJ hiJ hx
        have e2 : (va_up J s (rRem c (z - 1) (J s))) s = rRem c (z - 1) (J s) := va_up_self _ _ _
        refine v_aload_n (pc' := 18) dX0_limitTo_17 rfl rfl ?_
        refine v_iload_n (pc' := 19) dX0_limitTo_18 rfl rfl ?_
        refine v_cV1i (pc' := 22) dX0_limitTo_19 rfl cv_X0_74 (kp_C hs hc) (Nat.le_of_ble_eq_true rfl) rfl (ok_removeAt hR hs hc hmJ hiJ hx) ?_
        refine v_pop (pc' := 23) dX0_limitTo_22 rfl rfl ?_
        refine v_iinc2 (pc' := 26) dX0_limitTo_23 rfl (by decide) rfl (sub1_nI _) ?_
        refine v_goto (tgt := 12) dX0_limitTo_26 (by decide) ?_
        refine ih (z - 1) _ (by rw [e2, q2, hz]) (by omega) (by rw [e2]; exact rRem_IM hmJ hiJ.2.1) (by rw [e2]; exact q1) _ rfl ?_
        rw [e2, bx_uu, ← hf]
        show _ = va_up J s (rLm c n (rRem c (gS (J s) c - 1) (J s)))
        rw [hz]
  refine loop (gS (I s) c - cap) (gS (I s) c) _ (by rw [hz0]; exact eS) rfl (by rw [hz0]; exact hm') (by rw [hz0]; exact hi') _ ?_ ?_
  · rw [hz0, e1 _ (by omega), i1]
  · rw [hz0]
    unfold stI rLim
    rw [bx_uu]
theorem ok_refill {s c : Nat} (hR : RS R) (hs : s < 5) (hc : c < 5) (hm : IM (I s)) (hi : IS (I s) c) : Ok l yX0_refill cX0_refill 2 none 2 0 0 [.ref (pq s c)] I L R 287 (eqP (none) (va_up I s (rNew c (I s))) L R 287) := by
  obtain ⟨i1, i6, i7, i8⟩ := id hi
  obtain ⟨m1, m2, m3, m4, m5, m6⟩ := id hm
  refine Ok.ofV [some (.ref (pq s c)), none] rfl (by decide) (Nat.le_of_ble_eq_true rfl) ?_
  refine v_aload_n (pc' := 1) dX0_refill_0 rfl rfl ?_
  refine v_getQ (pc' := 4) dX0_refill_1 rfl gf_X0_57 (kp_C hs hc) rfl (rf_C_filter hR hs hc) ?_
  refine v_cV0v (pc' := 7) dX0_refill_4 rfl cv_X0_88 (kp_F hs hc) (Nat.le_of_ble_eq_true rfl) rfl (ok_clear hR hs hc) ?_
  refine v_iconst (v := nI 0) (pc' := 8) dX0_refill_7 rfl (by decide) ?_
  refine v_istore_n1 (pc' := 9) dX0_refill_8 rfl (by decide) rfl ?_
  generalize hB : fillF (I s) (24 + 110 * c) 64 0 = B
  have eB : ∀ j, j < 24 + 110 * c → B j = I s j := fun j hj => by rw [← hB]; exact fillF_out (by omega)
  have loop : ∀ (n i : Nat) (J : MI), i + n = gS (I s) c → J = va_up I s (fNew (gM (I s)) (gK (I s)) c i B) → V l yX0_refill cX0_refill 2 none (rmd 2 0 0) (QM 0 0 (eqP (none) (va_up I s (rNew c (I s))) L R 287)) (fun _ _ => True) 9 [some (.ref (pq s c)), some (.int (nI i))] [] J L R 287 0 0 := by
    intro n
    induction n with
    | zero =>
      intro i J hin hJ
      have ej : ∀ j, j < 24 + 110 * c → J s j = I s j := fun j hj => by rw [hJ, va_up_self, fNew_ne (by omega) m3 (by omega), eB j hj]
      refine v_iload_n (pc' := 10) dX0_refill_9 rfl rfl ?_
      refine v_aload_n (pc' := 11) dX0_refill_10 rfl rfl ?_
      refine v_gI (o := 7 + 110 * c) (pc' := 14) dX0_refill_11 rfl gf_X0_15 (kp_C hs hc) rfl (by omega) ?_
      refine v_icmp_ge (pc' := 17) (tgt := 36) dX0_refill_14 rfl (by decide) (fun hb => ?_) (fun hb => ?_)
      · exact v_vret dX0_refill_36 rfl (Nat.le_refl _) (Nat.le_refl _) ⟨rfl, by rw [hJ, show i = gS (I s) c by omega]; unfold rNew; rw [hB], rfl, rfl, rfl⟩
      · exact absurd (by rw [ej _ (by omega), i1]; exact nI_le (by omega) (by omega)) hb
    | succ n ih =>
      intro i J hin hJ
      have ej : ∀ j, j < 24 + 110 * c → J s j = I s j := fun j hj => by rw [hJ, va_up_self, fNew_ne (by omega) m3 (by omega), eB j hj]
      have eg : gO B c i = gO (I s) c i := by unfold gO; rw [eB _ (by omega)]
      refine v_iload_n (pc' := 10) dX0_refill_9 rfl rfl ?_
      refine v_aload_n (pc' := 11) dX0_refill_10 rfl rfl ?_
      refine v_gI (o := 7 + 110 * c) (pc' := 14) dX0_refill_11 rfl gf_X0_15 (kp_C hs hc) rfl (by omega) ?_
      refine v_icmp_ge (pc' := 17) (tgt := 36) dX0_refill_14 rfl (by decide) (fun hb => ?_) (fun hb => ?_)
      · exact absurd (by rw [ej _ (by omega), i1] at hb; exact hb) (nI_ge (by omega) (by omega))
      · refine v_aload_n (pc' := 18) dX0_refill_17 rfl rfl ?_
        refine v_getQ (pc' := 21) dX0_refill_18 rfl gf_X0_57 (kp_C hs hc) rfl (rf_C_filter hR hs hc) ?_
        refine v_aload_n (pc' := 22) dX0_refill_21 rfl rfl ?_
        refine v_getQ (pc' := 25) dX0_refill_22 rfl gf_X0_9 (kp_C hs hc) rfl (rf_C_objects hR hs hc) ?_
        refine v_iload_n (pc' := 26) dX0_refill_25 rfl rfl ?_
        refine v_ial (pc' := 27) dX0_refill_26 rfl (kp_objects hs hc) rfl rfl (by omega) ?_
        rw [ej _ (by omega), (i7 i (by omega)).1]
        refine v_cV1v (pc' := 30) dX0_refill_27 rfl cv_X0_77 (kp_F hs hc) (Nat.le_of_ble_eq_true rfl) rfl (ok_countIn (M := gM (I s)) (K := gK (I s)) hR hs hc (by rw [ej _ (by omega)]; exact m1) (by omega) m3 (by rw [ej _ (by omega)]; exact m4) m6 (i7 i (by omega)).2) ?_
        refine v_iinc1 (pc' := 33) dX0_refill_30 rfl (by decide) rfl (inc_nI _) ?_
        refine v_goto (tgt := 9) dX0_refill_33 (by decide) ?_
        refine ih (i + 1) _ (by omega) ?_
        show _ = va_up I s (fIn (gM (I s)) c (gO B c i) (gK (I s)) (fNew (gM (I s)) (gK (I s)) c i B))
        rw [hJ, bx_uu, va_up_self, eg]
  exact loop (gS (I s) c) 0 _ (by omega) rfl
/-- the bits of the objects under another shape -/
def fBw (r : Row) (c M K : Nat) : Nat → Int64
  | 0 => 0
  | i + 1 => fBw r c M K i ||| fBo M (gO r c i) K
theorem ok_bitsWith {s c p g M K : Nat} (hR : RS R) (hs : s < 5) (hc : c < 5) (hi : IS (I s) c) (kS : KP 287 p (3, g, 0, 0, 0)) (hM : I g 0 = nI M) (hM1 : 0 < M) (hM2 : M ≤ 64) (hK : I g 1 = nI K) (hK2 : K ≤ 4) : Ok l yX0_bitsWith cX0_bitsWith 5 (some .long) 2 0 0 [.ref (pq s c), .ref p] I L R 287 (eqP (some (.long (fBw (I s) c M K (gS (I s) c)))) I L R 287) := by
  obtain ⟨i1, i6, i7, i8⟩ := id hi
  refine Ok.ofV [some (.ref (pq s c)), some (.ref p), none, none, none] rfl (by decide) (Nat.le_of_ble_eq_true rfl) ?_
  refine v_lconst (v := 0) (pc' := 1) dX0_bitsWith_0 rfl (by decide) ?_
  refine v_lstore_n2 (pc' := 2) dX0_bitsWith_1 rfl (by decide) rfl ?_
  refine v_iconst (v := nI 0) (pc' := 3) dX0_bitsWith_2 rfl (by decide) ?_
  refine v_istore4 (pc' := 5) dX0_bitsWith_3 rfl (by decide) rfl ?_
  have loop : ∀ (n i : Nat), i + n = gS (I s) c → V l yX0_bitsWith cX0_bitsWith 5 (some .long) (rmd 2 0 0) (QM 0 0 (eqP (some (.long (fBw (I s) c M K (gS (I s) c)))) I L R 287)) (fun _ _ => True) 5 [some (.ref (pq s c)), some (.ref p), some (.long (fBw (I s) c M K i)), none, some (.int (nI i))] [] I L R 287 0 0 := by
    intro n
    induction n with
    | zero =>
      intro i hin
      refine v_iload (pc' := 7) dX0_bitsWith_5 rfl rfl ?_
      refine v_aload_n (pc' := 8) dX0_bitsWith_7 rfl rfl ?_
      refine v_gI (o := 7 + 110 * c) (pc' := 11) dX0_bitsWith_8 rfl gf_X0_15 (kp_C hs hc) rfl (by omega) ?_
      refine v_icmp_ge (pc' := 14) (tgt := 34) dX0_bitsWith_11 rfl (by decide) (fun hb => ?_) (fun hb => ?_)
      · refine v_lload_n (pc' := 35) dX0_bitsWith_34 rfl rfl ?_
        exact v_lret dX0_bitsWith_35 rfl (Nat.le_refl _) (Nat.le_refl _) ⟨by rw [show i = gS (I s) c by omega], rfl, rfl, rfl, rfl⟩
      · exact absurd (by rw [i1]; exact nI_le (by omega) (by omega)) hb
    | succ n ih =>
      intro i hin
      refine v_iload (pc' := 7) dX0_bitsWith_5 rfl rfl ?_
      refine v_aload_n (pc' := 8) dX0_bitsWith_7 rfl rfl ?_
      refine v_gI (o := 7 + 110 * c) (pc' := 11) dX0_bitsWith_8 rfl gf_X0_15 (kp_C hs hc) rfl (by omega) ?_
      refine v_icmp_ge (pc' := 14) (tgt := 34) dX0_bitsWith_11 rfl (by decide) (fun hb => ?_) (fun hb => ?_)
      · exact absurd (by rw [i1] at hb; exact hb) (nI_ge (by omega) (by omega))
      · refine v_lload_n (pc' := 15) dX0_bitsWith_14 rfl rfl ?_
        refine v_aload_n (pc' := 16) dX0_bitsWith_15 rfl rfl ?_
        refine v_aload_n (pc' := 17) dX0_bitsWith_16 rfl rfl ?_
        refine v_getQ (pc' := 20) dX0_bitsWith_17 rfl gf_X0_9 (kp_C hs hc) rfl (rf_C_objects hR hs hc) ?_
        refine v_iload (pc' := 22) dX0_bitsWith_20 rfl rfl ?_
        refine v_ial (pc' := 23) dX0_bitsWith_22 rfl (kp_objects hs hc) rfl rfl (by omega) ?_
        rw [(i7 i (by omega)).1]
        refine v_cV1l (pc' := 26) dX0_bitsWith_23 rfl cv_X0_91 kS (Nat.le_of_ble_eq_true rfl) rfl (ok_bitsOf kS hM hM1 hM2 hK hK2 (i7 i (by omega)).2) ?_
        refine v_lor (pc' := 27) dX0_bitsWith_26 rfl ?_
        refine v_lstore_n2 (pc' := 28) dX0_bitsWith_27 rfl (by decide) rfl ?_
        refine v_iinc4 (pc' := 31) dX0_bitsWith_28 rfl (by decide) rfl (inc_nI _) ?_
        refine v_goto (tgt := 5) dX0_bitsWith_31 (by decide) ?_
        exact ih (i + 1) (by omega)
  exact loop (gS (I s) c) 0 (by omega)
/-- how many objects are in a mask, but not held -/
def fWr (r : Row) (c M K sz : Nat) (m : Int64) : Nat → Int32
  | 0 => nI 0
  | x + 1 => if fIs M x m K = true ∧ fdx r c x sz = none then fWr r c M K sz m x + nI 1 else fWr r c M K sz m x
theorem ok_wronglyIn {s c : Nat} (hR : RS R) (hs : s < 5) (hc : c < 5) (hm : IM (I s)) (hi : IS (I s) c) : Ok l yX0_wronglyIn cX0_wronglyIn 5 (some .int) 2 0 0 [.ref (pq s c)] I L R 287 (eqP (some (.int (fWr (I s) c (gM (I s)) (gK (I s)) (gS (I s) c) (rBits c (I s)) 1000))) I L R 287) := by
  obtain ⟨i1, i6, i7, i8⟩ := id hi
  obtain ⟨m1, m2, m3, m4, m5, m6⟩ := id hm
  refine Ok.ofV [some (.ref (pq s c)), none, none, none, none] rfl (by decide) (Nat.le_of_ble_eq_true rfl) ?_
  refine v_aload_n (pc' := 1) dX0_wronglyIn_0 rfl rfl ?_
  refine v_getQ (pc' := 4) dX0_wronglyIn_1 rfl gf_X0_57 (kp_C hs hc) rfl (rf_C_filter hR hs hc) ?_
  refine v_cV0l (pc' := 7) dX0_wronglyIn_4 rfl cv_X0_97 (kp_F hs hc) (Nat.le_of_ble_eq_true rfl) rfl (ok_bits hR hs hc m1 m3) ?_
  refine v_lstore_n1 (pc' := 8) dX0_wronglyIn_7 rfl (by decide) rfl ?_
  refine v_iconst (v := nI 0) (pc' := 9) dX0_wronglyIn_8 rfl (by decide) ?_
  refine v_istore_n3 (pc' := 10) dX0_wronglyIn_9 rfl (by decide) rfl ?_
  refine v_iconst (v := nI 0) (pc' := 11) dX0_wronglyIn_10 rfl (by decide) ?_
  refine v_istore4 (pc' := 13) dX0_wronglyIn_11 rfl (by decide) rfl ?_
  have loop : ∀ (n x : Nat), x + n = 1000 → V l yX0_wronglyIn cX0_wronglyIn 5 (some .int) (rmd 2 0 0) (QM 0 0 (eqP (some (.int (fWr (I s) c (gM (I s)) (gK (I s)) (gS (I s) c) (rBits c (I s)) 1000))) I L R 287)) (fun _ _ => True) 13 [some (.ref (pq s c)), some (.long (fBt (I s) c (gM (I s)))), none, some (.int (fWr (I s) c (gM (I s)) (gK (I s)) (gS (I s) c) (rBits c (I s)) x)), some (.int (nI x))] [] I L R 287 0 0 := by
    intro n
    induction n with
    | zero =>
      intro x hx
      refine v_iload (pc' := 15) dX0_wronglyIn_13 rfl rfl ?_
      refine v_sipush (v := nI 1000) (pc' := 18) dX0_wronglyIn_15 rfl (by decide) ?_
      refine v_icmp_ge (pc' := 21) (tgt := 52) dX0_wronglyIn_18 rfl (by decide) (fun hb => ?_) (fun hb => ?_)
      · refine v_iload_n (pc' := 53) dX0_wronglyIn_52 rfl rfl ?_
        exact v_iret dX0_wronglyIn_53 rfl (Nat.le_refl _) (Nat.le_refl _) ⟨by rw [show x = 1000 by omega], rfl, rfl, rfl, rfl⟩
      · exact absurd (nI_le (by omega) (by omega)) hb
    | succ n ih =>
      intro x hx
      have no : ¬ (fIs (gM (I s)) x (rBits c (I s)) (gK (I s)) = true ∧ fdx (I s) c x (gS (I s) c) = none) → fWr (I s) c (gM (I s)) (gK (I s)) (gS (I s) c) (rBits c (I s)) (x + 1) = fWr (I s) c (gM (I s)) (gK (I s)) (gS (I s) c) (rBits c (I s)) x := fun h => if_neg h
      refine v_iload (pc' := 15) dX0_wronglyIn_13 rfl rfl ?_
      refine v_sipush (v := nI 1000) (pc' := 18) dX0_wronglyIn_15 rfl (by decide) ?_
      refine v_icmp_ge (pc' := 21) (tgt := 52) dX0_wronglyIn_18 rfl (by decide) (fun hb => ?_) (fun hb => ?_)
      · exact absurd hb (nI_ge (by omega) (by omega))
      · refine v_aload_n (pc' := 22) dX0_wronglyIn_21 rfl rfl ?_
        refine v_getQ (pc' := 25) dX0_wronglyIn_22 rfl gf_X0_48 (kp_C hs hc) rfl (rf_C_shape hR hs hc) ?_
        refine v_lload_n (pc' := 26) dX0_wronglyIn_25 rfl rfl ?_
        refine v_iload (pc' := 28) dX0_wronglyIn_26 rfl rfl ?_
        refine v_cV2i (pc' := 31) dX0_wronglyIn_28 rfl cv_X0_101 (kp_S hs) (Nat.le_of_ble_eq_true rfl) rfl (ok_isIn (kp_S hs) m1 (by omega) m3 m4 m6 (by omega)) ?_
        refine v_if_eq (pc' := 34) (tgt := 46) dX0_wronglyIn_31 rfl (by decide) (fun hq => ?_) (fun hq => ?_)
        · have hq := ite01.mp hq
          refine v_iinc4 (pc' := 49) dX0_wronglyIn_46 rfl (by decide) rfl (inc_nI _) ?_
          refine v_goto (tgt := 13) dX0_wronglyIn_49 (by decide) ?_
          have := ih (x + 1) (by omega)
          rw [no (fun z => hq z.1)] at this
          exact this
        · have hq := Classical.not_not.mp (fun z => hq (ite01.mpr z))
          refine v_aload_n (pc' := 35) dX0_wronglyIn_34 rfl rfl ?_
          refine v_iload (pc' := 37) dX0_wronglyIn_35 rfl rfl ?_
          refine v_cV1i (pc' := 40) dX0_wronglyIn_37 rfl cv_X0_105 (kp_C hs hc) (Nat.le_of_ble_eq_true rfl) rfl (ok_has hR hs hc i1 i6 i8) ?_
          refine v_if_ne (pc' := 43) (tgt := 46) dX0_wronglyIn_40 rfl (by decide) (fun hp => ?_) (fun hp => ?_)
          · have hp := Classical.not_not.mp (fun z => hp (ite01.mpr z))
            refine v_iinc4 (pc' := 49) dX0_wronglyIn_46 rfl (by decide) rfl (inc_nI _) ?_
            refine v_goto (tgt := 13) dX0_wronglyIn_49 (by decide) ?_
            have := ih (x + 1) (by omega)
            rw [no (fun z => hp z.2)] at this
            exact this
          · have hp := Classical.not_not.mp (ite01.mp hp)
            refine v_iinc3 (pc' := 46) dX0_wronglyIn_43 rfl (by decide) rfl rfl ?_
            refine v_iinc4 (pc' := 49) dX0_wronglyIn_46 rfl (by decide) rfl (inc_nI _) ?_
            refine v_goto (tgt := 13) dX0_wronglyIn_49 (by decide) ?_
            have := ih (x + 1) (by omega)
            have e : fWr (I s) c (gM (I s)) (gK (I s)) (gS (I s) c) (rBits c (I s)) (x + 1) = fWr (I s) c (gM (I s)) (gK (I s)) (gS (I s) c) (rBits c (I s)) x + nI 1 := if_pos ⟨hq, hp⟩
            rw [e] at this
            exact this
  exact loop 1000 0 (by omega)
theorem ok_receive {s c f : Nat} {now : Int32} (hR : RS R) (hs : s < 5) (hc : c < 5) (hf : f < 5) : Ok l yX0_receive cX0_receive 4 none 0 0 0 [.ref (pq s c), .int (nI f), .ref (pq s f), .int now] I L R 287 (eqP (none) (stI (stI I s (106 + 110 * c + f) (I s (88 + 110 * f))) s (111 + 110 * c + f) now) (stL L s (5 + 5 * c + f) (L s f)) R 287) := by
  refine Ok.ofV [some (.ref (pq s c)), some (.int (nI f)), some (.ref (pq s f)), some (.int now)] rfl (by decide) (Nat.le_of_ble_eq_true rfl) ?_
  refine v_aload_n (pc' := 1) dX0_receive_0 rfl rfl ?_
  refine v_getQ (pc' := 4) dX0_receive_1 rfl gf_X0_32 (kp_C hs hc) rfl (rf_C_copyMasks hR hs hc) ?_
  refine v_iload_n (pc' := 5) dX0_receive_4 rfl rfl ?_
  refine v_aload_n (pc' := 6) dX0_receive_5 rfl rfl ?_
  refine v_gL (o := f) (pc' := 9) dX0_receive_6 rfl gf_X0_25 (kp_C hs hf) rfl (Nat.add_zero _) ?_
  refine v_las (pc' := 10) dX0_receive_9 rfl (kp_copyMasks hs hc) rfl rfl (by omega) ?_
  refine v_aload_n (pc' := 11) dX0_receive_10 rfl rfl ?_
  refine v_getQ (pc' := 14) dX0_receive_11 rfl gf_X0_36 (kp_C hs hc) rfl (rf_C_copyVersions hR hs hc) ?_
  refine v_iload_n (pc' := 15) dX0_receive_14 rfl rfl ?_
  refine v_aload_n (pc' := 16) dX0_receive_15 rfl rfl ?_
  refine v_gI (o := 88 + 110 * f) (pc' := 19) dX0_receive_16 rfl gf_X0_22 (kp_C hs hf) rfl (by omega) ?_
  refine v_ias (pc' := 20) dX0_receive_19 rfl (kp_copyVersions hs hc) rfl rfl (by omega) ?_
  refine v_aload_n (pc' := 21) dX0_receive_20 rfl rfl ?_
  refine v_getQ (pc' := 24) dX0_receive_21 rfl gf_X0_39 (kp_C hs hc) rfl (rf_C_copyTimes hR hs hc) ?_
  refine v_iload_n (pc' := 25) dX0_receive_24 rfl rfl ?_
  refine v_iload_n (pc' := 26) dX0_receive_25 rfl rfl ?_
  refine v_ias (pc' := 27) dX0_receive_26 rfl (kp_copyTimes hs hc) rfl rfl (by omega) ?_
  exact v_vret dX0_receive_27 rfl (Nat.le_refl _) (Nat.le_refl _) ⟨rfl, rfl, rfl, rfl, rfl⟩
theorem ok_forgetDigests {s c : Nat} (hR : RS R) (hs : s < 5) (hc : c < 5) : Ok l yX0_forgetDigests cX0_forgetDigests 1 none 1 0 0 [.ref (pq s c)] I L R 287 (eqP (none) (va_up I s (fillF (fillF (va_up (I s) (88 + 110 * c) 0) (106 + 110 * c) 5 0) (111 + 110 * c) 5 0)) (va_up L s (fillF (va_up (L s) c 0) (5 + 5 * c) 5 0)) R 287) := by
  refine Ok.ofV [some (.ref (pq s c))] rfl (by decide) (Nat.le_of_ble_eq_true rfl) ?_
  refine v_aload_n (pc' := 1) dX0_forgetDigests_0 rfl rfl ?_
  refine v_iconst (v := nI 0) (pc' := 2) dX0_forgetDigests_1 rfl (by decide) ?_
  refine v_pI (o := 88 + 110 * c) (pc' := 5) dX0_forgetDigests_2 rfl gf_X0_22 pf_X0_22 (kp_C hs hc) rfl (by omega) (Or.inl rfl) rfl rfl ?_
  refine v_aload_n (pc' := 6) dX0_forgetDigests_5 rfl rfl ?_
  refine v_lconst (v := 0) (pc' := 7) dX0_forgetDigests_6 rfl (by decide) ?_
  refine v_pL (o := c) (pc' := 10) dX0_forgetDigests_7 rfl gf_X0_25 pf_X0_25 (kp_C hs hc) rfl (Nat.add_zero _) (Or.inl rfl) rfl rfl ?_
  refine v_aload_n (pc' := 11) dX0_forgetDigests_10 rfl rfl ?_
  refine v_getQ (pc' := 14) dX0_forgetDigests_11 rfl gf_X0_32 (kp_C hs hc) rfl (rf_C_copyMasks hR hs hc) ?_
  refine v_lconst (v := 0) (pc' := 15) dX0_forgetDigests_14 rfl (by decide) ?_
  refine v_cS2v (pc' := 18) dX0_forgetDigests_15 rfl cs_X0_109 (Nat.le_of_ble_eq_true rfl) rfl (ok_fillL (kp_copyMasks hs hc)) ?_
  refine v_aload_n (pc' := 19) dX0_forgetDigests_18 rfl rfl ?_
  refine v_getQ (pc' := 22) dX0_forgetDigests_19 rfl gf_X0_36 (kp_C hs hc) rfl (rf_C_copyVersions hR hs hc) ?_
  refine v_iconst (v := nI 0) (pc' := 23) dX0_forgetDigests_22 rfl (by decide) ?_
  refine v_cS2v (pc' := 26) dX0_forgetDigests_23 rfl cs_X0_115 (Nat.le_of_ble_eq_true rfl) rfl (ok_fill (kp_copyVersions hs hc)) ?_
  refine v_aload_n (pc' := 27) dX0_forgetDigests_26 rfl rfl ?_
  refine v_getQ (pc' := 30) dX0_forgetDigests_27 rfl gf_X0_39 (kp_C hs hc) rfl (rf_C_copyTimes hR hs hc) ?_
  refine v_iconst (v := nI 0) (pc' := 31) dX0_forgetDigests_30 rfl (by decide) ?_
  refine v_cS2v (pc' := 34) dX0_forgetDigests_31 rfl cs_X0_115 (Nat.le_of_ble_eq_true rfl) rfl (ok_fill (kp_copyTimes hs hc)) ?_
  exact v_vret dX0_forgetDigests_34 rfl (Nat.le_refl _) (Nat.le_refl _) ⟨rfl, by unfold stI; simp only [va_up_self, bx_uu]; rfl, by unfold stL; simp only [va_up_self, bx_uu], rfl, rfl⟩
end B15
