/-! ===== History ===== -/
theorem up_comm {α : Type} (f : Nat → α) {a b : Nat} (h : a ≠ b) (v w : α) : va_up (va_up f a v) b w = va_up (va_up f b w) a v := by
  funext j
  unfold va_up
  by_cases h1 : j = a
  · rw [if_neg (by omega), if_pos h1, if_pos h1]
  · rw [if_neg h1]
    by_cases h2 : j = b
    · rw [if_pos h2, if_neg h1]
    · rw [if_neg h2, if_neg h1]
/-- which state stands where in the history's row -/
def HS (R : MR) (sg : Nat → Nat) : Prop := ∀ i, i < 4 → R 55 i = some (pb (sg i)) ∧ 1 ≤ sg i ∧ sg i ≤ 4
def rotR (R : MR) (sg : Nat → Nat) : MR := stR (stR (stR (stR R 55 0 (some (pb (sg 1)))) 55 1 (some (pb (sg 2)))) 55 2 (some (pb (sg 3)))) 55 3 (some (pb (sg 0)))
def rotS (sg : Nat → Nat) : Nat → Nat := fun i => if i = 3 then sg 0 else sg (i + 1)
theorem rot_HS {R : MR} {sg : Nat → Nat} (h : HS R sg) : HS (rotR R sg) (rotS sg) := by
  intro i hi
  unfold rotR rotS
  rcases (show i = 0 ∨ i = 1 ∨ i = 2 ∨ i = 3 by omega) with rfl | rfl | rfl | rfl
  · exact ⟨by rw [stR_ne (by decide), stR_ne (by decide), stR_ne (by decide), stR_self]; rfl, (h 1 (by decide)).2⟩
  · exact ⟨by rw [stR_ne (by decide), stR_ne (by decide), stR_self]; rfl, (h 2 (by decide)).2⟩
  · exact ⟨by rw [stR_ne (by decide), stR_self]; rfl, (h 3 (by decide)).2⟩
  · exact ⟨by rw [stR_self]; rfl, (h 0 (by decide)).2⟩
theorem rot_RS {R : MR} {sg : Nat → Nat} (h : RS R) : RS (rotR R sg) := RS_up (RS_up (RS_up (RS_up h)))
/-- the present state is copied to state t, and so many are kept -/
def kpI (I : MI) (t : Nat) (v : Int32) : MI := stI (va_up I t (ovr (I 0) (I t) 0 556)) 15 0 v
def kpL (L : ML) (t : Nat) : ML := va_up L t (ovr (L 0) (L t) 0 30)
theorem pb_lt : ∀ s, s < 5 → pb s < 1000 := by decide
section B19
variable {l : Launch} {I : MI} {L : ML} {R : MR}
theorem ok_dropOldest {sg : Nat → Nat} (hR : RS R) (hH : HS R sg) : Ok l yX2_dropOldest cX2_dropOldest 3 none 0 0 0 [.ref 54] I L R 287 (eqP (none) (stI I 15 0 (nI 3)) L (rotR R sg) 287) := by
  have h0 := hH 0 (by decide)
  have h1 := hH 1 (by decide)
  have h2 := hH 2 (by decide)
  have h3 := hH 3 (by decide)
  have s0 : sg 0 < 5 := by omega
  have s1 : sg 1 < 5 := by omega
  have s2 : sg 2 < 5 := by omega
  have s3 : sg 3 < 5 := by omega
  refine Ok.ofV [some (.ref 54), none, none] rfl (by decide) (Nat.le_of_ble_eq_true rfl) ?_
  refine v_aload_n (pc' := 1) dX2_dropOldest_0 rfl rfl ?_
  refine v_getQ (pc' := 4) dX2_dropOldest_1 rfl gf_X2_11 kp_H rfl (rf_H_states hR) ?_
  refine v_iconst (v := nI 0) (pc' := 5) dX2_dropOldest_4 rfl (by decide) ?_
  refine v_aaloadSQ (pc' := 6) dX2_dropOldest_5 rfl kp_HA rfl (by decide) ⟨h0.1, pb_lt _ s0⟩ ?_
  refine v_astore_n1 (pc' := 7) dX2_dropOldest_6 rfl (by decide) rfl ?_
  refine v_iconst (v := nI 1) (pc' := 8) dX2_dropOldest_7 rfl (by decide) ?_
  refine v_istore_n2 (pc' := 9) dX2_dropOldest_8 rfl (by decide) rfl ?_
  refine v_iload_n (pc' := 10) dX2_dropOldest_9 rfl rfl ?_
  refine v_iconst (v := nI 4) (pc' := 11) dX2_dropOldest_10 rfl (by decide) ?_
  refine v_icmp_ge (pc' := 14) (tgt := 34) dX2_dropOldest_11 rfl (by decide) (fun hb => ?_) (fun hb => ?_)
  · exact absurd hb (by decide)
  · refine v_aload_n (pc' := 15) dX2_dropOldest_14 rfl rfl ?_
    refine v_getQ (pc' := 18) dX2_dropOldest_15 rfl gf_X2_11 kp_H rfl (rf_H_states hR) ?_
    refine v_iload_n (pc' := 19) dX2_dropOldest_18 rfl rfl ?_
    refine v_iconst (v := nI 1) (pc' := 20) dX2_dropOldest_19 rfl (by decide) ?_
    refine v_isub (pc' := 21) dX2_dropOldest_20 rfl ?_
    refine v_aload_n (pc' := 22) dX2_dropOldest_21 rfl rfl ?_
    refine v_getQ (pc' := 25) dX2_dropOldest_22 rfl gf_X2_11 kp_H rfl (rf_H_states hR) ?_
    refine v_iload_n (pc' := 26) dX2_dropOldest_25 rfl rfl ?_
    refine v_aaloadSQ (pc' := 27) dX2_dropOldest_26 rfl kp_HA rfl (by decide) ⟨h1.1, pb_lt _ s1⟩ ?_
    refine v_aastoreS (pc' := 28) dX2_dropOldest_27 rfl kp_HA (kp_T s1) (k := 0) rfl (by decide) ?_
    refine v_iinc2 (pc' := 31) dX2_dropOldest_28 rfl (by decide) rfl (inc_nI _) ?_
    refine v_goto (tgt := 9) dX2_dropOldest_31 (by decide) ?_
    have hR1 : RS (stR R 55 0 (some (pb (sg 1)))) := RS_up hR
    generalize hq1 : stR R 55 0 (some (pb (sg 1))) = R1 at hR1 ⊢
    refine v_iload_n (pc' := 10) dX2_dropOldest_9 rfl rfl ?_
    refine v_iconst (v := nI 4) (pc' := 11) dX2_dropOldest_10 rfl (by decide) ?_
    refine v_icmp_ge (pc' := 14) (tgt := 34) dX2_dropOldest_11 rfl (by decide) (fun hb => ?_) (fun hb => ?_)
    · exact absurd hb (by decide)
    · have hR := hR1
      refine v_aload_n (pc' := 15) dX2_dropOldest_14 rfl rfl ?_
      refine v_getQ (pc' := 18) dX2_dropOldest_15 rfl gf_X2_11 kp_H rfl (rf_H_states hR) ?_
      refine v_iload_n (pc' := 19) dX2_dropOldest_18 rfl rfl ?_
      refine v_iconst (v := nI 1) (pc' := 20) dX2_dropOldest_19 rfl (by decide) ?_
      refine v_isub (pc' := 21) dX2_dropOldest_20 rfl ?_
      refine v_aload_n (pc' := 22) dX2_dropOldest_21 rfl rfl ?_
      refine v_getQ (pc' := 25) dX2_dropOldest_22 rfl gf_X2_11 kp_H rfl (rf_H_states hR) ?_
      refine v_iload_n (pc' := 26) dX2_dropOldest_25 rfl rfl ?_
      refine v_aaloadSQ (pc' := 27) dX2_dropOldest_26 rfl kp_HA rfl (by decide) ⟨by rw [← hq1, stR_ne (by decide)]; exact h2.1, pb_lt _ s2⟩ ?_
      refine v_aastoreS (pc' := 28) dX2_dropOldest_27 rfl kp_HA (kp_T s2) (k := 1) rfl (by decide) ?_
      refine v_iinc2 (pc' := 31) dX2_dropOldest_28 rfl (by decide) rfl (inc_nI _) ?_
      refine v_goto (tgt := 9) dX2_dropOldest_31 (by decide) ?_
      have hR2 : RS (stR R1 55 1 (some (pb (sg 2)))) := RS_up hR
      generalize hq2 : stR R1 55 1 (some (pb (sg 2))) = R2 at hR2 ⊢
      refine v_iload_n (pc' := 10) dX2_dropOldest_9 rfl rfl ?_
      refine v_iconst (v := nI 4) (pc' := 11) dX2_dropOldest_10 rfl (by decide) ?_
      refine v_icmp_ge (pc' := 14) (tgt := 34) dX2_dropOldest_11 rfl (by decide) (fun hb => ?_) (fun hb => ?_)
      · exact absurd hb (by decide)
      · have hR := hR2
        refine v_aload_n (pc' := 15) dX2_dropOldest_14 rfl rfl ?_
        refine v_getQ (pc' := 18) dX2_dropOldest_15 rfl gf_X2_11 kp_H rfl (rf_H_states hR) ?_
        refine v_iload_n (pc' := 19) dX2_dropOldest_18 rfl rfl ?_
        refine v_iconst (v := nI 1) (pc' := 20) dX2_dropOldest_19 rfl (by decide) ?_
        refine v_isub (pc' := 21) dX2_dropOldest_20 rfl ?_
        refine v_aload_n (pc' := 22) dX2_dropOldest_21 rfl rfl ?_
        refine v_getQ (pc' := 25) dX2_dropOldest_22 rfl gf_X2_11 kp_H rfl (rf_H_states hR) ?_
        refine v_iload_n (pc' := 26) dX2_dropOldest_25 rfl rfl ?_
        refine v_aaloadSQ (pc' := 27) dX2_dropOldest_26 rfl kp_HA rfl (by decide) ⟨by rw [← hq2, stR_ne (by decide), ← hq1, stR_ne (by decide)]; exact h3.1, pb_lt _ s3⟩ ?_
        refine v_aastoreS (pc' := 28) dX2_dropOldest_27 rfl kp_HA (kp_T s3) (k := 2) rfl (by decide) ?_
        refine v_iinc2 (pc' := 31) dX2_dropOldest_28 rfl (by decide) rfl (inc_nI _) ?_
        refine v_goto (tgt := 9) dX2_dropOldest_31 (by decide) ?_
        have hR3 : RS (stR R2 55 2 (some (pb (sg 3)))) := RS_up hR
        generalize hq3 : stR R2 55 2 (some (pb (sg 3))) = R3 at hR3 ⊢
        refine v_iload_n (pc' := 10) dX2_dropOldest_9 rfl rfl ?_
        refine v_iconst (v := nI 4) (pc' := 11) dX2_dropOldest_10 rfl (by decide) ?_
        refine v_icmp_ge (pc' := 14) (tgt := 34) dX2_dropOldest_11 rfl (by decide) (fun hb => ?_) (fun hb => ?_)
        · have hR := hR3
          refine v_aload_n (pc' := 35) dX2_dropOldest_34 rfl rfl ?_
          refine v_getQ (pc' := 38) dX2_dropOldest_35 rfl gf_X2_11 kp_H rfl (rf_H_states hR) ?_
          refine v_iconst (v := nI 3) (pc' := 39) dX2_dropOldest_38 rfl (by decide) ?_
          refine v_aload_n (pc' := 40) dX2_dropOldest_39 rfl rfl ?_
          refine v_aastoreS (pc' := 41) dX2_dropOldest_40 rfl kp_HA (kp_T s0) (k := 3) rfl (by decide) ?_
          refine v_aload_n (pc' := 42) dX2_dropOldest_41 rfl rfl ?_
          refine v_iconst (v := nI 3) (pc' := 43) dX2_dropOldest_42 rfl (by decide) ?_
          refine v_pI (o := 0) (pc' := 46) dX2_dropOldest_43 rfl gf_X2_15 pf_X2_15 kp_H rfl rfl (Or.inl rfl) rfl rfl ?_
          exact v_vret dX2_dropOldest_46 rfl (Nat.le_refl _) (Nat.le_refl _) ⟨rfl, rfl, rfl, by unfold rotR; rw [hq1, hq2, hq3], rfl⟩
        · exact absurd (by decide) hb
theorem ok_keep {sg : Nat → Nat} {k t : Nat} {TI : MI} {TL : ML} {TR : MR} (hR : RS R) (hH : HS R sg) (hk : I 15 0 = nI k) (hk4 : k ≤ 4) (hb4 : narrow .boolean (.int (I 0 4)) = .int (I 0 4))
    (ht : t = if k < 4 then sg k else sg 0) (hTI : kpI I t (nI (if k < 4 then k + 1 else 4)) = TI) (hTL : kpL L t = TL) (hTR : (if k < 4 then R else rotR R sg) = TR) : Ok l yX2_keep cX2_keep 2 none 5 0 0 [.ref 54, .ref (pb 0)] I L R 287 (eqP (none) TI TL TR 287) := by
  have h05 : (0 : Nat) < 5 := by decide
  refine Ok.ofV [some (.ref 54), some (.ref (pb 0))] rfl (by decide) (Nat.le_of_ble_eq_true rfl) ?_
  have tail : ∀ (J : MI) (Q : MR) (sq : Nat → Nat) (k' : Nat), RS Q → HS Q sq → J 15 0 = nI k' → k' < 4 → J 0 = I 0 → (∀ u, u ≠ 15 → J u = I u) → (∀ v, va_up (J 15) 0 v = va_up (I 15) 0 v) → sq k' = t → k' + 1 = (if k < 4 then k + 1 else 4) → Q = TR → V l yX2_keep cX2_keep 2 none (rmd 5 0 0) (QM 0 0 (eqP (none) TI TL TR 287)) (fun _ _ => True) 12 [some (.ref 54), some (.ref (pb 0))] [] J L Q 287 0 0 := by
    intro J Q sq k' hR hHq hk' hk3 hj0 hju hj15 hsq hkk hQ
    obtain ⟨z1, z2, z3⟩ := hHq k' hk3
    have st : sq k' < 5 := by omega
    have hne : (0 : Nat) ≠ sq k' := by omega
    have h15 : (15 : Nat) ≠ t := by omega
    refine v_aload_n (pc' := 13) dX2_keep_12 rfl rfl ?_
    refine v_getQ (pc' := 16) dX2_keep_13 rfl gf_X2_11 kp_H rfl (rf_H_states hR) ?_
    refine v_aload_n (pc' := 17) dX2_keep_16 rfl rfl ?_
    refine v_gI (o := 0) (pc' := 20) dX2_keep_17 rfl gf_X2_15 kp_H rfl rfl ?_
    rw [hk']
    refine v_aaloadSQ (pc' := 21) dX2_keep_20 rfl kp_HA rfl hk3 ⟨z1, pb_lt _ st⟩ ?_
    refine v_aload_n (pc' := 22) dX2_keep_21 rfl rfl ?_
    refine v_cV1v (pc' := 25) dX2_keep_22 rfl cv_X2_28 (kp_T st) (Nat.le_of_ble_eq_true rfl) rfl (ok_copyFromT hR st h05 hne (by rw [hj0]; exact hb4)) ?_
    refine v_aload_n (pc' := 26) dX2_keep_25 rfl rfl ?_
    refine v_dup (pc' := 27) dX2_keep_26 rfl rfl ?_
    refine v_gI (o := 0) (pc' := 30) dX2_keep_27 rfl gf_X2_15 kp_H rfl rfl ?_
    rw [va_up_ne _ _ (by omega : (15 : Nat) ≠ sq k'), hk']
    refine v_iconst (v := nI 1) (pc' := 31) dX2_keep_30 rfl (by decide) ?_
    refine v_iadd (pc' := 32) dX2_keep_31 rfl ?_
    rw [nI_add]
    refine v_pI (o := 0) (pc' := 35) dX2_keep_32 rfl gf_X2_15 pf_X2_15 kp_H rfl rfl (Or.inl rfl) rfl rfl ?_
    exact v_vret dX2_keep_35 rfl (Nat.le_refl _) (Nat.le_refl _) ⟨rfl, by
          rw [← hTI, hsq, hkk]
          unfold kpI stI
          rw [va_up_ne _ _ h15, va_up_ne _ _ h15, hj0, hju t (by omega)]
          rw [hj15]
          funext u
          by_cases hu : u = 15
          · rw [hu, va_up_self, va_up_self]
          · rw [va_up_ne _ _ hu, va_up_ne _ _ hu]
            by_cases hut : u = t
            · rw [hut, va_up_self, va_up_self]
            · rw [va_up_ne _ _ hut, va_up_ne _ _ hut, hju u hu], by rw [← hTL, hsq]; rfl, hQ, rfl⟩
  refine v_aload_n (pc' := 1) dX2_keep_0 rfl rfl ?_
  refine v_gI (o := 0) (pc' := 4) dX2_keep_1 rfl gf_X2_15 kp_H rfl rfl ?_
  refine v_iconst (v := nI 4) (pc' := 5) dX2_keep_4 rfl (by decide) ?_
  refine v_icmp_lt (pc' := 8) (tgt := 12) dX2_keep_5 rfl (by decide) (fun hb => ?_) (fun hb => ?_)
  · rw [hk] at hb
    have hb : k < 4 := (nI_ltI (by omega) (by omega)).mp hb
    exact tail I R sg k hR hH hk hb rfl (fun _ _ => rfl) (fun _ => rfl) (by rw [ht, if_pos hb]) (by rw [if_pos hb]) (by rw [← hTR, if_pos hb])
  · rw [hk] at hb
    have hb : ¬ k < 4 := fun z => hb ((nI_ltI (by omega) (by omega)).mpr z)
    refine v_aload_n (pc' := 9) dX2_keep_8 rfl rfl ?_
    refine v_cV0v (pc' := 12) dX2_keep_9 rfl cv_X2_25 kp_H (Nat.le_of_ble_eq_true rfl) rfl (ok_dropOldest hR hH) ?_
    exact tail _ _ (rotS sg) 3 (rot_RS hR) (rot_HS hH) (stI_self _ _ _ _) (by decide) (funext fun u => stI_ne (by omega)) (fun u hu => funext fun v => stI_ne (fun q => hu q.1)) (fun v => by unfold stI; rw [va_up_self, bx_uu]) (by rw [ht, if_neg hb]; rfl) (by rw [if_neg hb]) (by rw [← hTR, if_neg hb])
theorem ok_restoreTo {sg : Nat → Nat} {k t : Nat} {TI : MI} {TL : ML} (hR : RS R) (hH : HS R sg) (hk : I 15 0 = nI (k + 1)) (hk4 : k < 4) (ht : t = sg k) (hb4 : narrow .boolean (.int (I t 4)) = .int (I t 4)) (hTI : va_up (stI I 15 0 (nI k)) 0 (ovr (I t) (I 0) 0 556) = TI) (hTL : va_up L 0 (ovr (L t) (L 0) 0 30) = TL) : Ok l yX2_restoreTo cX2_restoreTo 2 none 5 0 0 [.ref 54, .ref (pb 0)] I L R 287 (eqP (none) TI TL R 287) := by
  have h05 : (0 : Nat) < 5 := by decide
  obtain ⟨z1, z2, z3⟩ := hH k hk4
  have st : sg k < 5 := by omega
  have e1 : ∀ u, u ≠ 15 → stI I 15 0 (nI k) u = I u := fun u hu => funext fun v => stI_ne (fun q => hu q.1)
  refine Ok.ofV [some (.ref 54), some (.ref (pb 0))] rfl (by decide) (Nat.le_of_ble_eq_true rfl) ?_
  refine v_aload_n (pc' := 1) dX2_restoreTo_0 rfl rfl ?_
  refine v_gI (o := 0) (pc' := 4) dX2_restoreTo_1 rfl gf_X2_15 kp_H rfl rfl ?_
  refine v_if_le (pc' := 7) (tgt := 30) dX2_restoreTo_4 rfl (by decide) (fun hb => ?_) (fun hb => ?_)
  · rw [hk] at hb
    exact absurd hb (nI_nle (by omega) (by omega))
  · refine v_aload_n (pc' := 8) dX2_restoreTo_7 rfl rfl ?_
    refine v_dup (pc' := 9) dX2_restoreTo_8 rfl rfl ?_
    refine v_gI (o := 0) (pc' := 12) dX2_restoreTo_9 rfl gf_X2_15 kp_H rfl rfl ?_
    refine v_iconst (v := nI 1) (pc' := 13) dX2_restoreTo_12 rfl (by decide) ?_
    refine v_isub (pc' := 14) dX2_restoreTo_13 rfl ?_
    rw [hk, pk_sub (by omega), show k + 1 - 1 = k by omega]
    refine v_pI (o := 0) (pc' := 17) dX2_restoreTo_14 rfl gf_X2_15 pf_X2_15 kp_H rfl rfl (Or.inl rfl) rfl rfl ?_
    refine v_aload_n (pc' := 18) dX2_restoreTo_17 rfl rfl ?_
    refine v_aload_n (pc' := 19) dX2_restoreTo_18 rfl rfl ?_
    refine v_getQ (pc' := 22) dX2_restoreTo_19 rfl gf_X2_11 kp_H rfl (rf_H_states hR) ?_
    refine v_aload_n (pc' := 23) dX2_restoreTo_22 rfl rfl ?_
    refine v_gI (o := 0) (pc' := 26) dX2_restoreTo_23 rfl gf_X2_15 kp_H rfl rfl ?_
    rw [stI_self]
    refine v_aaloadSQ (pc' := 27) dX2_restoreTo_26 rfl kp_HA rfl hk4 ⟨z1, pb_lt _ st⟩ ?_
    refine v_cV1v (pc' := 30) dX2_restoreTo_27 rfl cv_X2_28 (kp_T h05) (Nat.le_of_ble_eq_true rfl) rfl (ok_copyFromT hR h05 st (by omega) (by rw [e1 _ (by omega), ← ht]; exact hb4)) ?_
    exact v_vret dX2_restoreTo_30 rfl (Nat.le_refl _) (Nat.le_refl _) ⟨rfl, by rw [← hTI, e1 (sg k) (by omega), e1 0 (by decide), ht], by rw [← hTL, ht], rfl, rfl⟩
end B19
