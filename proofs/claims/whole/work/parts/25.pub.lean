/-! ===== DigestCaches: the settings ===== -/
def kt (sg : Nat → Nat) (k : Nat) : Nat := if k < 4 then sg k else sg 0
def kv (k : Nat) : Nat := if k < 4 then k + 1 else 4
def KI (I : MI) (sg : Nat → Nat) (k : Nat) : MI := kpI I (kt sg k) (nI (kv k))
def KL (L : ML) (sg : Nat → Nat) (k : Nat) : ML := kpL L (kt sg k)
def KR (R : MR) (sg : Nat → Nat) (k : Nat) : MR := if k < 4 then R else rotR R sg
theorem kt_rng {R : MR} {sg : Nat → Nat} {k : Nat} (h : HS R sg) : 1 ≤ kt sg k ∧ kt sg k ≤ 4 := by
  unfold kt
  split
  · exact (h k (by assumption)).2
  · exact (h 0 (by decide)).2
theorem KRS {R : MR} {sg : Nat → Nat} {k : Nat} (h : RS R) : RS (KR R sg k) := by
  unfold KR
  split
  · exact h
  · exact rot_RS h
theorem KI_u {I : MI} {R : MR} {sg : Nat → Nat} {k u : Nat} (h1 : u ≠ kt sg k) (h2 : u ≠ 15) : KI I sg k u = I u := by
  unfold KI kpI
  rw [stI_r h2, va_up_ne _ _ h1]
theorem KI_0 {I : MI} {R : MR} {sg : Nat → Nat} {k : Nat} (h : HS R sg) : KI I sg k 0 = I 0 := KI_u (R := R) (by have := kt_rng (k := k) h; omega) (by decide)
theorem KI_b {I : MI} {R : MR} {sg : Nat → Nat} {k u : Nat} (h : HS R sg) (hu : 5 ≤ u) (h15 : u ≠ 15) : KI I sg k u = I u := KI_u (R := R) (by have := kt_rng (k := k) h; omega) h15
theorem KL_0 {L : ML} {R : MR} {sg : Nat → Nat} {k : Nat} (h : HS R sg) : KL L sg k 0 = L 0 := by
  unfold KL kpL
  rw [va_up_ne _ _ (by have := kt_rng (k := k) h; omega)]
theorem inr {lo hi k : Nat} (h1 : lo ≤ k) (h2 : k ≤ hi) (h3 : hi < 2 ^ 31) : ¬ (nI k < nI lo ∨ nI hi < nI k) := fun q => q.elim (nI_nlt h1 (by omega)) (nI_nlt h2 h3)
theorem ncC {c : Nat} (h : c < 5) : ¬ noC (nI c) := inr (Nat.zero_le _) (by omega) (by decide)
theorem ncO {x : Nat} (h : x < 1000) : ¬ noO (nI x) := inr (Nat.zero_le _) (by omega) (by decide)
def ofE (a : Int32) : Int32 := if noC a then -2 else -3
def pfE (a b : Int32) : Int32 := if noC a ∨ noC b then -2 else -3
theorem ofE_ne (a : Int32) : ¬ ofE a = -1 := by
  unfold ofE
  split <;> decide
theorem pfE_ne (a b : Int32) : ¬ pfE a b = -1 := by
  unfold pfE
  split <;> decide
section B25
variable {l : Launch} {I : MI} {L : ML} {R : MR} {sg : Nat → Nat} {k : Nat} {TI : MI} {TL : ML}
theorem ok_kp (hR : RS R) (hH : HS R sg) (hk : I 15 0 = nI k) (hk4 : k ≤ 4) (hI : Inv (I 0)) : Ok l yX2_keep cX2_keep 2 none 5 0 0 [.ref 54, .ref (pb 0)] I L R 287 (eqP (none) (KI I sg k) (KL L sg k) (KR R sg k) 287) := ok_keep hR hH hk hk4 (nar4 hI) rfl rfl rfl rfl
theorem ok_of1 {c x : Nat} (hc : c < 5) (hx : x < 1000) : Ok l yX7_objectFault cX7_objectFault 2 (some .int) 2 0 0 [.int (nI c), .int (nI x)] I L R 287 (eqP (some (.int (-1))) I L R 287) := by
  have := ok_objectFault (l := l) (I := I) (L := L) (R := R) (a := nI c) (b := nI x)
  rw [if_neg (ncC hc), if_neg (ncO hx)] at this
  exact this
theorem ok_of2 {a b : Int32} (h : noC a ∨ noO b) : Ok l yX7_objectFault cX7_objectFault 2 (some .int) 2 0 0 [.int a, .int b] I L R 287 (eqP (some (.int (ofE a))) I L R 287) := by
  have := ok_objectFault (l := l) (I := I) (L := L) (R := R) (a := a) (b := b)
  have e : (if noC a then (-2 : Int32) else if noO b then -3 else -1) = ofE a := by
    unfold ofE
    by_cases ha : noC a
    · rw [if_pos ha, if_pos ha]
    · rw [if_neg ha, if_neg ha, if_pos (h.resolve_left ha)]
  rw [e] at this
  exact this
theorem ok_pf1 {a b : Nat} (ha : a < 5) (hb : b < 5) (hne : a ≠ b) : Ok l yX7_pairFault cX7_pairFault 2 (some .int) 2 0 0 [.int (nI a), .int (nI b)] I L R 287 (eqP (some (.int (-1))) I L R 287) := by
  have := ok_pairFault (l := l) (I := I) (L := L) (R := R) (a := nI a) (b := nI b)
  rw [if_neg (fun q => q.elim (ncC ha) (ncC hb)), if_neg (fun q => hne ((nI_eq (by omega) (by omega)).mp q))] at this
  exact this
theorem ok_pf2 {a b : Int32} (h : noC a ∨ noC b ∨ a = b) : Ok l yX7_pairFault cX7_pairFault 2 (some .int) 2 0 0 [.int a, .int b] I L R 287 (eqP (some (.int (pfE a b))) I L R 287) := by
  have := ok_pairFault (l := l) (I := I) (L := L) (R := R) (a := a) (b := b)
  have e : (if noC a ∨ noC b then (-2 : Int32) else if a = b then -3 else -1) = pfE a b := by
    unfold pfE
    by_cases ha : noC a ∨ noC b
    · rw [if_pos ha, if_pos ha]
    · rw [if_neg ha, if_neg ha, if_pos ((h.resolve_left (fun q => ha (Or.inl q))).resolve_left (fun q => ha (Or.inr q)))]
  rw [e] at this
  exact this
theorem d_setFilters_no {a b : Int32} (h : (a < nI 8 ∨ nI 64 < a) ∨ (b < nI 1 ∨ nI 4 < b)) : Ok l yX7_setFilters cX7_setFilters 4 (some .int) 6 0 0 [.ref 0, .int a, .int b] I L R 287 (eqP (some (.int (-3))) I L R 287) := by
  refine Ok.ofV [some (.ref 0), some (.int a), some (.int b), none] rfl (by decide) (Nat.le_of_ble_eq_true rfl) ?_
  refine v_iload_n (pc' := 1) dX7_setFilters_0 rfl rfl ?_
  refine v_bipush (v := nI 8) (pc' := 3) dX7_setFilters_1 rfl (by decide) ?_
  refine v_bipush (v := nI 64) (pc' := 5) dX7_setFilters_3 rfl (by decide) ?_
  refine v_cS3i (pc' := 8) dX7_setFilters_5 rfl cs_X7_53 (Nat.le_of_ble_eq_true rfl) rfl (ok_isOutside) ?_
  refine v_if_ne (pc' := 11) (tgt := 20) dX7_setFilters_8 rfl (by decide) (fun hb => ?_) (fun hb => ?_)
  · refine v_bipush (v := -3) (pc' := 22) dX7_setFilters_20 rfl (by decide) ?_
    exact v_iret dX7_setFilters_22 rfl (Nat.le_refl _) (Nat.le_refl _) ⟨rfl, rfl, rfl, rfl, rfl⟩
  · have hb := ite01.mp hb
    refine v_iload_n (pc' := 12) dX7_setFilters_11 rfl rfl ?_
    refine v_iconst (v := nI 1) (pc' := 13) dX7_setFilters_12 rfl (by decide) ?_
    refine v_iconst (v := nI 4) (pc' := 14) dX7_setFilters_13 rfl (by decide) ?_
    refine v_cS3i (pc' := 17) dX7_setFilters_14 rfl cs_X7_53 (Nat.le_of_ble_eq_true rfl) rfl (ok_isOutside) ?_
    refine v_if_eq (pc' := 20) (tgt := 23) dX7_setFilters_17 rfl (by decide) (fun hc => ?_) (fun hc => ?_)
    · exact absurd (h.resolve_left hb) (ite01.mp hc)
    · refine v_bipush (v := -3) (pc' := 22) dX7_setFilters_20 rfl (by decide) ?_
      exact v_iret dX7_setFilters_22 rfl (Nat.le_refl _) (Nat.le_refl _) ⟨rfl, rfl, rfl, rfl, rfl⟩
theorem d_setFilters {M K : Nat} (hR : RS R) (hH : HS R sg) (hk : I 15 0 = nI k) (hk4 : k ≤ 4) (hI : Inv (I 0)) (h1 : 8 ≤ M) (h2 : M ≤ 64) (h3 : 1 ≤ K) (h4 : K ≤ 4) (hTI : va_up (KI I sg k) 0 (rFil M K (I 0)) = TI) (hTL : va_up (KL L sg k) 0 (mRs 5 (L 0)) = TL) : Ok l yX7_setFilters cX7_setFilters 4 (some .int) 6 0 0 [.ref 0, .int (nI M), .int (nI K)] I L R 287 (eqP (some (.int (I 0 0))) TI TL (KR R sg k) 287) := by
  have h05 : (0 : Nat) < 5 := by decide
  have e0 : KI I sg k 0 = I 0 := KI_0 hH
  have l0 : KL L sg k 0 = L 0 := KL_0 hH
  refine Ok.ofV [some (.ref 0), some (.int (nI M)), some (.int (nI K)), none] rfl (by decide) (Nat.le_of_ble_eq_true rfl) ?_
  refine v_iload_n (pc' := 1) dX7_setFilters_0 rfl rfl ?_
  refine v_bipush (v := nI 8) (pc' := 3) dX7_setFilters_1 rfl (by decide) ?_
  refine v_bipush (v := nI 64) (pc' := 5) dX7_setFilters_3 rfl (by decide) ?_
  refine v_cS3i (pc' := 8) dX7_setFilters_5 rfl cs_X7_53 (Nat.le_of_ble_eq_true rfl) rfl (ok_isOutside) ?_
  refine v_if_ne (pc' := 11) (tgt := 20) dX7_setFilters_8 rfl (by decide) (fun hb => ?_) (fun hb => ?_)
  · exact absurd (ite01.mpr (inr h1 h2 (by decide))) hb
  · refine v_iload_n (pc' := 12) dX7_setFilters_11 rfl rfl ?_
    refine v_iconst (v := nI 1) (pc' := 13) dX7_setFilters_12 rfl (by decide) ?_
    refine v_iconst (v := nI 4) (pc' := 14) dX7_setFilters_13 rfl (by decide) ?_
    refine v_cS3i (pc' := 17) dX7_setFilters_14 rfl cs_X7_53 (Nat.le_of_ble_eq_true rfl) rfl (ok_isOutside) ?_
    refine v_if_eq (pc' := 20) (tgt := 23) dX7_setFilters_17 rfl (by decide) (fun hc => ?_) (fun hc => ?_)
    · refine v_aload_n (pc' := 24) dX7_setFilters_23 rfl rfl ?_
      refine v_getQ (pc' := 27) dX7_setFilters_24 rfl gf_X7_24 kp_D rfl (rf_D_history hR) ?_
      refine v_aload_n (pc' := 28) dX7_setFilters_27 rfl rfl ?_
      refine v_getQ (pc' := 31) dX7_setFilters_28 rfl gf_X7_15 kp_D rfl (rf_D_state hR) ?_
      refine v_cV1v (pc' := 34) dX7_setFilters_31 rfl cv_X7_57 kp_H (Nat.le_of_ble_eq_true rfl) rfl (ok_kp hR hH hk hk4 hI) ?_
      have hR := KRS (sg := sg) (k := k) hR
      refine v_aload_n (pc' := 35) dX7_setFilters_34 rfl rfl ?_
      refine v_getQ (pc' := 38) dX7_setFilters_35 rfl gf_X7_15 kp_D rfl (rf_D_state hR) ?_
      refine v_getQ (pc' := 41) dX7_setFilters_38 rfl gf_X7_61 (kp_T h05) rfl (rf_T_shape hR h05) ?_
      refine v_gI (o := 0) (pc' := 44) dX7_setFilters_41 rfl gf_X7_64 (kp_S h05) rfl rfl ?_
      rw [e0]
      refine v_istore_n3 (pc' := 45) dX7_setFilters_44 rfl (by decide) rfl ?_
      refine v_aload_n (pc' := 46) dX7_setFilters_45 rfl rfl ?_
      refine v_getQ (pc' := 49) dX7_setFilters_46 rfl gf_X7_15 kp_D rfl (rf_D_state hR) ?_
      refine v_iload_n (pc' := 50) dX7_setFilters_49 rfl rfl ?_
      refine v_iload_n (pc' := 51) dX7_setFilters_50 rfl rfl ?_
      refine v_cV2v (pc' := 54) dX7_setFilters_51 rfl cv_X7_68 (kp_T h05) (Nat.le_of_ble_eq_true rfl) rfl (ok_reshape (M := M) (K := K) (r := va_up (va_up (I 0) 0 (nI M)) 1 (nI K)) (TI := TI) (TL := TL) (by rw [e0]) hTI (by rw [l0]; exact hTL) hR h05 h1 h2 h3 h4 (fun c hc => by rw [e0]; exact (hI.2.1 c hc).1)) ?_
      refine v_iload_n (pc' := 55) dX7_setFilters_54 rfl rfl ?_
      exact v_iret dX7_setFilters_55 rfl (Nat.le_refl _) (Nat.le_refl _) ⟨rfl, rfl, rfl, rfl, rfl⟩
    · exact absurd (ite01.mpr (inr h3 h4 (by decide))) hc
theorem d_setCapacity_no1 {a b : Int32} (h : noC a) : Ok l yX7_setCapacity cX7_setCapacity 4 (some .int) 6 0 0 [.ref 0, .int a, .int b] I L R 287 (eqP (some (.int (-2))) I L R 287) := by
  refine Ok.ofV [some (.ref 0), some (.int a), some (.int b), none] rfl (by decide) (Nat.le_of_ble_eq_true rfl) ?_
  refine v_iload_n (pc' := 1) dX7_setCapacity_0 rfl rfl ?_
  refine v_cS1i (pc' := 4) dX7_setCapacity_1 rfl cs_X7_72 (Nat.le_of_ble_eq_true rfl) rfl (ok_isNoCache) ?_
  refine v_if_eq (pc' := 7) (tgt := 10) dX7_setCapacity_4 rfl (by decide) (fun hb => ?_) (fun hb => ?_)
  · exact absurd h (ite01.mp hb)
  · refine v_bipush (v := -2) (pc' := 9) dX7_setCapacity_7 rfl (by decide) ?_
    exact v_iret dX7_setCapacity_9 rfl (Nat.le_refl _) (Nat.le_refl _) ⟨rfl, rfl, rfl, rfl, rfl⟩
theorem d_setCapacity_no2 {c : Nat} {b : Int32} (hc : c < 5) (h : b < nI 1 ∨ nI 16 < b) : Ok l yX7_setCapacity cX7_setCapacity 4 (some .int) 6 0 0 [.ref 0, .int (nI c), .int b] I L R 287 (eqP (some (.int (-3))) I L R 287) := by
  refine Ok.ofV [some (.ref 0), some (.int (nI c)), some (.int b), none] rfl (by decide) (Nat.le_of_ble_eq_true rfl) ?_
  refine v_iload_n (pc' := 1) dX7_setCapacity_0 rfl rfl ?_
  refine v_cS1i (pc' := 4) dX7_setCapacity_1 rfl cs_X7_72 (Nat.le_of_ble_eq_true rfl) rfl (ok_isNoCache) ?_
  refine v_if_eq (pc' := 7) (tgt := 10) dX7_setCapacity_4 rfl (by decide) (fun hb => ?_) (fun hb => ?_)
  · refine v_iload_n (pc' := 11) dX7_setCapacity_10 rfl rfl ?_
    refine v_iconst (v := nI 1) (pc' := 12) dX7_setCapacity_11 rfl (by decide) ?_
    refine v_bipush (v := nI 16) (pc' := 14) dX7_setCapacity_12 rfl (by decide) ?_
    refine v_cS3i (pc' := 17) dX7_setCapacity_14 rfl cs_X7_53 (Nat.le_of_ble_eq_true rfl) rfl (ok_isOutside) ?_
    refine v_if_eq (pc' := 20) (tgt := 23) dX7_setCapacity_17 rfl (by decide) (fun hq => ?_) (fun hq => ?_)
    · exact absurd h (ite01.mp hq)
    · refine v_bipush (v := -3) (pc' := 22) dX7_setCapacity_20 rfl (by decide) ?_
      exact v_iret dX7_setCapacity_22 rfl (Nat.le_refl _) (Nat.le_refl _) ⟨rfl, rfl, rfl, rfl, rfl⟩
  · exact absurd (ite01.mpr (ncC hc)) hb
theorem d_setCapacity {c cap : Nat} (hR : RS R) (hH : HS R sg) (hk : I 15 0 = nI k) (hk4 : k ≤ 4) (hI : Inv (I 0)) (hc : c < 5) (h1 : 1 ≤ cap) (h2 : cap ≤ 16) (hTI : va_up (KI I sg k) 0 (rLim c cap (I 0)) = TI) : Ok l yX7_setCapacity cX7_setCapacity 4 (some .int) 6 0 0 [.ref 0, .int (nI c), .int (nI cap)] I L R 287 (eqP (some (.int (I 0 (6 + 110 * c)))) TI (KL L sg k) (KR R sg k) 287) := by
  have h05 : (0 : Nat) < 5 := by decide
  have e0 : KI I sg k 0 = I 0 := KI_0 hH
  refine Ok.ofV [some (.ref 0), some (.int (nI c)), some (.int (nI cap)), none] rfl (by decide) (Nat.le_of_ble_eq_true rfl) ?_
  refine v_iload_n (pc' := 1) dX7_setCapacity_0 rfl rfl ?_
  refine v_cS1i (pc' := 4) dX7_setCapacity_1 rfl cs_X7_72 (Nat.le_of_ble_eq_true rfl) rfl (ok_isNoCache) ?_
  refine v_if_eq (pc' := 7) (tgt := 10) dX7_setCapacity_4 rfl (by decide) (fun hb => ?_) (fun hb => ?_)
  · refine v_iload_n (pc' := 11) dX7_setCapacity_10 rfl rfl ?_
    refine v_iconst (v := nI 1) (pc' := 12) dX7_setCapacity_11 rfl (by decide) ?_
    refine v_bipush (v := nI 16) (pc' := 14) dX7_setCapacity_12 rfl (by decide) ?_
    refine v_cS3i (pc' := 17) dX7_setCapacity_14 rfl cs_X7_53 (Nat.le_of_ble_eq_true rfl) rfl (ok_isOutside) ?_
    refine v_if_eq (pc' := 20) (tgt := 23) dX7_setCapacity_17 rfl (by decide) (fun hq => ?_) (fun hq => ?_)
    · refine v_aload_n (pc' := 24) dX7_setCapacity_23 rfl rfl ?_
      refine v_getQ (pc' := 27) dX7_setCapacity_24 rfl gf_X7_24 kp_D rfl (rf_D_history hR) ?_
      refine v_aload_n (pc' := 28) dX7_setCapacity_27 rfl rfl ?_
      refine v_getQ (pc' := 31) dX7_setCapacity_28 rfl gf_X7_15 kp_D rfl (rf_D_state hR) ?_
      refine v_cV1v (pc' := 34) dX7_setCapacity_31 rfl cv_X7_57 kp_H (Nat.le_of_ble_eq_true rfl) rfl (ok_kp hR hH hk hk4 hI) ?_
      have hR := KRS (sg := sg) (k := k) hR
      refine v_aload_n (pc' := 35) dX7_setCapacity_34 rfl rfl ?_
      refine v_getQ (pc' := 38) dX7_setCapacity_35 rfl gf_X7_15 kp_D rfl (rf_D_state hR) ?_
      refine v_getQ (pc' := 41) dX7_setCapacity_38 rfl gf_X7_76 (kp_T h05) rfl (rf_T_caches hR h05) ?_
      refine v_iload_n (pc' := 42) dX7_setCapacity_41 rfl rfl ?_
      refine v_aaloadQ (pc' := 43) dX7_setCapacity_42 rfl (kp_CA h05) rfl hc (rf_CA hR h05 hc) ?_
      refine v_gI (o := 6 + 110 * c) (pc' := 46) dX7_setCapacity_43 rfl gf_X7_80 (kp_C h05 hc) rfl (Nat.add_zero _) ?_
      rw [e0]
      refine v_istore_n3 (pc' := 47) dX7_setCapacity_46 rfl (by decide) rfl ?_
      refine v_aload_n (pc' := 48) dX7_setCapacity_47 rfl rfl ?_
      refine v_getQ (pc' := 51) dX7_setCapacity_48 rfl gf_X7_15 kp_D rfl (rf_D_state hR) ?_
      refine v_getQ (pc' := 54) dX7_setCapacity_51 rfl gf_X7_76 (kp_T h05) rfl (rf_T_caches hR h05) ?_
      refine v_iload_n (pc' := 55) dX7_setCapacity_54 rfl rfl ?_
      refine v_aaloadQ (pc' := 56) dX7_setCapacity_55 rfl (kp_CA h05) rfl hc (rf_CA hR h05 hc) ?_
      refine v_iload_n (pc' := 57) dX7_setCapacity_56 rfl rfl ?_
      refine v_cV1v (pc' := 60) dX7_setCapacity_57 rfl cv_X7_85 (kp_C h05 hc) (Nat.le_of_ble_eq_true rfl) rfl (ok_limitTo hR h05 hc (by rw [e0]; exact hI.1) (by rw [e0]; exact (hI.2.1 c hc).1) h2) ?_
      refine v_iload_n (pc' := 61) dX7_setCapacity_60 rfl rfl ?_
      exact v_iret dX7_setCapacity_61 rfl (Nat.le_refl _) (Nat.le_refl _) ⟨rfl, by rw [e0]; exact hTI, rfl, rfl, rfl⟩
    · exact absurd (ite01.mpr (inr h1 h2 (by decide))) hq
  · exact absurd (ite01.mpr (ncC hc)) hb
theorem d_setLink_no {a b u : Int32} (h : noC a ∨ noC b ∨ a = b) : Ok l yX7_setLink cX7_setLink 6 (some .int) 6 0 0 [.ref 0, .int a, .int b, .int u] I L R 287 (eqP (some (.int (pfE a b))) I L R 287) := by
  refine Ok.ofV [some (.ref 0), some (.int a), some (.int b), some (.int u), none, none] rfl (by decide) (Nat.le_of_ble_eq_true rfl) ?_
  refine v_iload_n (pc' := 1) dX7_setLink_0 rfl rfl ?_
  refine v_iload_n (pc' := 2) dX7_setLink_1 rfl rfl ?_
  refine v_cS2i (pc' := 5) dX7_setLink_2 rfl cs_X7_89 (Nat.le_of_ble_eq_true rfl) rfl (ok_pf2 h) ?_
  refine v_istore4 (pc' := 7) dX7_setLink_5 rfl (by decide) rfl ?_
  refine v_iload (pc' := 9) dX7_setLink_7 rfl rfl ?_
  refine v_iconst (v := -1) (pc' := 10) dX7_setLink_9 rfl (by decide) ?_
  refine v_icmp_eq (pc' := 13) (tgt := 16) dX7_setLink_10 rfl (by decide) (fun hb => ?_) (fun hb => ?_)
  · exact absurd hb (pfE_ne a b)
  · refine v_iload (pc' := 15) dX7_setLink_13 rfl rfl ?_
    exact v_iret dX7_setLink_15 rfl (Nat.le_refl _) (Nat.le_refl _) ⟨rfl, rfl, rfl, rfl, rfl⟩
theorem d_setLink {a b : Nat} {u : Int32} (hR : RS R) (hH : HS R sg) (hk : I 15 0 = nI k) (hk4 : k ≤ 4) (hI : Inv (I 0)) (ha : a < 5) (hb5 : b < 5) (hne : a ≠ b) (hTI : va_up (KI I sg k) 0 (va_up (I 0) (96 + 110 * a + b) (if u = 0 then nI 0 else nI 1)) = TI) : Ok l yX7_setLink cX7_setLink 6 (some .int) 6 0 0 [.ref 0, .int (nI a), .int (nI b), .int u] I L R 287 (eqP (some (.int (I 0 (96 + 110 * a + b)))) TI (KL L sg k) (KR R sg k) 287) := by
  have h05 : (0 : Nat) < 5 := by decide
  have e0 : KI I sg k 0 = I 0 := KI_0 hH
  refine Ok.ofV [some (.ref 0), some (.int (nI a)), some (.int (nI b)), some (.int u), none, none] rfl (by decide) (Nat.le_of_ble_eq_true rfl) ?_
  refine v_iload_n (pc' := 1) dX7_setLink_0 rfl rfl ?_
  refine v_iload_n (pc' := 2) dX7_setLink_1 rfl rfl ?_
  refine v_cS2i (pc' := 5) dX7_setLink_2 rfl cs_X7_89 (Nat.le_of_ble_eq_true rfl) rfl (ok_pf1 ha hb5 hne) ?_
  refine v_istore4 (pc' := 7) dX7_setLink_5 rfl (by decide) rfl ?_
  refine v_iload (pc' := 9) dX7_setLink_7 rfl rfl ?_
  refine v_iconst (v := -1) (pc' := 10) dX7_setLink_9 rfl (by decide) ?_
  refine v_icmp_eq (pc' := 13) (tgt := 16) dX7_setLink_10 rfl (by decide) (fun hb => ?_) (fun hb => ?_)
  · refine v_aload_n (pc' := 17) dX7_setLink_16 rfl rfl ?_
    refine v_getQ (pc' := 20) dX7_setLink_17 rfl gf_X7_24 kp_D rfl (rf_D_history hR) ?_
    refine v_aload_n (pc' := 21) dX7_setLink_20 rfl rfl ?_
    refine v_getQ (pc' := 24) dX7_setLink_21 rfl gf_X7_15 kp_D rfl (rf_D_state hR) ?_
    refine v_cV1v (pc' := 27) dX7_setLink_24 rfl cv_X7_57 kp_H (Nat.le_of_ble_eq_true rfl) rfl (ok_kp hR hH hk hk4 hI) ?_
    have hR := KRS (sg := sg) (k := k) hR
    refine v_aload_n (pc' := 28) dX7_setLink_27 rfl rfl ?_
    refine v_getQ (pc' := 31) dX7_setLink_28 rfl gf_X7_15 kp_D rfl (rf_D_state hR) ?_
    refine v_getQ (pc' := 34) dX7_setLink_31 rfl gf_X7_76 (kp_T h05) rfl (rf_T_caches hR h05) ?_
    refine v_iload_n (pc' := 35) dX7_setLink_34 rfl rfl ?_
    refine v_aaloadQ (pc' := 36) dX7_setLink_35 rfl (kp_CA h05) rfl ha (rf_CA hR h05 ha) ?_
    refine v_getQ (pc' := 39) dX7_setLink_36 rfl gf_X7_93 (kp_C h05 ha) rfl (rf_C_links hR h05 ha) ?_
    refine v_iload_n (pc' := 40) dX7_setLink_39 rfl rfl ?_
    refine v_ial (pc' := 41) dX7_setLink_40 rfl (kp_links h05 ha) rfl rfl (by omega) ?_
    rw [e0]
    refine v_istore5 (pc' := 43) dX7_setLink_41 rfl (by decide) rfl ?_
    refine v_aload_n (pc' := 44) dX7_setLink_43 rfl rfl ?_
    refine v_getQ (pc' := 47) dX7_setLink_44 rfl gf_X7_15 kp_D rfl (rf_D_state hR) ?_
    refine v_getQ (pc' := 50) dX7_setLink_47 rfl gf_X7_76 (kp_T h05) rfl (rf_T_caches hR h05) ?_
    refine v_iload_n (pc' := 51) dX7_setLink_50 rfl rfl ?_
    refine v_aaloadQ (pc' := 52) dX7_setLink_51 rfl (kp_CA h05) rfl ha (rf_CA hR h05 ha) ?_
    refine v_getQ (pc' := 55) dX7_setLink_52 rfl gf_X7_93 (kp_C h05 ha) rfl (rf_C_links hR h05 ha) ?_
    refine v_iload_n (pc' := 56) dX7_setLink_55 rfl rfl ?_
    refine v_iload_n (pc' := 57) dX7_setLink_56 rfl rfl ?_
    refine v_if_eq (pc' := 60) (tgt := 64) dX7_setLink_57 rfl (by decide) (fun hq => ?_) (fun hq => ?_)
    · refine v_iconst (v := nI 0) (pc' := 65) dX7_setLink_64 rfl (by decide) ?_
      refine v_ias (pc' := 66) dX7_setLink_65 rfl (kp_links h05 ha) rfl rfl (by omega) ?_
      refine v_iload (pc' := 68) dX7_setLink_66 rfl rfl ?_
      exact v_iret dX7_setLink_68 rfl (Nat.le_refl _) (Nat.le_refl _) ⟨rfl, by rw [← hTI, if_pos hq]; unfold stI; rw [e0], rfl, rfl, rfl⟩
    · refine v_iconst (v := nI 1) (pc' := 61) dX7_setLink_60 rfl (by decide) ?_
      refine v_goto (tgt := 65) dX7_setLink_61 (by decide) ?_
      refine v_ias (pc' := 66) dX7_setLink_65 rfl (kp_links h05 ha) rfl rfl (by omega) ?_
      refine v_iload (pc' := 68) dX7_setLink_66 rfl rfl ?_
      exact v_iret dX7_setLink_68 rfl (Nat.le_refl _) (Nat.le_refl _) ⟨rfl, by rw [← hTI, if_neg hq]; unfold stI; rw [e0], rfl, rfl, rfl⟩
  · exact absurd rfl hb
theorem d_setDistance_no1 {a b u : Int32} (h : noC a ∨ noC b ∨ a = b) : Ok l yX7_setDistance cX7_setDistance 6 (some .int) 6 0 0 [.ref 0, .int a, .int b, .int u] I L R 287 (eqP (some (.int (pfE a b))) I L R 287) := by
  refine Ok.ofV [some (.ref 0), some (.int a), some (.int b), some (.int u), none, none] rfl (by decide) (Nat.le_of_ble_eq_true rfl) ?_
  refine v_iload_n (pc' := 1) dX7_setDistance_0 rfl rfl ?_
  refine v_iload_n (pc' := 2) dX7_setDistance_1 rfl rfl ?_
  refine v_cS2i (pc' := 5) dX7_setDistance_2 rfl cs_X7_89 (Nat.le_of_ble_eq_true rfl) rfl (ok_pf2 h) ?_
  refine v_istore4 (pc' := 7) dX7_setDistance_5 rfl (by decide) rfl ?_
  refine v_iload (pc' := 9) dX7_setDistance_7 rfl rfl ?_
  refine v_iconst (v := -1) (pc' := 10) dX7_setDistance_9 rfl (by decide) ?_
  refine v_icmp_eq (pc' := 13) (tgt := 16) dX7_setDistance_10 rfl (by decide) (fun hb => ?_) (fun hb => ?_)
  · exact absurd hb (pfE_ne a b)
  · refine v_iload (pc' := 15) dX7_setDistance_13 rfl rfl ?_
    exact v_iret dX7_setDistance_15 rfl (Nat.le_refl _) (Nat.le_refl _) ⟨rfl, rfl, rfl, rfl, rfl⟩
theorem d_setDistance_no2 {a b : Nat} {u : Int32} (ha : a < 5) (hb5 : b < 5) (hne : a ≠ b) (h : u < nI 0 ∨ nI 99 < u) : Ok l yX7_setDistance cX7_setDistance 6 (some .int) 6 0 0 [.ref 0, .int (nI a), .int (nI b), .int u] I L R 287 (eqP (some (.int (-3))) I L R 287) := by
  refine Ok.ofV [some (.ref 0), some (.int (nI a)), some (.int (nI b)), some (.int u), none, none] rfl (by decide) (Nat.le_of_ble_eq_true rfl) ?_
  refine v_iload_n (pc' := 1) dX7_setDistance_0 rfl rfl ?_
  refine v_iload_n (pc' := 2) dX7_setDistance_1 rfl rfl ?_
  refine v_cS2i (pc' := 5) dX7_setDistance_2 rfl cs_X7_89 (Nat.le_of_ble_eq_true rfl) rfl (ok_pf1 ha hb5 hne) ?_
  refine v_istore4 (pc' := 7) dX7_setDistance_5 rfl (by decide) rfl ?_
  refine v_iload (pc' := 9) dX7_setDistance_7 rfl rfl ?_
  refine v_iconst (v := -1) (pc' := 10) dX7_setDistance_9 rfl (by decide) ?_
  refine v_icmp_eq (pc' := 13) (tgt := 16) dX7_setDistance_10 rfl (by decide) (fun hb => ?_) (fun hb => ?_)
  · refine v_iload_n (pc' := 17) dX7_setDistance_16 rfl rfl ?_
    refine v_iconst (v := nI 0) (pc' := 18) dX7_setDistance_17 rfl (by decide) ?_
    refine v_bipush (v := nI 99) (pc' := 20) dX7_setDistance_18 rfl (by decide) ?_
    refine v_cS3i (pc' := 23) dX7_setDistance_20 rfl cs_X7_53 (Nat.le_of_ble_eq_true rfl) rfl (ok_isOutside) ?_
    refine v_if_eq (pc' := 26) (tgt := 29) dX7_setDistance_23 rfl (by decide) (fun hq => ?_) (fun hq => ?_)
    · exact absurd h (ite01.mp hq)
    · refine v_bipush (v := -3) (pc' := 28) dX7_setDistance_26 rfl (by decide) ?_
      exact v_iret dX7_setDistance_28 rfl (Nat.le_refl _) (Nat.le_refl _) ⟨rfl, rfl, rfl, rfl, rfl⟩
  · exact absurd rfl hb
theorem d_setDistance {a b d : Nat} (hR : RS R) (hH : HS R sg) (hk : I 15 0 = nI k) (hk4 : k ≤ 4) (hI : Inv (I 0)) (ha : a < 5) (hb5 : b < 5) (hne : a ≠ b) (hd : d ≤ 99) (hTI : va_up (KI I sg k) 0 (va_up (I 0) (101 + 110 * a + b) (nI d)) = TI) : Ok l yX7_setDistance cX7_setDistance 6 (some .int) 6 0 0 [.ref 0, .int (nI a), .int (nI b), .int (nI d)] I L R 287 (eqP (some (.int (I 0 (101 + 110 * a + b)))) TI (KL L sg k) (KR R sg k) 287) := by
  have h05 : (0 : Nat) < 5 := by decide
  have e0 : KI I sg k 0 = I 0 := KI_0 hH
  refine Ok.ofV [some (.ref 0), some (.int (nI a)), some (.int (nI b)), some (.int (nI d)), none, none] rfl (by decide) (Nat.le_of_ble_eq_true rfl) ?_
  refine v_iload_n (pc' := 1) dX7_setDistance_0 rfl rfl ?_
  refine v_iload_n (pc' := 2) dX7_setDistance_1 rfl rfl ?_
  refine v_cS2i (pc' := 5) dX7_setDistance_2 rfl cs_X7_89 (Nat.le_of_ble_eq_true rfl) rfl (ok_pf1 ha hb5 hne) ?_
  refine v_istore4 (pc' := 7) dX7_setDistance_5 rfl (by decide) rfl ?_
  refine v_iload (pc' := 9) dX7_setDistance_7 rfl rfl ?_
  refine v_iconst (v := -1) (pc' := 10) dX7_setDistance_9 rfl (by decide) ?_
  refine v_icmp_eq (pc' := 13) (tgt := 16) dX7_setDistance_10 rfl (by decide) (fun hb => ?_) (fun hb => ?_)
  · refine v_iload_n (pc' := 17) dX7_setDistance_16 rfl rfl ?_
    refine v_iconst (v := nI 0) (pc' := 18) dX7_setDistance_17 rfl (by decide) ?_
    refine v_bipush (v := nI 99) (pc' := 20) dX7_setDistance_18 rfl (by decide) ?_
    refine v_cS3i (pc' := 23) dX7_setDistance_20 rfl cs_X7_53 (Nat.le_of_ble_eq_true rfl) rfl (ok_isOutside) ?_
    refine v_if_eq (pc' := 26) (tgt := 29) dX7_setDistance_23 rfl (by decide) (fun hq => ?_) (fun hq => ?_)
    · refine v_aload_n (pc' := 30) dX7_setDistance_29 rfl rfl ?_
      refine v_getQ (pc' := 33) dX7_setDistance_30 rfl gf_X7_24 kp_D rfl (rf_D_history hR) ?_
      refine v_aload_n (pc' := 34) dX7_setDistance_33 rfl rfl ?_
      refine v_getQ (pc' := 37) dX7_setDistance_34 rfl gf_X7_15 kp_D rfl (rf_D_state hR) ?_
      refine v_cV1v (pc' := 40) dX7_setDistance_37 rfl cv_X7_57 kp_H (Nat.le_of_ble_eq_true rfl) rfl (ok_kp hR hH hk hk4 hI) ?_
      have hR := KRS (sg := sg) (k := k) hR
      refine v_aload_n (pc' := 41) dX7_setDistance_40 rfl rfl ?_
      refine v_getQ (pc' := 44) dX7_setDistance_41 rfl gf_X7_15 kp_D rfl (rf_D_state hR) ?_
      refine v_getQ (pc' := 47) dX7_setDistance_44 rfl gf_X7_76 (kp_T h05) rfl (rf_T_caches hR h05) ?_
      refine v_iload_n (pc' := 48) dX7_setDistance_47 rfl rfl ?_
      refine v_aaloadQ (pc' := 49) dX7_setDistance_48 rfl (kp_CA h05) rfl ha (rf_CA hR h05 ha) ?_
      refine v_getQ (pc' := 52) dX7_setDistance_49 rfl gf_X7_96 (kp_C h05 ha) rfl (rf_C_distances hR h05 ha) ?_
      refine v_iload_n (pc' := 53) dX7_setDistance_52 rfl rfl ?_
      refine v_ial (pc' := 54) dX7_setDistance_53 rfl (kp_distances h05 ha) rfl rfl (by omega) ?_
      rw [e0]
      refine v_istore5 (pc' := 56) dX7_setDistance_54 rfl (by decide) rfl ?_
      refine v_aload_n (pc' := 57) dX7_setDistance_56 rfl rfl ?_
      refine v_getQ (pc' := 60) dX7_setDistance_57 rfl gf_X7_15 kp_D rfl (rf_D_state hR) ?_
      refine v_getQ (pc' := 63) dX7_setDistance_60 rfl gf_X7_76 (kp_T h05) rfl (rf_T_caches hR h05) ?_
      refine v_iload_n (pc' := 64) dX7_setDistance_63 rfl rfl ?_
      refine v_aaloadQ (pc' := 65) dX7_setDistance_64 rfl (kp_CA h05) rfl ha (rf_CA hR h05 ha) ?_
      refine v_getQ (pc' := 68) dX7_setDistance_65 rfl gf_X7_96 (kp_C h05 ha) rfl (rf_C_distances hR h05 ha) ?_
      refine v_iload_n (pc' := 69) dX7_setDistance_68 rfl rfl ?_
      refine v_iload_n (pc' := 70) dX7_setDistance_69 rfl rfl ?_
      refine v_ias (pc' := 71) dX7_setDistance_70 rfl (kp_distances h05 ha) rfl rfl (by omega) ?_
      refine v_iload (pc' := 73) dX7_setDistance_71 rfl rfl ?_
      exact v_iret dX7_setDistance_73 rfl (Nat.le_refl _) (Nat.le_refl _) ⟨rfl, by rw [← hTI]; unfold stI; rw [e0], rfl, rfl, rfl⟩
    · exact absurd (ite01.mpr (inr (Nat.zero_le _) hd (by decide))) hq
  · exact absurd rfl hb
theorem d_setRules_no {a b u : Int32} (h : (a < nI 0 ∨ nI 1000 < a) ∨ (u < nI 0 ∨ nI 4 < u)) : Ok l yX7_setRules cX7_setRules 5 (some .int) 6 0 0 [.ref 0, .int a, .int b, .int u] I L R 287 (eqP (some (.int (-3))) I L R 287) := by
  refine Ok.ofV [some (.ref 0), some (.int a), some (.int b), some (.int u), none] rfl (by decide) (Nat.le_of_ble_eq_true rfl) ?_
  refine v_iload_n (pc' := 1) dX7_setRules_0 rfl rfl ?_
  refine v_iconst (v := nI 0) (pc' := 2) dX7_setRules_1 rfl (by decide) ?_
  refine v_sipush (v := nI 1000) (pc' := 5) dX7_setRules_2 rfl (by decide) ?_
  refine v_cS3i (pc' := 8) dX7_setRules_5 rfl cs_X7_53 (Nat.le_of_ble_eq_true rfl) rfl (ok_isOutside) ?_
  refine v_if_ne (pc' := 11) (tgt := 20) dX7_setRules_8 rfl (by decide) (fun hb => ?_) (fun hb => ?_)
  · refine v_bipush (v := -3) (pc' := 22) dX7_setRules_20 rfl (by decide) ?_
    exact v_iret dX7_setRules_22 rfl (Nat.le_refl _) (Nat.le_refl _) ⟨rfl, rfl, rfl, rfl, rfl⟩
  · have hb := ite01.mp hb
    refine v_iload_n (pc' := 12) dX7_setRules_11 rfl rfl ?_
    refine v_iconst (v := nI 0) (pc' := 13) dX7_setRules_12 rfl (by decide) ?_
    refine v_iconst (v := nI 4) (pc' := 14) dX7_setRules_13 rfl (by decide) ?_
    refine v_cS3i (pc' := 17) dX7_setRules_14 rfl cs_X7_53 (Nat.le_of_ble_eq_true rfl) rfl (ok_isOutside) ?_
    refine v_if_eq (pc' := 20) (tgt := 23) dX7_setRules_17 rfl (by decide) (fun hc => ?_) (fun hc => ?_)
    · exact absurd (h.resolve_left hb) (ite01.mp hc)
    · refine v_bipush (v := -3) (pc' := 22) dX7_setRules_20 rfl (by decide) ?_
      exact v_iret dX7_setRules_22 rfl (Nat.le_refl _) (Nat.le_refl _) ⟨rfl, rfl, rfl, rfl, rfl⟩
theorem d_setRules {a q : Nat} {b : Int32} (hR : RS R) (hH : HS R sg) (hk : I 15 0 = nI k) (hk4 : k ≤ 4) (hI : Inv (I 0)) (ha : a ≤ 1000) (hq4 : q ≤ 4) (hb2 : b = nI 0 ∨ b = nI 1) (hTI : va_up (KI I sg k) 0 (va_up (va_up (va_up (I 0) 3 (nI a)) 4 b) 5 (nI q)) = TI) : Ok l yX7_setRules cX7_setRules 5 (some .int) 6 0 0 [.ref 0, .int (nI a), .int b, .int (nI q)] I L R 287 (eqP (some (.int (I 0 3))) TI (KL L sg k) (KR R sg k) 287) := by
  have h05 : (0 : Nat) < 5 := by decide
  have e0 : KI I sg k 0 = I 0 := KI_0 hH
  have hnb : narrow .boolean (.int b) = .int b := by rcases hb2 with z | z <;> rw [z] <;> rfl
  refine Ok.ofV [some (.ref 0), some (.int (nI a)), some (.int b), some (.int (nI q)), none] rfl (by decide) (Nat.le_of_ble_eq_true rfl) ?_
  refine v_iload_n (pc' := 1) dX7_setRules_0 rfl rfl ?_
  refine v_iconst (v := nI 0) (pc' := 2) dX7_setRules_1 rfl (by decide) ?_
  refine v_sipush (v := nI 1000) (pc' := 5) dX7_setRules_2 rfl (by decide) ?_
  refine v_cS3i (pc' := 8) dX7_setRules_5 rfl cs_X7_53 (Nat.le_of_ble_eq_true rfl) rfl (ok_isOutside) ?_
  refine v_if_ne (pc' := 11) (tgt := 20) dX7_setRules_8 rfl (by decide) (fun hb => ?_) (fun hb => ?_)
  · exact absurd (ite01.mpr (inr (Nat.zero_le _) ha (by decide))) hb
  · refine v_iload_n (pc' := 12) dX7_setRules_11 rfl rfl ?_
    refine v_iconst (v := nI 0) (pc' := 13) dX7_setRules_12 rfl (by decide) ?_
    refine v_iconst (v := nI 4) (pc' := 14) dX7_setRules_13 rfl (by decide) ?_
    refine v_cS3i (pc' := 17) dX7_setRules_14 rfl cs_X7_53 (Nat.le_of_ble_eq_true rfl) rfl (ok_isOutside) ?_
    refine v_if_eq (pc' := 20) (tgt := 23) dX7_setRules_17 rfl (by decide) (fun hc => ?_) (fun hc => ?_)
    · refine v_aload_n (pc' := 24) dX7_setRules_23 rfl rfl ?_
      refine v_getQ (pc' := 27) dX7_setRules_24 rfl gf_X7_24 kp_D rfl (rf_D_history hR) ?_
      refine v_aload_n (pc' := 28) dX7_setRules_27 rfl rfl ?_
      refine v_getQ (pc' := 31) dX7_setRules_28 rfl gf_X7_15 kp_D rfl (rf_D_state hR) ?_
      refine v_cV1v (pc' := 34) dX7_setRules_31 rfl cv_X7_57 kp_H (Nat.le_of_ble_eq_true rfl) rfl (ok_kp hR hH hk hk4 hI) ?_
      have hR := KRS (sg := sg) (k := k) hR
      refine v_aload_n (pc' := 35) dX7_setRules_34 rfl rfl ?_
      refine v_getQ (pc' := 38) dX7_setRules_35 rfl gf_X7_15 kp_D rfl (rf_D_state hR) ?_
      refine v_gI (o := 3) (pc' := 41) dX7_setRules_38 rfl gf_X7_99 (kp_T h05) rfl rfl ?_
      rw [e0]
      refine v_istore4 (pc' := 43) dX7_setRules_41 rfl (by decide) rfl ?_
      refine v_aload_n (pc' := 44) dX7_setRules_43 rfl rfl ?_
      refine v_getQ (pc' := 47) dX7_setRules_44 rfl gf_X7_15 kp_D rfl (rf_D_state hR) ?_
      refine v_iload_n (pc' := 48) dX7_setRules_47 rfl rfl ?_
      refine v_pI (o := 3) (pc' := 51) dX7_setRules_48 rfl gf_X7_99 pf_X7_99 (kp_T h05) rfl rfl (Or.inl rfl) rfl rfl ?_
      refine v_aload_n (pc' := 52) dX7_setRules_51 rfl rfl ?_
      refine v_getQ (pc' := 55) dX7_setRules_52 rfl gf_X7_15 kp_D rfl (rf_D_state hR) ?_
      refine v_iload_n (pc' := 56) dX7_setRules_55 rfl rfl ?_
      refine v_pI (o := 4) (pc' := 59) dX7_setRules_56 rfl gf_X7_102 pf_X7_102 (kp_T h05) rfl rfl (Or.inl rfl) hnb (fits_z hnb) ?_
      refine v_aload_n (pc' := 60) dX7_setRules_59 rfl rfl ?_
      refine v_getQ (pc' := 63) dX7_setRules_60 rfl gf_X7_15 kp_D rfl (rf_D_state hR) ?_
      refine v_iload_n (pc' := 64) dX7_setRules_63 rfl rfl ?_
      refine v_pI (o := 5) (pc' := 67) dX7_setRules_64 rfl gf_X7_106 pf_X7_106 (kp_T h05) rfl rfl (Or.inl rfl) rfl rfl ?_
      refine v_iload (pc' := 69) dX7_setRules_67 rfl rfl ?_
      exact v_iret dX7_setRules_69 rfl (Nat.le_refl _) (Nat.le_refl _) ⟨rfl, by rw [← hTI]; unfold stI; simp only [va_up_self, bx_uu, e0], rfl, rfl, rfl⟩
    · exact absurd (ite01.mpr (inr (Nat.zero_le _) hq4 (by decide))) hc
theorem d_pass_no1 {a : Int32} (h : a < nI 1 ∨ nI 1000 < a) : Ok l yX7_pass cX7_pass 2 (some .int) 6 0 0 [.ref 0, .int a] I L R 287 (eqP (some (.int (-3))) I L R 287) := by
  refine Ok.ofV [some (.ref 0), some (.int a)] rfl (by decide) (Nat.le_of_ble_eq_true rfl) ?_
  refine v_iload_n (pc' := 1) dX7_pass_0 rfl rfl ?_
  refine v_iconst (v := nI 1) (pc' := 2) dX7_pass_1 rfl (by decide) ?_
  refine v_sipush (v := nI 1000) (pc' := 5) dX7_pass_2 rfl (by decide) ?_
  refine v_cS3i (pc' := 8) dX7_pass_5 rfl cs_X7_53 (Nat.le_of_ble_eq_true rfl) rfl (ok_isOutside) ?_
  refine v_if_eq (pc' := 11) (tgt := 14) dX7_pass_8 rfl (by decide) (fun hb => ?_) (fun hb => ?_)
  · exact absurd h (ite01.mp hb)
  · refine v_bipush (v := -3) (pc' := 13) dX7_pass_11 rfl (by decide) ?_
    exact v_iret dX7_pass_13 rfl (Nat.le_refl _) (Nat.le_refl _) ⟨rfl, rfl, rfl, rfl, rfl⟩
theorem d_pass_no2 {a : Nat} (hR : RS R) (h1 : 1 ≤ a) (h2 : a ≤ 1000) (h : (1000000 : Int32) < I 0 2 + nI a) : Ok l yX7_pass cX7_pass 2 (some .int) 6 0 0 [.ref 0, .int (nI a)] I L R 287 (eqP (some (.int (-5))) I L R 287) := by
  have h05 : (0 : Nat) < 5 := by decide
  refine Ok.ofV [some (.ref 0), some (.int (nI a))] rfl (by decide) (Nat.le_of_ble_eq_true rfl) ?_
  refine v_iload_n (pc' := 1) dX7_pass_0 rfl rfl ?_
  refine v_iconst (v := nI 1) (pc' := 2) dX7_pass_1 rfl (by decide) ?_
  refine v_sipush (v := nI 1000) (pc' := 5) dX7_pass_2 rfl (by decide) ?_
  refine v_cS3i (pc' := 8) dX7_pass_5 rfl cs_X7_53 (Nat.le_of_ble_eq_true rfl) rfl (ok_isOutside) ?_
  refine v_if_eq (pc' := 11) (tgt := 14) dX7_pass_8 rfl (by decide) (fun hb => ?_) (fun hb => ?_)
  · refine v_aload_n (pc' := 15) dX7_pass_14 rfl rfl ?_
    refine v_getQ (pc' := 18) dX7_pass_15 rfl gf_X7_15 kp_D rfl (rf_D_state hR) ?_
    refine v_gI (o := 2) (pc' := 21) dX7_pass_18 rfl gf_X7_109 (kp_T h05) rfl rfl ?_
    refine v_iload_n (pc' := 22) dX7_pass_21 rfl rfl ?_
    refine v_iadd (pc' := 23) dX7_pass_22 rfl ?_
    refine v_ldc (pc' := 25) dX7_pass_23 rfl kc_X7_112 ?_
    refine v_icmp_le (pc' := 28) (tgt := 31) dX7_pass_25 rfl (by decide) (fun hq => ?_) (fun hq => ?_)
    · exact absurd h (Int32.not_lt.mpr hq)
    · refine v_bipush (v := -5) (pc' := 30) dX7_pass_28 rfl (by decide) ?_
      exact v_iret dX7_pass_30 rfl (Nat.le_refl _) (Nat.le_refl _) ⟨rfl, rfl, rfl, rfl, rfl⟩
  · exact absurd (ite01.mpr (inr h1 h2 (by decide))) hb
theorem d_pass {a : Nat} (hR : RS R) (hH : HS R sg) (hk : I 15 0 = nI k) (hk4 : k ≤ 4) (hI : Inv (I 0)) (h1 : 1 ≤ a) (h2 : a ≤ 1000) (h : ¬ (1000000 : Int32) < I 0 2 + nI a) (hTI : va_up (KI I sg k) 0 (va_up (I 0) 2 (I 0 2 + nI a)) = TI) : Ok l yX7_pass cX7_pass 2 (some .int) 6 0 0 [.ref 0, .int (nI a)] I L R 287 (eqP (some (.int (I 0 2 + nI a))) TI (KL L sg k) (KR R sg k) 287) := by
  have h05 : (0 : Nat) < 5 := by decide
  have e0 : KI I sg k 0 = I 0 := KI_0 hH
  refine Ok.ofV [some (.ref 0), some (.int (nI a))] rfl (by decide) (Nat.le_of_ble_eq_true rfl) ?_
  refine v_iload_n (pc' := 1) dX7_pass_0 rfl rfl ?_
  refine v_iconst (v := nI 1) (pc' := 2) dX7_pass_1 rfl (by decide) ?_
  refine v_sipush (v := nI 1000) (pc' := 5) dX7_pass_2 rfl (by decide) ?_
  refine v_cS3i (pc' := 8) dX7_pass_5 rfl cs_X7_53 (Nat.le_of_ble_eq_true rfl) rfl (ok_isOutside) ?_
  refine v_if_eq (pc' := 11) (tgt := 14) dX7_pass_8 rfl (by decide) (fun hb => ?_) (fun hb => ?_)
  · refine v_aload_n (pc' := 15) dX7_pass_14 rfl rfl ?_
    refine v_getQ (pc' := 18) dX7_pass_15 rfl gf_X7_15 kp_D rfl (rf_D_state hR) ?_
    refine v_gI (o := 2) (pc' := 21) dX7_pass_18 rfl gf_X7_109 (kp_T h05) rfl rfl ?_
    refine v_iload_n (pc' := 22) dX7_pass_21 rfl rfl ?_
    refine v_iadd (pc' := 23) dX7_pass_22 rfl ?_
    refine v_ldc (pc' := 25) dX7_pass_23 rfl kc_X7_112 ?_
    refine v_icmp_le (pc' := 28) (tgt := 31) dX7_pass_25 rfl (by decide) (fun hq => ?_) (fun hq => ?_)
    · refine v_aload_n (pc' := 32) dX7_pass_31 rfl rfl ?_
      refine v_getQ (pc' := 35) dX7_pass_32 rfl gf_X7_24 kp_D rfl (rf_D_history hR) ?_
      refine v_aload_n (pc' := 36) dX7_pass_35 rfl rfl ?_
      refine v_getQ (pc' := 39) dX7_pass_36 rfl gf_X7_15 kp_D rfl (rf_D_state hR) ?_
      refine v_cV1v (pc' := 42) dX7_pass_39 rfl cv_X7_57 kp_H (Nat.le_of_ble_eq_true rfl) rfl (ok_kp hR hH hk hk4 hI) ?_
      have hR := KRS (sg := sg) (k := k) hR
      refine v_aload_n (pc' := 43) dX7_pass_42 rfl rfl ?_
      refine v_getQ (pc' := 46) dX7_pass_43 rfl gf_X7_15 kp_D rfl (rf_D_state hR) ?_
      refine v_dup (pc' := 47) dX7_pass_46 rfl rfl ?_
      refine v_gI (o := 2) (pc' := 50) dX7_pass_47 rfl gf_X7_109 (kp_T h05) rfl rfl ?_
      rw [e0]
      refine v_iload_n (pc' := 51) dX7_pass_50 rfl rfl ?_
      refine v_iadd (pc' := 52) dX7_pass_51 rfl ?_
      refine v_pI (o := 2) (pc' := 55) dX7_pass_52 rfl gf_X7_109 pf_X7_109 (kp_T h05) rfl rfl (Or.inl rfl) rfl rfl ?_
      refine v_aload_n (pc' := 56) dX7_pass_55 rfl rfl ?_
      refine v_getQ (pc' := 59) dX7_pass_56 rfl gf_X7_15 kp_D rfl (rf_D_state hR) ?_
      refine v_gI (o := 2) (pc' := 62) dX7_pass_59 rfl gf_X7_109 (kp_T h05) rfl rfl ?_
      rw [stI_self]
      exact v_iret dX7_pass_62 rfl (Nat.le_refl _) (Nat.le_refl _) ⟨rfl, by rw [← hTI]; unfold stI; rw [e0], rfl, rfl, rfl⟩
    · exact absurd (Int32.not_le.mp hq) h
  · exact absurd (ite01.mpr (inr h1 h2 (by decide))) hb
/-! ===== objects and filters ===== -/
theorem d_store_no {a b : Int32} (h : noC a ∨ noO b) : Ok l yX7_store cX7_store 4 (some .int) 6 0 0 [.ref 0, .int a, .int b] I L R 287 (eqP (some (.int (ofE a))) I L R 287) := by
  refine Ok.ofV [some (.ref 0), some (.int a), some (.int b), none] rfl (by decide) (Nat.le_of_ble_eq_true rfl) ?_
  refine v_iload_n (pc' := 1) dX7_store_0 rfl rfl ?_
  refine v_iload_n (pc' := 2) dX7_store_1 rfl rfl ?_
  refine v_cS2i (pc' := 5) dX7_store_2 rfl cs_X7_113 (Nat.le_of_ble_eq_true rfl) rfl (ok_of2 h) ?_
  refine v_istore_n3 (pc' := 6) dX7_store_5 rfl (by decide) rfl ?_
  refine v_iload_n (pc' := 7) dX7_store_6 rfl rfl ?_
  refine v_iconst (v := -1) (pc' := 8) dX7_store_7 rfl (by decide) ?_
  refine v_icmp_eq (pc' := 11) (tgt := 13) dX7_store_8 rfl (by decide) (fun hb => ?_) (fun hb => ?_)
  · exact absurd hb (ofE_ne a)
  · refine v_iload_n (pc' := 12) dX7_store_11 rfl rfl ?_
    exact v_iret dX7_store_12 rfl (Nat.le_refl _) (Nat.le_refl _) ⟨rfl, rfl, rfl, rfl, rfl⟩
theorem d_store {c x : Nat} (hR : RS R) (hH : HS R sg) (hk : I 15 0 = nI k) (hk4 : k ≤ 4) (hI : Inv (I 0)) (hc : c < 5) (hx : x < 1000) (hTI : va_up (KI I sg k) 0 (rTake c x (I 0)) = TI) : Ok l yX7_store cX7_store 4 (some .int) 6 0 0 [.ref 0, .int (nI c), .int (nI x)] I L R 287 (eqP (some (.int (aTake c x (I 0)))) TI (KL L sg k) (KR R sg k) 287) := by
  have h05 : (0 : Nat) < 5 := by decide
  have e0 : KI I sg k 0 = I 0 := KI_0 hH
  refine Ok.ofV [some (.ref 0), some (.int (nI c)), some (.int (nI x)), none] rfl (by decide) (Nat.le_of_ble_eq_true rfl) ?_
  refine v_iload_n (pc' := 1) dX7_store_0 rfl rfl ?_
  refine v_iload_n (pc' := 2) dX7_store_1 rfl rfl ?_
  refine v_cS2i (pc' := 5) dX7_store_2 rfl cs_X7_113 (Nat.le_of_ble_eq_true rfl) rfl (ok_of1 hc hx) ?_
  refine v_istore_n3 (pc' := 6) dX7_store_5 rfl (by decide) rfl ?_
  refine v_iload_n (pc' := 7) dX7_store_6 rfl rfl ?_
  refine v_iconst (v := -1) (pc' := 8) dX7_store_7 rfl (by decide) ?_
  refine v_icmp_eq (pc' := 11) (tgt := 13) dX7_store_8 rfl (by decide) (fun hb => ?_) (fun hb => ?_)
  · refine v_aload_n (pc' := 14) dX7_store_13 rfl rfl ?_
    refine v_getQ (pc' := 17) dX7_store_14 rfl gf_X7_24 kp_D rfl (rf_D_history hR) ?_
    refine v_aload_n (pc' := 18) dX7_store_17 rfl rfl ?_
    refine v_getQ (pc' := 21) dX7_store_18 rfl gf_X7_15 kp_D rfl (rf_D_state hR) ?_
    refine v_cV1v (pc' := 24) dX7_store_21 rfl cv_X7_57 kp_H (Nat.le_of_ble_eq_true rfl) rfl (ok_kp hR hH hk hk4 hI) ?_
    have hR := KRS (sg := sg) (k := k) hR
    refine v_aload_n (pc' := 25) dX7_store_24 rfl rfl ?_
    refine v_getQ (pc' := 28) dX7_store_25 rfl gf_X7_15 kp_D rfl (rf_D_state hR) ?_
    refine v_getQ (pc' := 31) dX7_store_28 rfl gf_X7_76 (kp_T h05) rfl (rf_T_caches hR h05) ?_
    refine v_iload_n (pc' := 32) dX7_store_31 rfl rfl ?_
    refine v_aaloadQ (pc' := 33) dX7_store_32 rfl (kp_CA h05) rfl hc (rf_CA hR h05 hc) ?_
    refine v_iload_n (pc' := 34) dX7_store_33 rfl rfl ?_
    refine v_cV1i (pc' := 37) dX7_store_34 rfl cv_X7_116 (kp_C h05 hc) (Nat.le_of_ble_eq_true rfl) rfl (ok_take hR h05 hc hx (by rw [e0]; exact hI.1) (by rw [e0]; exact hI.2.1 c hc)) ?_
    exact v_iret dX7_store_37 rfl (Nat.le_refl _) (Nat.le_refl _) ⟨by rw [e0], by rw [e0]; exact hTI, rfl, rfl, rfl⟩
  · exact absurd rfl hb
theorem d_drop_no1 {a b : Int32} (h : noC a ∨ noO b) : Ok l yX7_drop cX7_drop 6 (some .int) 6 0 0 [.ref 0, .int a, .int b] I L R 287 (eqP (some (.int (ofE a))) I L R 287) := by
  refine Ok.ofV [some (.ref 0), some (.int a), some (.int b), none, none, none] rfl (by decide) (Nat.le_of_ble_eq_true rfl) ?_
  refine v_iload_n (pc' := 1) dX7_drop_0 rfl rfl ?_
  refine v_iload_n (pc' := 2) dX7_drop_1 rfl rfl ?_
  refine v_cS2i (pc' := 5) dX7_drop_2 rfl cs_X7_113 (Nat.le_of_ble_eq_true rfl) rfl (ok_of2 h) ?_
  refine v_istore_n3 (pc' := 6) dX7_drop_5 rfl (by decide) rfl ?_
  refine v_iload_n (pc' := 7) dX7_drop_6 rfl rfl ?_
  refine v_iconst (v := -1) (pc' := 8) dX7_drop_7 rfl (by decide) ?_
  refine v_icmp_eq (pc' := 11) (tgt := 13) dX7_drop_8 rfl (by decide) (fun hb => ?_) (fun hb => ?_)
  · exact absurd hb (ofE_ne a)
  · refine v_iload_n (pc' := 12) dX7_drop_11 rfl rfl ?_
    exact v_iret dX7_drop_12 rfl (Nat.le_refl _) (Nat.le_refl _) ⟨rfl, rfl, rfl, rfl, rfl⟩
theorem d_drop_no2 {c x : Nat} (hR : RS R) (hI : Inv (I 0)) (hc : c < 5) (hx : x < 1000) (h : rFind c x (I 0) = none) : Ok l yX7_drop cX7_drop 6 (some .int) 6 0 0 [.ref 0, .int (nI c), .int (nI x)] I L R 287 (eqP (some (.int (-4))) I L R 287) := by
  have h05 : (0 : Nat) < 5 := by decide
  obtain ⟨i1, i2, i3, i4⟩ := (hI.2.1 c hc).1
  refine Ok.ofV [some (.ref 0), some (.int (nI c)), some (.int (nI x)), none, none, none] rfl (by decide) (Nat.le_of_ble_eq_true rfl) ?_
  refine v_iload_n (pc' := 1) dX7_drop_0 rfl rfl ?_
  refine v_iload_n (pc' := 2) dX7_drop_1 rfl rfl ?_
  refine v_cS2i (pc' := 5) dX7_drop_2 rfl cs_X7_113 (Nat.le_of_ble_eq_true rfl) rfl (ok_of1 hc hx) ?_
  refine v_istore_n3 (pc' := 6) dX7_drop_5 rfl (by decide) rfl ?_
  refine v_iload_n (pc' := 7) dX7_drop_6 rfl rfl ?_
  refine v_iconst (v := -1) (pc' := 8) dX7_drop_7 rfl (by decide) ?_
  refine v_icmp_eq (pc' := 11) (tgt := 13) dX7_drop_8 rfl (by decide) (fun hb => ?_) (fun hb => ?_)
  · refine v_aload_n (pc' := 14) dX7_drop_13 rfl rfl ?_
    refine v_getQ (pc' := 17) dX7_drop_14 rfl gf_X7_15 kp_D rfl (rf_D_state hR) ?_
    refine v_getQ (pc' := 20) dX7_drop_17 rfl gf_X7_76 (kp_T h05) rfl (rf_T_caches hR h05) ?_
    refine v_iload_n (pc' := 21) dX7_drop_20 rfl rfl ?_
    refine v_aaloadQ (pc' := 22) dX7_drop_21 rfl (kp_CA h05) rfl hc (rf_CA hR h05 hc) ?_
    refine v_astore4 (pc' := 24) dX7_drop_22 rfl (by decide) rfl ?_
    refine v_aload (pc' := 26) dX7_drop_24 rfl rfl ?_
    refine v_iload_n (pc' := 27) dX7_drop_26 rfl rfl ?_
    refine v_cV1i (pc' := 30) dX7_drop_27 rfl cv_X7_120 (kp_C h05 hc) (Nat.le_of_ble_eq_true rfl) rfl (ok_indexOf hR h05 hc i1 i2 i4) ?_
    rw [show fdx (I 0) c x (gS (I 0) c) = none from h]
    refine v_istore5 (pc' := 32) dX7_drop_30 rfl (by decide) rfl ?_
    refine v_iload (pc' := 34) dX7_drop_32 rfl rfl ?_
    refine v_iconst (v := -1) (pc' := 35) dX7_drop_34 rfl (by decide) ?_
    refine v_icmp_ne (pc' := 38) (tgt := 41) dX7_drop_35 rfl (by decide) (fun hq => ?_) (fun hq => ?_)
    · exact absurd rfl hq
    · refine v_bipush (v := -4) (pc' := 40) dX7_drop_38 rfl (by decide) ?_
      exact v_iret dX7_drop_40 rfl (Nat.le_refl _) (Nat.le_refl _) ⟨rfl, rfl, rfl, rfl, rfl⟩
  · exact absurd rfl hb
theorem d_drop {c x i : Nat} (hR : RS R) (hH : HS R sg) (hk : I 15 0 = nI k) (hk4 : k ≤ 4) (hI : Inv (I 0)) (hc : c < 5) (hx : x < 1000) (h : rFind c x (I 0) = some i) (hTI : va_up (KI I sg k) 0 (rRem c i (I 0)) = TI) : Ok l yX7_drop cX7_drop 6 (some .int) 6 0 0 [.ref 0, .int (nI c), .int (nI x)] I L R 287 (eqP (some (.int (nI (gS (I 0) c - 1)))) TI (KL L sg k) (KR R sg k) 287) := by
  have h05 : (0 : Nat) < 5 := by decide
  have e0 : KI I sg k 0 = I 0 := KI_0 hH
  obtain ⟨i1, i2, i3, i4⟩ := (hI.2.1 c hc).1
  have hi := (fdx_lt h).1
  refine Ok.ofV [some (.ref 0), some (.int (nI c)), some (.int (nI x)), none, none, none] rfl (by decide) (Nat.le_of_ble_eq_true rfl) ?_
  refine v_iload_n (pc' := 1) dX7_drop_0 rfl rfl ?_
  refine v_iload_n (pc' := 2) dX7_drop_1 rfl rfl ?_
  refine v_cS2i (pc' := 5) dX7_drop_2 rfl cs_X7_113 (Nat.le_of_ble_eq_true rfl) rfl (ok_of1 hc hx) ?_
  refine v_istore_n3 (pc' := 6) dX7_drop_5 rfl (by decide) rfl ?_
  refine v_iload_n (pc' := 7) dX7_drop_6 rfl rfl ?_
  refine v_iconst (v := -1) (pc' := 8) dX7_drop_7 rfl (by decide) ?_
  refine v_icmp_eq (pc' := 11) (tgt := 13) dX7_drop_8 rfl (by decide) (fun hb => ?_) (fun hb => ?_)
  · refine v_aload_n (pc' := 14) dX7_drop_13 rfl rfl ?_
    refine v_getQ (pc' := 17) dX7_drop_14 rfl gf_X7_15 kp_D rfl (rf_D_state hR) ?_
    refine v_getQ (pc' := 20) dX7_drop_17 rfl gf_X7_76 (kp_T h05) rfl (rf_T_caches hR h05) ?_
    refine v_iload_n (pc' := 21) dX7_drop_20 rfl rfl ?_
    refine v_aaloadQ (pc' := 22) dX7_drop_21 rfl (kp_CA h05) rfl hc (rf_CA hR h05 hc) ?_
    refine v_astore4 (pc' := 24) dX7_drop_22 rfl (by decide) rfl ?_
    refine v_aload (pc' := 26) dX7_drop_24 rfl rfl ?_
    refine v_iload_n (pc' := 27) dX7_drop_26 rfl rfl ?_
    refine v_cV1i (pc' := 30) dX7_drop_27 rfl cv_X7_120 (kp_C h05 hc) (Nat.le_of_ble_eq_true rfl) rfl (ok_indexOf hR h05 hc i1 i2 i4) ?_
    rw [show fdx (I 0) c x (gS (I 0) c) = some i from h]
    show V l yX7_drop cX7_drop 6 (some .int) (rmd 6 0 0) (QM 0 0 (eqP (some (.int (nI (gS (I 0) c - 1)))) TI (KL L sg k) (KR R sg k) 287)) (fun _ _ => True) 30 [some (.ref 0), some (.int (nI c)), some (.int (nI x)), some (.int (-1)), some (.ref (pq 0 c)), none] [.int (nI i)] I L R 287 0 0
    refine v_istore5 (pc' := 32) dX7_drop_30 rfl (by decide) rfl ?_
    refine v_iload (pc' := 34) dX7_drop_32 rfl rfl ?_
    refine v_iconst (v := -1) (pc' := 35) dX7_drop_34 rfl (by decide) ?_
    refine v_icmp_ne (pc' := 38) (tgt := 41) dX7_drop_35 rfl (by decide) (fun hq => ?_) (fun hq => ?_)
    · refine v_aload_n (pc' := 42) dX7_drop_41 rfl rfl ?_
      refine v_getQ (pc' := 45) dX7_drop_42 rfl gf_X7_24 kp_D rfl (rf_D_history hR) ?_
      refine v_aload_n (pc' := 46) dX7_drop_45 rfl rfl ?_
      refine v_getQ (pc' := 49) dX7_drop_46 rfl gf_X7_15 kp_D rfl (rf_D_state hR) ?_
      refine v_cV1v (pc' := 52) dX7_drop_49 rfl cv_X7_57 kp_H (Nat.le_of_ble_eq_true rfl) rfl (ok_kp hR hH hk hk4 hI) ?_
      have hR := KRS (sg := sg) (k := k) hR
      refine v_aload (pc' := 54) dX7_drop_52 rfl rfl ?_
      refine v_iload (pc' := 56) dX7_drop_54 rfl rfl ?_
      refine v_cV1i (pc' := 59) dX7_drop_56 rfl cv_X7_123 (kp_C h05 hc) (Nat.le_of_ble_eq_true rfl) rfl (ok_removeAt hR h05 hc (by rw [e0]; exact hI.1) (by rw [e0]; exact (hI.2.1 c hc).1) (by rw [e0]; exact hi)) ?_
      refine v_pop (pc' := 60) dX7_drop_59 rfl rfl ?_
      refine v_aload (pc' := 62) dX7_drop_60 rfl rfl ?_
      refine v_gI (o := 7 + 110 * c) (pc' := 65) dX7_drop_62 rfl gf_X7_126 (kp_C h05 hc) rfl (by omega) ?_
      rw [va_up_self, e0, rRem_sz hI.1]
      exact v_iret dX7_drop_65 rfl (Nat.le_refl _) (Nat.le_refl _) ⟨rfl, hTI, rfl, rfl, rfl⟩
    · exact absurd hq (by
        intro z
        have z2 : ¬ nI i < 0 := nI_pos (by omega)
        rw [z] at z2
        exact z2 (by decide))
  · exact absurd rfl hb
end B25
