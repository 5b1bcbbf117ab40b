/-! ===== numbers ===== -/
theorem ite01 {p : Prop} {h : Decidable p} : (if p then nI 1 else nI 0) = 0 ↔ ¬ p := by
  by_cases hp : p
  · rw [if_pos hp]
    exact ⟨fun q => absurd q (by decide), fun q => absurd hp q⟩
  · rw [if_neg hp]
    exact ⟨fun _ => hp, fun _ => rfl⟩
theorem nar01 {p : Prop} {h : Decidable p} : narrow .boolean (.int (if p then nI 1 else nI 0)) = .int (if p then nI 1 else nI 0) := by
  by_cases hp : p
  · rw [if_pos hp]; rfl
  · rw [if_neg hp]; rfl
def fA (f : Nat) : Nat := if f = 0 then 31 else if f = 1 then 57 else if f = 2 then 83 else 109
def fB (f : Nat) : Nat := if f = 0 then 7 else if f = 1 then 19 else if f = 2 then 43 else 61
theorem facF_n (f : Nat) : facF f = nI (fA f) := by
  unfold facF fA
  by_cases h0 : f = 0
  · simp [h0]; rfl
  · by_cases h1 : f = 1
    · simp [h1]; rfl
    · by_cases h2 : f = 2
      · simp [h2]; rfl
      · simp [h0, h1, h2]; rfl
theorem facS_n (f : Nat) : facS f = nI (fB f) := by
  unfold facS fB
  by_cases h0 : f = 0
  · simp [h0]; rfl
  · by_cases h1 : f = 1
    · simp [h1]; rfl
    · by_cases h2 : f = 2
      · simp [h2]; rfl
      · simp [h0, h1, h2]; rfl
theorem fA_le (f : Nat) : fA f ≤ 109 := by
  unfold fA
  repeat' split
  all_goals omega
theorem fB_le (f : Nat) : fB f ≤ 61 := by
  unfold fB
  repeat' split
  all_goals omega
/-- the value of function f of object x among M counters -/
def vf (M x f : Nat) : Nat := (x * fA f + fB f) % 997 % M
theorem vf_lt {M x f : Nat} (h : 0 < M) : vf M x f < M := Nat.mod_lt _ h
theorem vf_sm {x f : Nat} (hx : x < 1000) : x * fA f + fB f < 200000 := by
  have h1 := fA_le f
  have h2 := fB_le f
  have : x * fA f ≤ 999 * 109 := Nat.mul_le_mul (by omega) h1
  omega
section B10
variable {l : Launch} {I : MI} {L : ML} {R : MR}
/-! ===== DigestCaches: the checks of arguments ===== -/
theorem ok_isOutside {a b c : Int32} : Ok l yX7_isOutside cX7_isOutside 3 (some .boolean) 0 0 0 [.int a, .int b, .int c] I L R 287 (eqP (some (.int (if a < b ∨ c < a then nI 1 else nI 0))) I L R 287) := by
  refine Ok.ofV [some (.int a), some (.int b), some (.int c)] rfl (by decide) (Nat.le_of_ble_eq_true rfl) ?_
  refine v_iload_n (pc' := 1) dX7_isOutside_0 rfl rfl ?_
  refine v_iload_n (pc' := 2) dX7_isOutside_1 rfl rfl ?_
  refine v_icmp_lt (pc' := 5) (tgt := 10) dX7_isOutside_2 rfl (by decide) (fun hb => ?_) (fun hb => ?_)
  · refine v_iconst (v := nI 1) (pc' := 11) dX7_isOutside_10 rfl (by decide) ?_
    refine v_goto (tgt := 15) dX7_isOutside_11 (by decide) ?_
    exact v_zret dX7_isOutside_15 rfl rfl (Nat.le_refl _) (Nat.le_refl _) ⟨by rw [if_pos (Or.inl hb)], rfl, rfl, rfl, rfl⟩
  · refine v_iload_n (pc' := 6) dX7_isOutside_5 rfl rfl ?_
    refine v_iload_n (pc' := 7) dX7_isOutside_6 rfl rfl ?_
    refine v_icmp_le (pc' := 10) (tgt := 14) dX7_isOutside_7 rfl (by decide) (fun hc => ?_) (fun hc => ?_)
    · refine v_iconst (v := nI 0) (pc' := 15) dX7_isOutside_14 rfl (by decide) ?_
      exact v_zret dX7_isOutside_15 rfl rfl (Nat.le_refl _) (Nat.le_refl _) ⟨by rw [if_neg (fun q => q.elim hb (fun z => absurd z (Int32.not_lt.mpr hc)))], rfl, rfl, rfl, rfl⟩
    · refine v_iconst (v := nI 1) (pc' := 11) dX7_isOutside_10 rfl (by decide) ?_
      refine v_goto (tgt := 15) dX7_isOutside_11 (by decide) ?_
      exact v_zret dX7_isOutside_15 rfl rfl (Nat.le_refl _) (Nat.le_refl _) ⟨by rw [if_pos (Or.inr (Int32.not_le.mp hc))], rfl, rfl, rfl, rfl⟩
theorem ok_isNoCache {a : Int32} : Ok l yX7_isNoCache cX7_isNoCache 1 (some .boolean) 1 0 0 [.int a] I L R 287 (eqP (some (.int (if a < nI 0 ∨ nI 4 < a then nI 1 else nI 0))) I L R 287) := by
  refine Ok.ofV [some (.int a)] rfl (by decide) (Nat.le_of_ble_eq_true rfl) ?_
  refine v_iload_n (pc' := 1) dX7_isNoCache_0 rfl rfl ?_
  refine v_iconst (v := nI 0) (pc' := 2) dX7_isNoCache_1 rfl (by decide) ?_
  refine v_iconst (v := nI 4) (pc' := 3) dX7_isNoCache_2 rfl (by decide) ?_
  refine v_cS3i (pc' := 6) dX7_isNoCache_3 rfl cs_X7_53 (Nat.le_of_ble_eq_true rfl) rfl (ok_isOutside) ?_
  exact v_zret dX7_isNoCache_6 rfl nar01 (Nat.le_refl _) (Nat.le_refl _) ⟨rfl, rfl, rfl, rfl, rfl⟩
theorem ok_isNoObject {a : Int32} : Ok l yX7_isNoObject cX7_isNoObject 1 (some .boolean) 1 0 0 [.int a] I L R 287 (eqP (some (.int (if a < nI 0 ∨ nI 999 < a then nI 1 else nI 0))) I L R 287) := by
  refine Ok.ofV [some (.int a)] rfl (by decide) (Nat.le_of_ble_eq_true rfl) ?_
  refine v_iload_n (pc' := 1) dX7_isNoObject_0 rfl rfl ?_
  refine v_iconst (v := nI 0) (pc' := 2) dX7_isNoObject_1 rfl (by decide) ?_
  refine v_sipush (v := nI 999) (pc' := 5) dX7_isNoObject_2 rfl (by decide) ?_
  refine v_cS3i (pc' := 8) dX7_isNoObject_5 rfl cs_X7_53 (Nat.le_of_ble_eq_true rfl) rfl (ok_isOutside) ?_
  exact v_zret dX7_isNoObject_8 rfl nar01 (Nat.le_refl _) (Nat.le_refl _) ⟨rfl, rfl, rfl, rfl, rfl⟩
/-- no such cache; no such object -/
abbrev noC (a : Int32) : Prop := a < nI 0 ∨ nI 4 < a
abbrev noO (a : Int32) : Prop := a < nI 0 ∨ nI 999 < a
theorem ok_objectFault {a b : Int32} : Ok l yX7_objectFault cX7_objectFault 2 (some .int) 2 0 0 [.int a, .int b] I L R 287 (eqP (some (.int (if noC a then -2 else if noO b then -3 else -1))) I L R 287) := by
  refine Ok.ofV [some (.int a), some (.int b)] rfl (by decide) (Nat.le_of_ble_eq_true rfl) ?_
  refine v_iload_n (pc' := 1) dX7_objectFault_0 rfl rfl ?_
  refine v_cS1i (pc' := 4) dX7_objectFault_1 rfl cs_X7_72 (Nat.le_of_ble_eq_true rfl) rfl (ok_isNoCache) ?_
  refine v_if_eq (pc' := 7) (tgt := 10) dX7_objectFault_4 rfl (by decide) (fun hb => ?_) (fun hb => ?_)
  · have hb := ite01.mp hb
    refine v_iload_n (pc' := 11) dX7_objectFault_10 rfl rfl ?_
    refine v_cS1i (pc' := 14) dX7_objectFault_11 rfl cs_X7_155 (Nat.le_of_ble_eq_true rfl) rfl (ok_isNoObject) ?_
    refine v_if_eq (pc' := 17) (tgt := 22) dX7_objectFault_14 rfl (by decide) (fun hc => ?_) (fun hc => ?_)
    · have hc := ite01.mp hc
      refine v_iconst (v := -1) (pc' := 23) dX7_objectFault_22 rfl (by decide) ?_
      exact v_iret dX7_objectFault_23 rfl (Nat.le_refl _) (Nat.le_refl _) ⟨by rw [if_neg hb, if_neg hc], rfl, rfl, rfl, rfl⟩
    · have hc : noO b := Classical.not_not.mp (fun q => hc (ite01.mpr q))
      refine v_bipush (v := -3) (pc' := 19) dX7_objectFault_17 rfl (by decide) ?_
      refine v_goto (tgt := 23) dX7_objectFault_19 (by decide) ?_
      exact v_iret dX7_objectFault_23 rfl (Nat.le_refl _) (Nat.le_refl _) ⟨by rw [if_neg hb, if_pos hc], rfl, rfl, rfl, rfl⟩
  · have hb : noC a := Classical.not_not.mp (fun q => hb (ite01.mpr q))
    refine v_bipush (v := -2) (pc' := 9) dX7_objectFault_7 rfl (by decide) ?_
    exact v_iret dX7_objectFault_9 rfl (Nat.le_refl _) (Nat.le_refl _) ⟨by rw [if_pos hb], rfl, rfl, rfl, rfl⟩
theorem ok_pairFault {a b : Int32} : Ok l yX7_pairFault cX7_pairFault 2 (some .int) 2 0 0 [.int a, .int b] I L R 287 (eqP (some (.int (if noC a ∨ noC b then -2 else if a = b then -3 else -1))) I L R 287) := by
  refine Ok.ofV [some (.int a), some (.int b)] rfl (by decide) (Nat.le_of_ble_eq_true rfl) ?_
  refine v_iload_n (pc' := 1) dX7_pairFault_0 rfl rfl ?_
  refine v_cS1i (pc' := 4) dX7_pairFault_1 rfl cs_X7_72 (Nat.le_of_ble_eq_true rfl) rfl (ok_isNoCache) ?_
  refine v_if_ne (pc' := 7) (tgt := 14) dX7_pairFault_4 rfl (by decide) (fun hb => ?_) (fun hb => ?_)
  · have hb : noC a := Classical.not_not.mp (fun q => hb (ite01.mpr q))
    refine v_bipush (v := -2) (pc' := 16) dX7_pairFault_14 rfl (by decide) ?_
    exact v_iret dX7_pairFault_16 rfl (Nat.le_refl _) (Nat.le_refl _) ⟨by rw [if_pos (Or.inl hb)], rfl, rfl, rfl, rfl⟩
  · have hb := ite01.mp hb
    refine v_iload_n (pc' := 8) dX7_pairFault_7 rfl rfl ?_
    refine v_cS1i (pc' := 11) dX7_pairFault_8 rfl cs_X7_72 (Nat.le_of_ble_eq_true rfl) rfl (ok_isNoCache) ?_
    refine v_if_eq (pc' := 14) (tgt := 17) dX7_pairFault_11 rfl (by decide) (fun hc => ?_) (fun hc => ?_)
    · have hc := ite01.mp hc
      have hn : ¬ (noC a ∨ noC b) := fun q => q.elim hb hc
      refine v_iload_n (pc' := 18) dX7_pairFault_17 rfl rfl ?_
      refine v_iload_n (pc' := 19) dX7_pairFault_18 rfl rfl ?_
      refine v_icmp_ne (pc' := 22) (tgt := 27) dX7_pairFault_19 rfl (by decide) (fun he => ?_) (fun he => ?_)
      · refine v_iconst (v := -1) (pc' := 28) dX7_pairFault_27 rfl (by decide) ?_
        exact v_iret dX7_pairFault_28 rfl (Nat.le_refl _) (Nat.le_refl _) ⟨by rw [if_neg hn, if_neg he], rfl, rfl, rfl, rfl⟩
      · refine v_bipush (v := -3) (pc' := 24) dX7_pairFault_22 rfl (by decide) ?_
        refine v_goto (tgt := 28) dX7_pairFault_24 (by decide) ?_
        exact v_iret dX7_pairFault_28 rfl (Nat.le_refl _) (Nat.le_refl _) ⟨by rw [if_neg hn, if_pos he], rfl, rfl, rfl, rfl⟩
    · have hc : noC b := Classical.not_not.mp (fun q => hc (ite01.mpr q))
      refine v_bipush (v := -2) (pc' := 16) dX7_pairFault_14 rfl (by decide) ?_
      exact v_iret dX7_pairFault_16 rfl (Nat.le_refl _) (Nat.le_refl _) ⟨by rw [if_pos (Or.inr hc)], rfl, rfl, rfl, rfl⟩
/-! ===== Shape ===== -/
theorem ok_change {p g : Nat} {a b : Int32} (kS : KP 287 p (3, g, 0, 0, 0)) : Ok l yX3_change cX3_change 3 none 0 0 0 [.ref p, .int a, .int b] I L R 287 (eqP (none) (stI (stI I g 0 a) g 1 b) L R 287) := by
  refine Ok.ofV [some (.ref p), some (.int a), some (.int b)] rfl (by decide) (Nat.le_of_ble_eq_true rfl) ?_
  refine v_aload_n (pc' := 1) dX3_change_0 rfl rfl ?_
  refine v_iload_n (pc' := 2) dX3_change_1 rfl rfl ?_
  refine v_pI (o := 0) (pc' := 5) dX3_change_2 rfl gf_X3_9 pf_X3_9 kS rfl rfl (Or.inl rfl) rfl rfl ?_
  refine v_aload_n (pc' := 6) dX3_change_5 rfl rfl ?_
  refine v_iload_n (pc' := 7) dX3_change_6 rfl rfl ?_
  refine v_pI (o := 1) (pc' := 10) dX3_change_7 rfl gf_X3_15 pf_X3_15 kS rfl rfl (Or.inl rfl) rfl rfl ?_
  exact v_vret dX3_change_10 rfl (Nat.le_refl _) (Nat.le_refl _) ⟨rfl, rfl, rfl, rfl, rfl⟩
theorem ok_wholeCost {p g M : Nat} (kS : KP 287 p (3, g, 0, 0, 0)) (hM : I g 0 = nI M) (hM2 : M ≤ 64) : Ok l yX3_wholeCost cX3_wholeCost 1 (some .int) 0 0 0 [.ref p] I L R 287 (eqP (some (.int (nI (2 + M / 4)))) I L R 287) := by
  refine Ok.ofV [some (.ref p)] rfl (by decide) (Nat.le_of_ble_eq_true rfl) ?_
  refine v_iconst (v := nI 2) (pc' := 1) dX3_wholeCost_0 rfl (by decide) ?_
  refine v_aload_n (pc' := 2) dX3_wholeCost_1 rfl rfl ?_
  refine v_gI (o := 0) (pc' := 5) dX3_wholeCost_2 rfl gf_X3_9 kS rfl rfl ?_
  refine v_iconst (v := nI 4) (pc' := 6) dX3_wholeCost_5 rfl (by decide) ?_
  refine v_idiv (pc' := 7) dX3_wholeCost_6 rfl (by decide) ?_
  refine v_iadd (pc' := 8) dX3_wholeCost_7 rfl ?_
  rw [hM, pk_div (by omega) (by decide) (by decide), nI_add]
  exact v_iret dX3_wholeCost_8 rfl (Nat.le_refl _) (Nat.le_refl _) ⟨rfl, rfl, rfl, rfl, rfl⟩
theorem ok_valueOf {p g M x f : Nat} (kS : KP 287 p (3, g, 0, 0, 0)) (hM : I g 0 = nI M) (hM1 : 0 < M) (hM2 : M ≤ 64) (hx : x < 1000) (hf : f < 4) : Ok l yX3_valueOf cX3_valueOf 3 (some .int) 0 0 0 [.ref p, .int (nI x), .int (nI f)] I L R 287 (eqP (some (.int (nI (vf M x f)))) I L R 287) := by
  refine Ok.ofV [some (.ref p), some (.int (nI x)), some (.int (nI f))] rfl (by decide) (Nat.le_of_ble_eq_true rfl) ?_
  refine v_iload_n (pc' := 1) dX3_valueOf_0 rfl rfl ?_
  refine v_if_lt (pc' := 4) (tgt := 17) dX3_valueOf_1 rfl (by decide) (fun hb => ?_) (fun hb => ?_)
  · exact absurd hb (nI_pos (by omega))
  · refine v_iload_n (pc' := 5) dX3_valueOf_4 rfl rfl ?_
    refine v_iconst (v := nI 4) (pc' := 6) dX3_valueOf_5 rfl (by decide) ?_
    refine v_icmp_ge (pc' := 9) (tgt := 17) dX3_valueOf_6 rfl (by decide) (fun hc => ?_) (fun hc => ?_)
    · exact absurd hc (nI_ge hf (by decide))
    · refine v_aload_n (pc' := 10) dX3_valueOf_9 rfl rfl ?_
      refine v_gI (o := 0) (pc' := 13) dX3_valueOf_10 rfl gf_X3_9 kS rfl rfl ?_
      refine v_iconst (v := nI 1) (pc' := 14) dX3_valueOf_13 rfl (by decide) ?_
      refine v_icmp_ge (pc' := 17) (tgt := 19) dX3_valueOf_14 rfl (by decide) (fun hd => ?_) (fun hd => ?_)
      · refine v_iload_n (pc' := 20) dX3_valueOf_19 rfl rfl ?_
        refine v_tabF (pc1 := 23) (pc2 := 24) (pc' := 25) dX3_valueOf_20 rfl dX3_valueOf_23 rfl dX3_valueOf_24 rfl gs_X3_18 rfl rfl hf ?_
        refine v_imul (pc' := 26) dX3_valueOf_25 rfl ?_
        refine v_tabS (pc1 := 29) (pc2 := 30) (pc' := 31) dX3_valueOf_26 rfl dX3_valueOf_29 rfl dX3_valueOf_30 rfl gs_X3_22 rfl rfl hf ?_
        refine v_iadd (pc' := 32) dX3_valueOf_31 rfl ?_
        refine v_sipush (v := nI 997) (pc' := 35) dX3_valueOf_32 rfl (by decide) ?_
        refine v_irem (pc' := 36) dX3_valueOf_35 rfl (by decide) ?_
        refine v_aload_n (pc' := 37) dX3_valueOf_36 rfl rfl ?_
        refine v_gI (o := 0) (pc' := 40) dX3_valueOf_37 rfl gf_X3_9 kS rfl rfl ?_
        refine v_irem (pc' := 41) dX3_valueOf_40 rfl (by rw [hM]; exact nI_ne0 hM1 (by omega)) ?_
        rw [facF_n, facS_n, pk_mul, nI_add, hM, pk_rem (by have := vf_sm (f := f) hx; omega) (by decide) (by decide), pk_rem (by have : (x * fA f + fB f) % 997 < 997 := Nat.mod_lt _ (by decide); omega) hM1 (by omega)]
        exact v_iret dX3_valueOf_41 rfl (Nat.le_refl _) (Nat.le_refl _) ⟨rfl, rfl, rfl, rfl, rfl⟩
      · rw [hM] at hd
        exact absurd (nI_le (by omega) (by omega)) hd
end B10
