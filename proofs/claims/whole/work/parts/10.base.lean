/-! ===== numbers ===== -/
theorem ite01 {p : Prop} {h : Decidable p} : (if p then nI 1 else nI 0) = 0 ↔ ¬ p := by
  by_cases hp : p
  · rw [if_pos hp]
    exact ⟨fun q => absurd q (by decide), fun q => absurd hp q⟩
  · rw [if_neg hp]
    exact ⟨fun _ => hp, fun _ => rfl⟩
theorem nar01 {p : Prop} {h : Decidable p} : narrow .boolean (.int (if p then nI 1 else nI 0)) = .int (if p then nI 1 else nI 0) := by
  by_cases hp : p
  · rw [if_pos hp]; rfl
  · rw [if_neg hp]; rfl
def fA (f : Nat) : Nat := if f = 0 then 31 else if f = 1 then 57 else if f = 2 then 83 else 109
def fB (f : Nat) : Nat := if f = 0 then 7 else if f = 1 then 19 else if f = 2 then 43 else 61
theorem facF_n (f : Nat) : facF f = nI (fA f) := by
  unfold facF fA
  by_cases h0 : f = 0
  · simp [h0]; rfl
  · by_cases h1 : f = 1
    · simp [h1]; rfl
    · by_cases h2 : f = 2
      · simp [h2]; rfl
      · simp [h0, h1, h2]; rfl
theorem facS_n (f : Nat) : facS f = nI (fB f) := by
  unfold facS fB
  by_cases h0 : f = 0
  · simp [h0]; rfl
  · by_cases h1 : f = 1
    · simp [h1]; rfl
    · by_cases h2 : f = 2
      · simp [h2]; rfl
      · simp [h0, h1, h2]; rfl
theorem fA_le (f : Nat) : fA f ≤ 109 := by
  unfold fA
  repeat' split
  all_goals omega
theorem fB_le (f : Nat) : fB f ≤ 61 := by
  unfold fB
  repeat' split
  all_goals omega
/-- the value of function f of object x among M counters -/
def vf (M x f : Nat) : Nat := (x * fA f + fB f) % 997 % M
theorem vf_lt {M x f : Nat} (h : 0 < M) : vf M x f < M := Nat.mod_lt _ h
theorem vf_sm {x f : Nat} (hx : x < 1000) : x * fA f + fB f < 200000 := by
  have h1 := fA_le f
  have h2 := fB_le f
  have : x * fA f ≤ 999 * 109 := Nat.mul_le_mul (by omega) h1
  omega
section B10
variable {l : Launch} {I : MI} {L : ML} {R : MR}
/-! ===== DigestCaches: the checks of arguments ===== -/
theorem ok_isOutside {a b c : Int32} : Ok l yX7_isOutside cX7_isOutside 3 (some .boolean) 0 0 0 [.int a, .int b, .int c] I L R 287 (eqP (some (.int (if a < b ∨ c < a then nI 1 else nI 0))) I L R 287) := by
  refine Ok.ofV [some (.int a), some (.int b), some (.int c)] rfl (by decide) (Nat.le_of_ble_eq_true rfl) ?_
  refine v_iload_n (pc' := 1) dX7_isOutside_0 rfl rfl ?_
  refine v_iload_n (pc' := 2) dX7_isOutside_1 rfl rfl ?_
  refine v_icmp_lt (pc' := 5) (tgt := 10) dX7_isOutside_2 rfl (by decide) (fun hb => ?_) (fun hb => ?_)
  · refine v_iconst (v := nI 1) (pc' := 11) dX7_isOutside_10 rfl (by decide) ?_
    refine v_goto (tgt := 15) dX7_isOutside_11 (by decide) ?_
    exact v_zret dX7_isOutside_15 rfl rfl (Nat.le_refl _) (Nat.le_refl _) ⟨rfl, rfl, rfl, rfl, rfl⟩
  · refine v_iload_n (pc' := 6) dX7_isOutside_5 rfl rfl ?_
    refine v_iload_n (pc' := 7) dX7_isOutside_6 rfl rfl ?_
    refine v_icmp_le (pc' := 10) (tgt := 14) dX7_isOutside_7 rfl (by decide) (fun hc => ?_) (fun hc => ?_)
    · refine v_iconst (v := nI 0) (pc' := 15) dX7_isOutside_14 rfl (by decide) ?_
      exact v_zret dX7_isOutside_15 rfl rfl (Nat.le_refl _) (Nat.le_refl _) ⟨by rw [if_neg (fun q => q.elim hb (fun z => absurd z (Int32.not_lt.mpr hc)))], rfl, rfl, rfl, rfl⟩
    · refine v_iconst (v := nI 1) (pc' := 11) dX7_isOutside_10 rfl (by decide) ?_
      refine v_goto (tgt := 15) dX7_isOutside_11 (by decide) ?_
      exact v_zret dX7_isOutside_15 rfl rfl (Nat.le_refl _) (Nat.le_refl _) ⟨rfl, rfl, rfl, rfl, rfl⟩
end B10
