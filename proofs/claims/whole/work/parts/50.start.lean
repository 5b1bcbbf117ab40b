/-! ===== the beginning ===== -/
def NR (R : MR) : Prop := ∀ p j, 16 ≤ j → R p j = none
theorem NR_st {R : MR} {p k : Nat} {v : Option Nat} (h : NR R) (hk : k < 16) : NR (stR R p k v) := fun q j hj => by
  rw [stR_ne (fun z => by omega)]
  exact h q j hj
theorem NR_C {a h : Nat} {R : MR} (hR : NR R) : NR (rC a h R) := NR_st (NR_st (NR_st (NR_st (NR_st (NR_st (NR_st (NR_st (NR_st (NR_st (NR_st hR (by decide)) (by decide)) (by decide)) (by decide)) (by decide)) (by decide)) (by decide)) (by decide)) (by decide)) (by decide)) (by decide)
theorem NR_T {s : Nat} {R : MR} (hR : NR R) : NR (rT s R) := NR_st (NR_C (NR_st (NR_C (NR_st (NR_C (NR_st (NR_C (NR_st (NR_C (NR_st (NR_st hR (by decide)) (by decide))) (by decide))) (by decide))) (by decide))) (by decide))) (by decide)
theorem NR_H {R : MR} (hR : NR R) : NR (rHk 4 R) := NR_st (NR_T (NR_st (NR_T (NR_st (NR_T (NR_st (NR_T (NR_st hR (by decide))) (by decide))) (by decide))) (by decide))) (by decide)
theorem NR_X {R : MR} (hR : NR R) : NR (rX R) := NR_st (NR_st (NR_st hR (by decide)) (by decide)) (by decide)
theorem NR_D {R : MR} (hR : NR R) : NR (rD R) := NR_st (NR_st (NR_st (NR_st (NR_st (NR_st (NR_st (NR_X (NR_st (NR_H (NR_st (NR_T hR) (by decide))) (by decide))) (by decide)) (by decide)) (by decide)) (by decide)) (by decide)) (by decide)) (by decide)
theorem NR_M {R : MR} (hR : NR R) : NR (rM R) := NR_st (NR_st (NR_st (NR_st (NR_st (NR_st (NR_st (NR_st hR (by decide)) (by decide)) (by decide)) (by decide)) (by decide)) (by decide)) (by decide)) (by decide)
def zI : MI := fun _ _ => 0
def zL : ML := fun _ _ => 0
def zR : MR := fun _ _ => none
def RB : MR := rM (rD zR)
theorem R0_16 {p j : Nat} (hj : 16 ≤ j) : R0 p j = none := by
  have e : ∀ k, k < 16 → (j = k) = False := fun k hk => eq_false (by omega)
  have e5 : (j < 5) = False := eq_false (by omega)
  simp [R0, R0S, e, e5]
set_option maxRecDepth 100000 in
theorem RB_fin : ((List.range 287).all fun p => p == 55 || (List.range 16).all fun j => RB p j == R0 p j) = true := by decide +kernel
theorem RB_RS : RS RB := by
  intro p j hp h55
  by_cases hj : 16 ≤ j
  · rw [R0_16 hj]
    exact NR_M (NR_D (fun _ _ _ => rfl)) p j hj
  · have h := List.all_eq_true.mp RB_fin p (List.mem_range.mpr hp)
    simp only [Bool.or_eq_true, beq_iff_eq] at h
    rcases h with h | h
    · exact absurd h h55
    · have := List.all_eq_true.mp h j (List.mem_range.mpr (by omega))
      exact beq_iff_eq.mp this
