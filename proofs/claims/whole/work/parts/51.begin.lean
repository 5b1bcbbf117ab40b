/-! ===== both stand alike at the beginning ===== -/
def IB : MI := mm (iM (iD zI)) (fO 5 (iM (iD zI) 20)) (iM (iD zI) 20)
def LB : ML := lD zL
set_option maxRecDepth 100000 in
theorem IB_row : ((List.range 556).all fun j => IB 20 j == IB 0 j) = true := by decide +kernel
set_option maxRecDepth 100000 in
theorem LB_row : ((List.range 30).all fun j => LB 20 j == LB 0 j) = true := by decide +kernel
set_option maxRecDepth 100000 in
theorem IB_c : ∀ c, c < 5 → IB 0 (7 + 110 * c) = nI 0 ∧ IB 0 (6 + 110 * c) = nI 8 ∧ ∀ t, t < 5 → IB 0 (101 + 110 * c + t) < nI 100 := by decide +kernel
set_option maxRecDepth 100000 in
theorem IB_m : (IB 0 0 = nI 32 ∧ IB 0 1 = nI 2 ∧ IB 0 4 = nI 1 ∧ IB 0 5 = nI 2) ∧ (IB 15 0 = nI 0 ∧ IB 21 0 = nI 0 ∧ IB 9 0 = nI 0 ∧ IB 21 1 = nI 0 ∧ IB 5 0 = nI 0 ∧ IB 21 4 = nI 0) ∧ (∀ f, f < 4 → IB 22 f = nI (fA f) ∧ IB 23 f = nI (fB f)) ∧ (∀ i, i < 4 → RB 55 i = some (pb (i + 1))) := by decide +kernel
theorem IB_inv : Inv (IB 0) := by
  obtain ⟨⟨m0, m1, m4, m5⟩, _⟩ := IB_m
  have eM : gM (IB 0) = 32 := by
    unfold gM
    rw [m0]
    decide
  have eK : gK (IB 0) = 2 := by
    unfold gK
    rw [m1]
    decide
  refine ⟨⟨by rw [eM]; exact m0, by rw [eM]; decide, by rw [eM]; decide, by rw [eK]; exact m1, by rw [eK]; decide, by rw [eK]; decide⟩, fun c hc => ?_, fun c hc => (IB_c c hc).2.2, Or.inr m4, 2, by decide, m5⟩
  obtain ⟨c7, c6, _⟩ := IB_c c hc
  have eS : gS (IB 0) c = 0 := by
    unfold gS
    rw [c7]
    decide
  have eC : gC (IB 0) c = 8 := by
    unfold gC
    rw [c6]
    decide
  refine ⟨⟨by rw [eS]; exact c7, by rw [eS]; decide, fun i hi => ?_, ?_⟩, by rw [eC]; exact c6, by rw [eS]; exact Nat.zero_le _, by rw [eC]; decide, by rw [eC]; decide⟩
  · rw [eS] at hi
    exact absurd hi (Nat.not_lt_zero i)
  · rw [eS]
    exact fun i j hi => absurd hi (Nat.not_lt_zero i)
theorem rel_begin : RLx IB LB RB := by
  obtain ⟨_, ⟨a1, a2, a3, a4, a5, a6⟩, hmf, hh⟩ := IB_m
  refine ⟨fun i => i + 1, 0, IB 20, LB 20, [], 0, RB_RS, fun i hi => ⟨hh i hi, Nat.le_add_left 1 i, Nat.succ_le_of_lt hi⟩, fun i j _ _ e => Nat.succ.inj e, a1, a2, by decide, IB_inv, fun j hj => absurd hj (Nat.not_lt_zero j), ?_, ?_, hmf, ⟨a3, by decide, fun i hi => absurd hi (Nat.not_lt_zero i), a4, fun i hi => absurd hi (Nat.not_lt_zero i)⟩, ⟨a5, by decide, fun i hi => absurd hi (Nat.not_lt_zero i)⟩, a6, fun i hi => absurd hi (Nat.not_lt_zero i)⟩
  · funext j
    unfold sp
    split
    · exact beq_iff_eq.mp (List.all_eq_true.mp IB_row j (List.mem_range.mpr (by assumption)))
    · rfl
  · funext j
    unfold sq
    split
    · exact beq_iff_eq.mp (List.all_eq_true.mp LB_row j (List.mem_range.mpr (by assumption)))
    · rfl
