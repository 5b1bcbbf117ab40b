/-! ===== constructors ===== -/
theorem kpn {n p : Nat} {K : KD} (h : KP 287 p K) (hn : p < n) : KP n p K := ⟨h.1, hn, h.2.2⟩
theorem dfX0 : ∀ j, j < 13 → defaultValue (tyX0 j) = dfl 0 j := by decide +kernel
theorem dfX1 : ∀ j, j < 2 → defaultValue (tyX1 j) = dfl 1 j := by decide +kernel
theorem dfX2 : ∀ j, j < 2 → defaultValue (tyX2 j) = dfl 2 j := by decide +kernel
theorem dfX3 : ∀ j, j < 2 → defaultValue (tyX3 j) = dfl 3 j := by decide +kernel
theorem dfX4 : ∀ j, j < 6 → defaultValue (tyX4 j) = dfl 4 j := by decide +kernel
theorem dfX5 : ∀ j, j < 8 → defaultValue (tyX5 j) = dfl 5 j := by decide +kernel
theorem dfX6 : ∀ j, j < 5 → defaultValue (tyX6 j) = dfl 6 j := by decide +kernel
theorem dfX7 : ∀ j, j < 7 → defaultValue (tyX7 j) = dfl 7 j := by decide +kernel
theorem dfX8 : ∀ j, j < 16 → defaultValue (tyX8 j) = dfl 8 j := by decide +kernel
section B49
variable {l : Launch} {I : MI} {L : ML} {R : MR}
theorem c_X3 {p g n : Nat} (kS : KP 287 p (3, g, 0, 0, 0)) (hn : p < n) : Ok l yX3_init cX3_init 1 none 1 0 0 [.ref p] I L R (n) (eqP none (stI (stI I g 0 (nI 32)) g 1 (nI 2)) L R (n)) := by
  refine Ok.ofV [some (.ref p)] rfl (by decide) (Nat.le_of_ble_eq_true rfl) ?_
  refine v_aload_n (pc' := 1) dX3_init_0 rfl rfl ?_
  refine v_objInit (pc' := 4) dX3_init_1 rfl ci_X3_3 oi_inst oi_code (by decide) (by decide) ?_
  refine v_aload_n (pc' := 5) dX3_init_4 rfl rfl ?_
  refine v_bipush (v := nI 32) (pc' := 7) dX3_init_5 rfl (by decide) ?_
  refine v_pI (o := 0) (pc' := 10) dX3_init_7 rfl gf_X3_9 pf_X3_9 (kpn kS (by omega)) rfl rfl (Or.inl rfl) rfl rfl ?_
  refine v_aload_n (pc' := 11) dX3_init_10 rfl rfl ?_
  refine v_iconst (v := nI 2) (pc' := 12) dX3_init_11 rfl (by decide) ?_
  refine v_pI (o := 1) (pc' := 15) dX3_init_12 rfl gf_X3_15 pf_X3_15 (kpn kS (by omega)) rfl rfl (Or.inl rfl) rfl rfl ?_
  exact v_vret dX3_init_15 rfl (Nat.le_refl _) (Nat.le_refl _) ⟨rfl, rfl, rfl, rfl, rfl⟩
theorem pq_le {s c : Nat} (hs : s < 5) (hc : c < 5) : pb s + 53 ≤ 268 ∧ pq s c = pb s + (3 + 10 * c) := by
  refine ⟨?_, rfl⟩
  unfold pb
  split <;> omega
theorem c_X1 {s c : Nat} (hs : s < 5) (hc : c < 5) : Ok l yX1_init cX1_init 2 none 1 1 64 [.ref (pq s c + 8), .ref (pb s + 1)] I L R (pq s c + 9) (eqP none I L (stR (stR R (pq s c + 8) 1 (some (pq s c + 9))) (pq s c + 8) 0 (some (pb s + 1))) (pq s c + 10)) := by
  obtain ⟨h1, h2⟩ := pq_le hs hc
  refine Ok.ofV [some (.ref (pq s c + 8)), some (.ref (pb s + 1))] rfl (by decide) (Nat.le_of_ble_eq_true rfl) ?_
  refine v_aload_n (pc' := 1) dX1_init_0 rfl rfl ?_
  refine v_objInit (pc' := 4) dX1_init_1 rfl ci_X1_3 oi_inst oi_code (by decide) (by decide) ?_
  refine v_aload_n (pc' := 5) dX1_init_4 rfl rfl ?_
  refine v_bipush (v := nI 64) (pc' := 7) dX1_init_5 rfl (by decide) ?_
  refine v_newI (pc' := 9) dX1_init_7 rfl ar_int ((kp_counts hs hc).1) rfl (by decide) (by omega) (by first | rfl | (simp [scp, scv]; done) | (simp [scp, scv]; omega)) (by decide) (by decide) ?_
  refine v_putR (pc' := 12) dX1_init_9 rfl gf_X1_9 pf_X1_9 (kpn (kp_F hs hc) (by omega)) rfl (Or.inr rfl) (by omega) (by omega) (fun _ => rfl) (fun _ => rfl) ?_
  refine v_aload_n (pc' := 13) dX1_init_12 rfl rfl ?_
  refine v_aload_n (pc' := 14) dX1_init_13 rfl rfl ?_
  refine v_putR (pc' := 17) dX1_init_14 rfl gf_X1_15 pf_X1_15 (kpn (kp_F hs hc) (by omega)) rfl (Or.inr rfl) (by omega) (by omega) (fun _ => rfl) (fun _ => rfl) ?_
  exact v_vret dX1_init_17 rfl (Nat.le_refl _) (Nat.le_refl _) ⟨rfl, rfl, rfl, rfl, rfl⟩
end B49
