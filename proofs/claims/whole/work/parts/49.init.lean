/-! ===== constructors ===== -/
theorem kpn {n p : Nat} {K : KD} (h : KP 287 p K) (hn : p < n) : KP n p K := ⟨h.1, hn, h.2.2⟩
theorem dfX0 : ∀ j, j < 13 → defaultValue (tyX0 j) = dfl 0 j := by decide +kernel
theorem dfX1 : ∀ j, j < 2 → defaultValue (tyX1 j) = dfl 1 j := by decide +kernel
theorem dfX2 : ∀ j, j < 2 → defaultValue (tyX2 j) = dfl 2 j := by decide +kernel
theorem dfX3 : ∀ j, j < 2 → defaultValue (tyX3 j) = dfl 3 j := by decide +kernel
theorem dfX4 : ∀ j, j < 6 → defaultValue (tyX4 j) = dfl 4 j := by decide +kernel
theorem dfX5 : ∀ j, j < 8 → defaultValue (tyX5 j) = dfl 5 j := by decide +kernel
theorem dfX6 : ∀ j, j < 5 → defaultValue (tyX6 j) = dfl 6 j := by decide +kernel
theorem dfX7 : ∀ j, j < 7 → defaultValue (tyX7 j) = dfl 7 j := by decide +kernel
theorem dfX8 : ∀ j, j < 16 → defaultValue (tyX8 j) = dfl 8 j := by decide +kernel
section B49
variable {l : Launch} {I : MI} {L : ML} {R : MR}
theorem c_X3 {p g n : Nat} (kS : KP 287 p (3, g, 0, 0, 0)) (hn : p < n) : Ok l yX3_init cX3_init 1 none 1 0 0 [.ref p] I L R (n) (eqP none (stI (stI I g 0 (nI 32)) g 1 (nI 2)) L R (n)) := by
  refine Ok.ofV [some (.ref p)] rfl (by decide) (Nat.le_of_ble_eq_true rfl) ?_
  refine v_aload_n (pc' := 1) dX3_init_0 rfl rfl ?_
  refine v_objInit (pc' := 4) dX3_init_1 rfl ci_X3_3 oi_inst oi_code (by decide) (by decide) ?_
  refine v_aload_n (pc' := 5) dX3_init_4 rfl rfl ?_
  refine v_bipush (v := nI 32) (pc' := 7) dX3_init_5 rfl (by decide) ?_
  refine v_pI (o := 0) (pc' := 10) dX3_init_7 rfl gf_X3_9 pf_X3_9 (kpn kS (by omega)) rfl rfl (Or.inl rfl) rfl rfl ?_
  refine v_aload_n (pc' := 11) dX3_init_10 rfl rfl ?_
  refine v_iconst (v := nI 2) (pc' := 12) dX3_init_11 rfl (by decide) ?_
  refine v_pI (o := 1) (pc' := 15) dX3_init_12 rfl gf_X3_15 pf_X3_15 (kpn kS (by omega)) rfl rfl (Or.inl rfl) rfl rfl ?_
  exact v_vret dX3_init_15 rfl (Nat.le_refl _) (Nat.le_refl _) ⟨rfl, rfl, rfl, rfl, rfl⟩
theorem pq_le {s c : Nat} (hs : s < 5) (hc : c < 5) : pb s + 53 ≤ 268 ∧ pq s c = pb s + (3 + 10 * c) := by
  refine ⟨?_, rfl⟩
  unfold pb
  split <;> omega
theorem c_X1 {s c : Nat} (hs : s < 5) (hc : c < 5) : Ok l yX1_init cX1_init 2 none 1 1 64 [.ref (pq s c + 8), .ref (pb s + 1)] I L R (pq s c + 9) (eqP none I L (stR (stR R (pq s c + 8) 1 (some (pq s c + 9))) (pq s c + 8) 0 (some (pb s + 1))) (pq s c + 10)) := by
  obtain ⟨h1, h2⟩ := pq_le hs hc
  refine Ok.ofV [some (.ref (pq s c + 8)), some (.ref (pb s + 1))] rfl (by decide) (Nat.le_of_ble_eq_true rfl) ?_
  refine v_aload_n (pc' := 1) dX1_init_0 rfl rfl ?_
  refine v_objInit (pc' := 4) dX1_init_1 rfl ci_X1_3 oi_inst oi_code (by decide) (by decide) ?_
  refine v_aload_n (pc' := 5) dX1_init_4 rfl rfl ?_
  refine v_bipush (v := nI 64) (pc' := 7) dX1_init_5 rfl (by decide) ?_
  refine v_newI (pc' := 9) dX1_init_7 rfl ar_int ((kp_counts hs hc).1) rfl (by decide) (by omega) (by first | rfl | (simp [scp, scv]; done) | (simp [scp, scv]; omega)) (by decide) (by decide) ?_
  refine v_putR (pc' := 12) dX1_init_9 rfl gf_X1_9 pf_X1_9 (kpn (kp_F hs hc) (by omega)) rfl (Or.inr rfl) (by omega) (by omega) (fun _ => rfl) (fun _ => rfl) ?_
  refine v_aload_n (pc' := 13) dX1_init_12 rfl rfl ?_
  refine v_aload_n (pc' := 14) dX1_init_13 rfl rfl ?_
  refine v_putR (pc' := 17) dX1_init_14 rfl gf_X1_15 pf_X1_15 (kpn (kp_F hs hc) (by omega)) rfl (Or.inr rfl) (by omega) (by omega) (fun _ => rfl) (fun _ => rfl) ?_
  exact v_vret dX1_init_17 rfl (Nat.le_refl _) (Nat.le_refl _) ⟨rfl, rfl, rfl, rfl, rfl⟩
theorem c_X6 {p g gp : Nat} (kW : KP 287 p (6, g, 0, 0, 0)) (kWp : KP 287 (p + 1) (9, gp, 0, 0, 5)) : Ok l yX6_init cX6_init 1 none 1 1 5 [.ref p] I L R (p + 1) (eqP none (stI (stI (stI (stI I g 0 (nI 0)) g 1 (nI 5)) g 2 (nI 0)) g 3 (nI 0)) L (stR R p 0 (some (p + 1))) (p + 2)) := by
  have h1 := kWp.2.2.1
  refine Ok.ofV [some (.ref p)] rfl (by decide) (Nat.le_of_ble_eq_true rfl) ?_
  refine v_aload_n (pc' := 1) dX6_init_0 rfl rfl ?_
  refine v_objInit (pc' := 4) dX6_init_1 rfl ci_X6_3 oi_inst oi_code (by decide) (by decide) ?_
  refine v_aload_n (pc' := 5) dX6_init_4 rfl rfl ?_
  refine v_iconst (v := nI 5) (pc' := 6) dX6_init_5 rfl (by decide) ?_
  refine v_newI (pc' := 8) dX6_init_6 rfl ar_int (kWp.1) rfl (by decide) (by omega) (by first | rfl | (simp [scp, scv]; done) | (simp [scp, scv]; omega)) (by decide) (by decide) ?_
  refine v_putR (pc' := 11) dX6_init_8 rfl gf_X6_9 pf_X6_9 (kpn kW (by omega)) rfl (Or.inr rfl) (by omega) (by omega) (fun _ => rfl) (fun _ => rfl) ?_
  refine v_aload_n (pc' := 12) dX6_init_11 rfl rfl ?_
  refine v_iconst (v := nI 0) (pc' := 13) dX6_init_12 rfl (by decide) ?_
  refine v_pI (o := 0) (pc' := 16) dX6_init_13 rfl gf_X6_15 pf_X6_15 (kpn kW (by omega)) rfl rfl (Or.inl rfl) rfl rfl ?_
  refine v_aload_n (pc' := 17) dX6_init_16 rfl rfl ?_
  refine v_iconst (v := nI 5) (pc' := 18) dX6_init_17 rfl (by decide) ?_
  refine v_pI (o := 1) (pc' := 21) dX6_init_18 rfl gf_X6_19 pf_X6_19 (kpn kW (by omega)) rfl rfl (Or.inl rfl) rfl rfl ?_
  refine v_aload_n (pc' := 22) dX6_init_21 rfl rfl ?_
  refine v_iconst (v := nI 0) (pc' := 23) dX6_init_22 rfl (by decide) ?_
  refine v_pI (o := 2) (pc' := 26) dX6_init_23 rfl gf_X6_22 pf_X6_22 (kpn kW (by omega)) rfl rfl (Or.inl rfl) rfl rfl ?_
  refine v_aload_n (pc' := 27) dX6_init_26 rfl rfl ?_
  refine v_iconst (v := nI 0) (pc' := 28) dX6_init_27 rfl (by decide) ?_
  refine v_pI (o := 3) (pc' := 31) dX6_init_28 rfl gf_X6_25 pf_X6_25 (kpn kW (by omega)) rfl rfl (Or.inl rfl) rfl rfl ?_
  exact v_vret dX6_init_31 rfl (Nat.le_refl _) (Nat.le_refl _) ⟨rfl, rfl, rfl, rfl, rfl⟩
theorem c_X5 : Ok l yX5_init cX5_init 1 none 1 3 300 [.ref 268] I L R (269) (eqP none (stI (stI (stI (stI (stI I 5 0 (nI 0)) 5 1 (nI 0)) 5 2 (nI 0)) 5 3 (nI 0)) 5 4 (nI 0)) L (stR (stR (stR R 268 0 (some 269)) 268 2 (some 270)) 268 3 (some 271)) (272)) := by
  refine Ok.ofV [some (.ref 268)] rfl (by decide) (Nat.le_of_ble_eq_true rfl) ?_
  refine v_aload_n (pc' := 1) dX5_init_0 rfl rfl ?_
  refine v_objInit (pc' := 4) dX5_init_1 rfl ci_X5_3 oi_inst oi_code (by decide) (by decide) ?_
  refine v_aload_n (pc' := 5) dX5_init_4 rfl rfl ?_
  refine v_bipush (v := nI 100) (pc' := 7) dX5_init_5 rfl (by decide) ?_
  refine v_newI (pc' := 9) dX5_init_7 rfl ar_int (kp_codes.1) rfl (by decide) (by omega) (by first | rfl | (simp [scp, scv]; done) | (simp [scp, scv]; omega)) (by decide) (by decide) ?_
  refine v_putR (pc' := 12) dX5_init_9 rfl gf_X5_11 pf_X5_11 (kpn kp_X (by omega)) rfl (Or.inr rfl) (by omega) (by omega) (fun _ => rfl) (fun _ => rfl) ?_
  refine v_aload_n (pc' := 13) dX5_init_12 rfl rfl ?_
  refine v_iconst (v := nI 0) (pc' := 14) dX5_init_13 rfl (by decide) ?_
  refine v_pI (o := 0) (pc' := 17) dX5_init_14 rfl gf_X5_15 pf_X5_15 (kpn kp_X (by omega)) rfl rfl (Or.inl rfl) rfl rfl ?_
  refine v_aload_n (pc' := 18) dX5_init_17 rfl rfl ?_
  refine v_bipush (v := nI 100) (pc' := 20) dX5_init_18 rfl (by decide) ?_
  refine v_newI (pc' := 22) dX5_init_20 rfl ar_int (kp_askedCaches.1) rfl (by decide) (by omega) (by first | rfl | (simp [scp, scv]; done) | (simp [scp, scv]; omega)) (by decide) (by decide) ?_
  refine v_putR (pc' := 25) dX5_init_22 rfl gf_X5_19 pf_X5_19 (kpn kp_X (by omega)) rfl (Or.inr rfl) (by omega) (by omega) (fun _ => rfl) (fun _ => rfl) ?_
  refine v_aload_n (pc' := 26) dX5_init_25 rfl rfl ?_
  refine v_bipush (v := nI 100) (pc' := 28) dX5_init_26 rfl (by decide) ?_
  refine v_newI (pc' := 30) dX5_init_28 rfl ar_int (kp_askedObjects.1) rfl (by decide) (by omega) (by first | rfl | (simp [scp, scv]; done) | (simp [scp, scv]; omega)) (by decide) (by decide) ?_
  refine v_putR (pc' := 33) dX5_init_30 rfl gf_X5_22 pf_X5_22 (kpn kp_X (by omega)) rfl (Or.inr rfl) (by omega) (by omega) (fun _ => rfl) (fun _ => rfl) ?_
  refine v_aload_n (pc' := 34) dX5_init_33 rfl rfl ?_
  refine v_iconst (v := nI 0) (pc' := 35) dX5_init_34 rfl (by decide) ?_
  refine v_pI (o := 1) (pc' := 38) dX5_init_35 rfl gf_X5_25 pf_X5_25 (kpn kp_X (by omega)) rfl rfl (Or.inl rfl) rfl rfl ?_
  refine v_aload_n (pc' := 39) dX5_init_38 rfl rfl ?_
  refine v_iconst (v := nI 0) (pc' := 40) dX5_init_39 rfl (by decide) ?_
  refine v_pI (o := 2) (pc' := 43) dX5_init_40 rfl gf_X5_28 pf_X5_28 (kpn kp_X (by omega)) rfl rfl (Or.inl rfl) rfl rfl ?_
  refine v_aload_n (pc' := 44) dX5_init_43 rfl rfl ?_
  refine v_iconst (v := nI 0) (pc' := 45) dX5_init_44 rfl (by decide) ?_
  refine v_pI (o := 3) (pc' := 48) dX5_init_45 rfl gf_X5_31 pf_X5_31 (kpn kp_X (by omega)) rfl rfl (Or.inl rfl) rfl rfl ?_
  refine v_aload_n (pc' := 49) dX5_init_48 rfl rfl ?_
  refine v_iconst (v := nI 0) (pc' := 50) dX5_init_49 rfl (by decide) ?_
  refine v_pI (o := 4) (pc' := 53) dX5_init_50 rfl gf_X5_34 pf_X5_34 (kpn kp_X (by omega)) rfl rfl (Or.inl rfl) rfl rfl ?_
  exact v_vret dX5_init_53 rfl (Nat.le_refl _) (Nat.le_refl _) ⟨rfl, rfl, rfl, rfl, rfl⟩
end B49
