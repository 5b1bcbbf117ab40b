/-! ===== constructors ===== -/
theorem kpn {n p : Nat} {K : KD} (h : KP 287 p K) (hn : p < n) : KP n p K := ⟨h.1, hn, h.2.2⟩
theorem dfX0 : ∀ j, j < 13 → defaultValue (tyX0 j) = dfl 0 j := by decide +kernel
theorem dfX1 : ∀ j, j < 2 → defaultValue (tyX1 j) = dfl 1 j := by decide +kernel
theorem dfX2 : ∀ j, j < 2 → defaultValue (tyX2 j) = dfl 2 j := by decide +kernel
theorem dfX3 : ∀ j, j < 2 → defaultValue (tyX3 j) = dfl 3 j := by decide +kernel
theorem dfX4 : ∀ j, j < 6 → defaultValue (tyX4 j) = dfl 4 j := by decide +kernel
theorem dfX5 : ∀ j, j < 8 → defaultValue (tyX5 j) = dfl 5 j := by decide +kernel
theorem dfX6 : ∀ j, j < 5 → defaultValue (tyX6 j) = dfl 6 j := by decide +kernel
theorem dfX7 : ∀ j, j < 7 → defaultValue (tyX7 j) = dfl 7 j := by decide +kernel
theorem dfX8 : ∀ j, j < 16 → defaultValue (tyX8 j) = dfl 8 j := by decide +kernel
section B49
variable {l : Launch} {I : MI} {L : ML} {R : MR}
theorem c_X3 {p g n : Nat} (kS : KP 287 p (3, g, 0, 0, 0)) (hn : p < n) : Ok l yX3_init cX3_init 1 none 1 0 0 [.ref p] I L R (n) (eqP none (stI (stI I g 0 (nI 32)) g 1 (nI 2)) L R (n)) := by
  refine Ok.ofV [some (.ref p)] rfl (by decide) (Nat.le_of_ble_eq_true rfl) ?_
  refine v_aload_n (pc' := 1) dX3_init_0 rfl rfl ?_
  refine v_objInit (pc' := 4) dX3_init_1 rfl ci_X3_3 oi_inst oi_code (by decide) (by decide) ?_
  refine v_aload_n (pc' := 5) dX3_init_4 rfl rfl ?_
  refine v_bipush (v := nI 32) (pc' := 7) dX3_init_5 rfl (by decide) ?_
  refine v_pI (o := 0) (pc' := 10) dX3_init_7 rfl gf_X3_9 pf_X3_9 (kpn kS (by omega)) rfl rfl (Or.inl rfl) rfl rfl ?_
  refine v_aload_n (pc' := 11) dX3_init_10 rfl rfl ?_
  refine v_iconst (v := nI 2) (pc' := 12) dX3_init_11 rfl (by decide) ?_
  refine v_pI (o := 1) (pc' := 15) dX3_init_12 rfl gf_X3_15 pf_X3_15 (kpn kS (by omega)) rfl rfl (Or.inl rfl) rfl rfl ?_
  exact v_vret dX3_init_15 rfl (Nat.le_refl _) (Nat.le_refl _) ⟨rfl, rfl, rfl, rfl, rfl⟩
theorem pq_le {s c : Nat} (hs : s < 5) (hc : c < 5) : pb s + 53 ≤ 268 ∧ pq s c = pb s + (3 + 10 * c) := by
  refine ⟨?_, rfl⟩
  unfold pb
  split <;> omega
theorem c_X1 {s c : Nat} (hs : s < 5) (hc : c < 5) : Ok l yX1_init cX1_init 2 none 1 1 64 [.ref (pq s c + 8), .ref (pb s + 1)] I L R (pq s c + 9) (eqP none I L (stR (stR R (pq s c + 8) 1 (some (pq s c + 9))) (pq s c + 8) 0 (some (pb s + 1))) (pq s c + 10)) := by
  obtain ⟨h1, h2⟩ := pq_le hs hc
  refine Ok.ofV [some (.ref (pq s c + 8)), some (.ref (pb s + 1))] rfl (by decide) (Nat.le_of_ble_eq_true rfl) ?_
  refine v_aload_n (pc' := 1) dX1_init_0 rfl rfl ?_
  refine v_objInit (pc' := 4) dX1_init_1 rfl ci_X1_3 oi_inst oi_code (by decide) (by decide) ?_
  refine v_aload_n (pc' := 5) dX1_init_4 rfl rfl ?_
  refine v_bipush (v := nI 64) (pc' := 7) dX1_init_5 rfl (by decide) ?_
  refine v_newI (pc' := 9) dX1_init_7 rfl ar_int ((kp_counts hs hc).1) rfl (by decide) (by omega) (by first | rfl | (simp [scp, scv]; done) | (simp [scp, scv]; omega)) (by decide) (by decide) ?_
  refine v_putR (pc' := 12) dX1_init_9 rfl gf_X1_9 pf_X1_9 (kpn (kp_F hs hc) (by omega)) rfl (Or.inr rfl) (by omega) (by omega) (fun _ => rfl) (fun _ => rfl) ?_
  refine v_aload_n (pc' := 13) dX1_init_12 rfl rfl ?_
  refine v_aload_n (pc' := 14) dX1_init_13 rfl rfl ?_
  refine v_putR (pc' := 17) dX1_init_14 rfl gf_X1_15 pf_X1_15 (kpn (kp_F hs hc) (by omega)) rfl (Or.inr rfl) (by omega) (by omega) (fun _ => rfl) (fun _ => rfl) ?_
  exact v_vret dX1_init_17 rfl (Nat.le_refl _) (Nat.le_refl _) ⟨rfl, rfl, rfl, rfl, rfl⟩
theorem c_X6 {p g gp : Nat} (kW : KP 287 p (6, g, 0, 0, 0)) (kWp : KP 287 (p + 1) (9, gp, 0, 0, 5)) : Ok l yX6_init cX6_init 1 none 1 1 5 [.ref p] I L R (p + 1) (eqP none (stI (stI (stI (stI I g 0 (nI 0)) g 1 (nI 5)) g 2 (nI 0)) g 3 (nI 0)) L (stR R p 0 (some (p + 1))) (p + 2)) := by
  have h1 := kWp.2.2.1
  refine Ok.ofV [some (.ref p)] rfl (by decide) (Nat.le_of_ble_eq_true rfl) ?_
  refine v_aload_n (pc' := 1) dX6_init_0 rfl rfl ?_
  refine v_objInit (pc' := 4) dX6_init_1 rfl ci_X6_3 oi_inst oi_code (by decide) (by decide) ?_
  refine v_aload_n (pc' := 5) dX6_init_4 rfl rfl ?_
  refine v_iconst (v := nI 5) (pc' := 6) dX6_init_5 rfl (by decide) ?_
  refine v_newI (pc' := 8) dX6_init_6 rfl ar_int (kWp.1) rfl (by decide) (by omega) (by first | rfl | (simp [scp, scv]; done) | (simp [scp, scv]; omega)) (by decide) (by decide) ?_
  refine v_putR (pc' := 11) dX6_init_8 rfl gf_X6_9 pf_X6_9 (kpn kW (by omega)) rfl (Or.inr rfl) (by omega) (by omega) (fun _ => rfl) (fun _ => rfl) ?_
  refine v_aload_n (pc' := 12) dX6_init_11 rfl rfl ?_
  refine v_iconst (v := nI 0) (pc' := 13) dX6_init_12 rfl (by decide) ?_
  refine v_pI (o := 0) (pc' := 16) dX6_init_13 rfl gf_X6_15 pf_X6_15 (kpn kW (by omega)) rfl rfl (Or.inl rfl) rfl rfl ?_
  refine v_aload_n (pc' := 17) dX6_init_16 rfl rfl ?_
  refine v_iconst (v := nI 5) (pc' := 18) dX6_init_17 rfl (by decide) ?_
  refine v_pI (o := 1) (pc' := 21) dX6_init_18 rfl gf_X6_19 pf_X6_19 (kpn kW (by omega)) rfl rfl (Or.inl rfl) rfl rfl ?_
  refine v_aload_n (pc' := 22) dX6_init_21 rfl rfl ?_
  refine v_iconst (v := nI 0) (pc' := 23) dX6_init_22 rfl (by decide) ?_
  refine v_pI (o := 2) (pc' := 26) dX6_init_23 rfl gf_X6_22 pf_X6_22 (kpn kW (by omega)) rfl rfl (Or.inl rfl) rfl rfl ?_
  refine v_aload_n (pc' := 27) dX6_init_26 rfl rfl ?_
  refine v_iconst (v := nI 0) (pc' := 28) dX6_init_27 rfl (by decide) ?_
  refine v_pI (o := 3) (pc' := 31) dX6_init_28 rfl gf_X6_25 pf_X6_25 (kpn kW (by omega)) rfl rfl (Or.inl rfl) rfl rfl ?_
  exact v_vret dX6_init_31 rfl (Nat.le_refl _) (Nat.le_refl _) ⟨rfl, rfl, rfl, rfl, rfl⟩
theorem c_X5 : Ok l yX5_init cX5_init 1 none 1 3 300 [.ref 268] I L R (269) (eqP none (stI (stI (stI (stI (stI I 5 0 (nI 0)) 5 1 (nI 0)) 5 2 (nI 0)) 5 3 (nI 0)) 5 4 (nI 0)) L (stR (stR (stR R 268 0 (some 269)) 268 2 (some 270)) 268 3 (some 271)) (272)) := by
  refine Ok.ofV [some (.ref 268)] rfl (by decide) (Nat.le_of_ble_eq_true rfl) ?_
  refine v_aload_n (pc' := 1) dX5_init_0 rfl rfl ?_
  refine v_objInit (pc' := 4) dX5_init_1 rfl ci_X5_3 oi_inst oi_code (by decide) (by decide) ?_
  refine v_aload_n (pc' := 5) dX5_init_4 rfl rfl ?_
  refine v_bipush (v := nI 100) (pc' := 7) dX5_init_5 rfl (by decide) ?_
  refine v_newI (pc' := 9) dX5_init_7 rfl ar_int (kp_codes.1) rfl (by decide) (by omega) (by first | rfl | (simp [scp, scv]; done) | (simp [scp, scv]; omega)) (by decide) (by decide) ?_
  refine v_putR (pc' := 12) dX5_init_9 rfl gf_X5_11 pf_X5_11 (kpn kp_X (by omega)) rfl (Or.inr rfl) (by omega) (by omega) (fun _ => rfl) (fun _ => rfl) ?_
  refine v_aload_n (pc' := 13) dX5_init_12 rfl rfl ?_
  refine v_iconst (v := nI 0) (pc' := 14) dX5_init_13 rfl (by decide) ?_
  refine v_pI (o := 0) (pc' := 17) dX5_init_14 rfl gf_X5_15 pf_X5_15 (kpn kp_X (by omega)) rfl rfl (Or.inl rfl) rfl rfl ?_
  refine v_aload_n (pc' := 18) dX5_init_17 rfl rfl ?_
  refine v_bipush (v := nI 100) (pc' := 20) dX5_init_18 rfl (by decide) ?_
  refine v_newI (pc' := 22) dX5_init_20 rfl ar_int (kp_askedCaches.1) rfl (by decide) (by omega) (by first | rfl | (simp [scp, scv]; done) | (simp [scp, scv]; omega)) (by decide) (by decide) ?_
  refine v_putR (pc' := 25) dX5_init_22 rfl gf_X5_19 pf_X5_19 (kpn kp_X (by omega)) rfl (Or.inr rfl) (by omega) (by omega) (fun _ => rfl) (fun _ => rfl) ?_
  refine v_aload_n (pc' := 26) dX5_init_25 rfl rfl ?_
  refine v_bipush (v := nI 100) (pc' := 28) dX5_init_26 rfl (by decide) ?_
  refine v_newI (pc' := 30) dX5_init_28 rfl ar_int (kp_askedObjects.1) rfl (by decide) (by omega) (by first | rfl | (simp [scp, scv]; done) | (simp [scp, scv]; omega)) (by decide) (by decide) ?_
  refine v_putR (pc' := 33) dX5_init_30 rfl gf_X5_22 pf_X5_22 (kpn kp_X (by omega)) rfl (Or.inr rfl) (by omega) (by omega) (fun _ => rfl) (fun _ => rfl) ?_
  refine v_aload_n (pc' := 34) dX5_init_33 rfl rfl ?_
  refine v_iconst (v := nI 0) (pc' := 35) dX5_init_34 rfl (by decide) ?_
  refine v_pI (o := 1) (pc' := 38) dX5_init_35 rfl gf_X5_25 pf_X5_25 (kpn kp_X (by omega)) rfl rfl (Or.inl rfl) rfl rfl ?_
  refine v_aload_n (pc' := 39) dX5_init_38 rfl rfl ?_
  refine v_iconst (v := nI 0) (pc' := 40) dX5_init_39 rfl (by decide) ?_
  refine v_pI (o := 2) (pc' := 43) dX5_init_40 rfl gf_X5_28 pf_X5_28 (kpn kp_X (by omega)) rfl rfl (Or.inl rfl) rfl rfl ?_
  refine v_aload_n (pc' := 44) dX5_init_43 rfl rfl ?_
  refine v_iconst (v := nI 0) (pc' := 45) dX5_init_44 rfl (by decide) ?_
  refine v_pI (o := 3) (pc' := 48) dX5_init_45 rfl gf_X5_31 pf_X5_31 (kpn kp_X (by omega)) rfl rfl (Or.inl rfl) rfl rfl ?_
  refine v_aload_n (pc' := 49) dX5_init_48 rfl rfl ?_
  refine v_iconst (v := nI 0) (pc' := 50) dX5_init_49 rfl (by decide) ?_
  refine v_pI (o := 4) (pc' := 53) dX5_init_50 rfl gf_X5_34 pf_X5_34 (kpn kp_X (by omega)) rfl rfl (Or.inl rfl) rfl rfl ?_
  exact v_vret dX5_init_53 rfl (Nat.le_refl _) (Nat.le_refl _) ⟨rfl, rfl, rfl, rfl, rfl⟩
def dsI (c d : Nat) : Int32 := if 0 ≤ nI c - nI d then nI c - nI d else 0 - (nI c - nI d)
def lkI (s c : Nat) : Nat → MI → MI
  | 0, I => I
  | d + 1, I => stI (stI (lkI s c d I) s (96 + 110 * c + d) (nI 1)) s (101 + 110 * c + d) (dsI c d)
def iC (s c : Nat) (I : MI) : MI := lkI s c 5 (stI (stI (stI I s (7 + 110 * c) (nI 0)) s (6 + 110 * c) (nI 8)) s (88 + 110 * c) (nI 0))
def rC (a h : Nat) (R : MR) : MR := stR (stR (stR (stR (stR (stR (stR (stR (stR (stR (stR R a 2 (some (a + 1))) a 7 (some (a + 2))) a 8 (some (a + 3))) a 9 (some (a + 4))) a 10 (some (a + 5))) a 11 (some (a + 6))) a 12 (some (a + 7))) a 0 (some h)) (a + 8) 1 (some (a + 9))) (a + 8) 0 (some h)) a 1 (some (a + 8))
theorem c_X0 {s c : Nat} (hs : s < 5) (hc : c < 5) : Ok l yX0_init cX0_init 4 none 2 9 114 [.ref (pq s c), .ref (pb s + 1), .int (nI c)] I L R (pq s c + 1) (eqP none (iC s c I) (stL L s c 0) (rC (pq s c) (pb s + 1) R) (pq s c + 10)) := by
  obtain ⟨h1, h2⟩ := pq_le hs hc
  have hl1 : rC (pq s c) (pb s + 1) R (pq s c) 11 = some (pq s c + 6) ∧ pq s c + 6 < 1000 := ⟨by simp [rC, stR, va_up], by omega⟩
  have hl2 : rC (pq s c) (pb s + 1) R (pq s c) 12 = some (pq s c + 7) ∧ pq s c + 7 < 1000 := ⟨by simp [rC, stR, va_up], by omega⟩
  refine Ok.ofV [some (.ref (pq s c)), some (.ref (pb s + 1)), some (.int (nI c)), none] rfl (by decide) (Nat.le_of_ble_eq_true rfl) ?_
  have key : ∀ k d, d + k = 5 → V l yX0_init cX0_init 4 none (rmd 2 9 114) (QM 9 114 (eqP none (iC s c I) (stL L s c 0) (rC (pq s c) (pb s + 1) R) (pq s c + 10))) (fun _ _ => True) 95 [some (.ref (pq s c)), some (.ref (pb s + 1)), some (.int (nI c)), some (.int (nI d))] [] (lkI s c d (stI (stI (stI I s (7 + 110 * c) (nI 0)) s (6 + 110 * c) (nI 8)) s (88 + 110 * c) (nI 0))) (stL L s c 0) (rC (pq s c) (pb s + 1) R) (pq s c + 10) 9 114 := by
    intro k
    induction k with
    | zero =>
      intro d hd
      obtain rfl : d = 5 := by omega
      refine v_iload_n (pc' := 96) dX0_init_95 rfl rfl ?_
      refine v_iconst (v := nI 5) (pc' := 97) dX0_init_96 rfl (by decide) ?_
      refine v_icmp_ge (pc' := 100) (tgt := 125) dX0_init_97 rfl (by decide) (fun hb => ?_) (fun hb => ?_)
      · exact v_vret dX0_init_125 rfl (Nat.le_refl _) (Nat.le_refl _) ⟨rfl, rfl, rfl, rfl, rfl⟩
      · exact absurd hb (by decide)
    | succ k ih =>
      intro d hd
      refine v_iload_n (pc' := 96) dX0_init_95 rfl rfl ?_
      refine v_iconst (v := nI 5) (pc' := 97) dX0_init_96 rfl (by decide) ?_
      refine v_icmp_ge (pc' := 100) (tgt := 125) dX0_init_97 rfl (by decide) (fun hb => ?_) (fun hb => ?_)
      · exact absurd hb (nI_ge (by omega) (by omega))
      · refine v_aload_n (pc' := 101) dX0_init_100 rfl rfl ?_
        refine v_getQ (pc' := 104) dX0_init_101 rfl gf_X0_42 (kpn (kp_C hs hc) (by omega)) rfl hl1 ?_
        refine v_iload_n (pc' := 105) dX0_init_104 rfl rfl ?_
        refine v_iconst (v := nI 1) (pc' := 106) dX0_init_105 rfl (by decide) ?_
        refine v_ias (pc' := 107) dX0_init_106 rfl (kpn (kp_links hs hc) (by omega)) rfl rfl (by omega) ?_
        refine v_aload_n (pc' := 108) dX0_init_107 rfl rfl ?_
        refine v_getQ (pc' := 111) dX0_init_108 rfl gf_X0_45 (kpn (kp_C hs hc) (by omega)) rfl hl2 ?_
        refine v_iload_n (pc' := 112) dX0_init_111 rfl rfl ?_
        refine v_iload_n (pc' := 113) dX0_init_112 rfl rfl ?_
        refine v_iload_n (pc' := 114) dX0_init_113 rfl rfl ?_
        refine v_isub (pc' := 115) dX0_init_114 rfl ?_
        refine v_abs (pc' := 118) dX0_init_115 rfl ab_X0_61 ab_stat ab_init ab_code (Nat.le_of_ble_eq_true rfl) (by decide) (by decide) (by decide) ?_
        refine v_ias (pc' := 119) dX0_init_118 rfl (kpn (kp_distances hs hc) (by omega)) rfl rfl (by omega) ?_
        refine v_iinc3 (pc' := 122) dX0_init_119 rfl (by decide) rfl (inc_nI _) ?_
        refine v_goto (tgt := 95) dX0_init_122 (by decide) ?_
        exact ih (d + 1) (by omega)
  refine v_aload_n (pc' := 1) dX0_init_0 rfl rfl ?_
  refine v_objInit (pc' := 4) dX0_init_1 rfl ci_X0_3 oi_inst oi_code (by decide) (by decide) ?_
  refine v_aload_n (pc' := 5) dX0_init_4 rfl rfl ?_
  refine v_bipush (v := nI 16) (pc' := 7) dX0_init_5 rfl (by decide) ?_
  refine v_newI (pc' := 9) dX0_init_7 rfl ar_int ((kp_objects hs hc).1) rfl (by decide) (by omega) (by first | rfl | (simp [scp, scv]; done) | (simp [scp, scv]; omega)) (by decide) (by decide) ?_
  refine v_putR (pc' := 12) dX0_init_9 rfl gf_X0_9 pf_X0_9 (kpn (kp_C hs hc) (by omega)) rfl (Or.inr rfl) (by omega) (by omega) (fun _ => rfl) (fun _ => rfl) ?_
  refine v_aload_n (pc' := 13) dX0_init_12 rfl rfl ?_
  refine v_iconst (v := nI 0) (pc' := 14) dX0_init_13 rfl (by decide) ?_
  refine v_pI (o := 7 + 110 * c) (pc' := 17) dX0_init_14 rfl gf_X0_15 pf_X0_15 (kpn (kp_C hs hc) (by omega)) rfl (by omega) (Or.inl rfl) rfl rfl ?_
  refine v_aload_n (pc' := 18) dX0_init_17 rfl rfl ?_
  refine v_bipush (v := nI 8) (pc' := 20) dX0_init_18 rfl (by decide) ?_
  refine v_pI (o := 6 + 110 * c) (pc' := 23) dX0_init_20 rfl gf_X0_19 pf_X0_19 (kpn (kp_C hs hc) (by omega)) rfl (Nat.add_zero _) (Or.inl rfl) rfl rfl ?_
  refine v_aload_n (pc' := 24) dX0_init_23 rfl rfl ?_
  refine v_iconst (v := nI 0) (pc' := 25) dX0_init_24 rfl (by decide) ?_
  refine v_pI (o := 88 + 110 * c) (pc' := 28) dX0_init_25 rfl gf_X0_22 pf_X0_22 (kpn (kp_C hs hc) (by omega)) rfl (by omega) (Or.inl rfl) rfl rfl ?_
  refine v_aload_n (pc' := 29) dX0_init_28 rfl rfl ?_
  refine v_lconst (v := 0) (pc' := 30) dX0_init_29 rfl (by decide) ?_
  refine v_pL (o := c) (pc' := 33) dX0_init_30 rfl gf_X0_25 pf_X0_25 (kpn (kp_C hs hc) (by omega)) rfl (Nat.add_zero _) (Or.inl rfl) rfl rfl ?_
  refine v_aload_n (pc' := 34) dX0_init_33 rfl rfl ?_
  refine v_bipush (v := nI 7) (pc' := 36) dX0_init_34 rfl (by decide) ?_
  refine v_newI (pc' := 38) dX0_init_36 rfl ar_int ((kp_tallies hs hc).1) rfl (by decide) (by omega) (by first | rfl | (simp [scp, scv]; done) | (simp [scp, scv]; omega)) (by decide) (by decide) ?_
  refine v_putR (pc' := 41) dX0_init_38 rfl gf_X0_29 pf_X0_29 (kpn (kp_C hs hc) (by omega)) rfl (Or.inr rfl) (by omega) (by omega) (fun _ => rfl) (fun _ => rfl) ?_
  refine v_aload_n (pc' := 42) dX0_init_41 rfl rfl ?_
  refine v_iconst (v := nI 5) (pc' := 43) dX0_init_42 rfl (by decide) ?_
  refine v_newL (pc' := 45) dX0_init_43 rfl ar_long ((kp_copyMasks hs hc).1) rfl (by decide) (by omega) (by first | rfl | (simp [scp, scv]; done) | (simp [scp, scv]; omega)) (by decide) (by decide) ?_
  refine v_putR (pc' := 48) dX0_init_45 rfl gf_X0_32 pf_X0_32 (kpn (kp_C hs hc) (by omega)) rfl (Or.inr rfl) (by omega) (by omega) (fun _ => rfl) (fun _ => rfl) ?_
  refine v_aload_n (pc' := 49) dX0_init_48 rfl rfl ?_
  refine v_iconst (v := nI 5) (pc' := 50) dX0_init_49 rfl (by decide) ?_
  refine v_newI (pc' := 52) dX0_init_50 rfl ar_int ((kp_copyVersions hs hc).1) rfl (by decide) (by omega) (by first | rfl | (simp [scp, scv]; done) | (simp [scp, scv]; omega)) (by decide) (by decide) ?_
  refine v_putR (pc' := 55) dX0_init_52 rfl gf_X0_36 pf_X0_36 (kpn (kp_C hs hc) (by omega)) rfl (Or.inr rfl) (by omega) (by omega) (fun _ => rfl) (fun _ => rfl) ?_
  refine v_aload_n (pc' := 56) dX0_init_55 rfl rfl ?_
  refine v_iconst (v := nI 5) (pc' := 57) dX0_init_56 rfl (by decide) ?_
  refine v_newI (pc' := 59) dX0_init_57 rfl ar_int ((kp_copyTimes hs hc).1) rfl (by decide) (by omega) (by first | rfl | (simp [scp, scv]; done) | (simp [scp, scv]; omega)) (by decide) (by decide) ?_
  refine v_putR (pc' := 62) dX0_init_59 rfl gf_X0_39 pf_X0_39 (kpn (kp_C hs hc) (by omega)) rfl (Or.inr rfl) (by omega) (by omega) (fun _ => rfl) (fun _ => rfl) ?_
  refine v_aload_n (pc' := 63) dX0_init_62 rfl rfl ?_
  refine v_iconst (v := nI 5) (pc' := 64) dX0_init_63 rfl (by decide) ?_
  refine v_newI (pc' := 66) dX0_init_64 rfl ar_int ((kp_links hs hc).1) rfl (by decide) (by omega) (by first | rfl | (simp [scp, scv]; done) | (simp [scp, scv]; omega)) (by decide) (by decide) ?_
  refine v_putR (pc' := 69) dX0_init_66 rfl gf_X0_42 pf_X0_42 (kpn (kp_C hs hc) (by omega)) rfl (Or.inr rfl) (by omega) (by omega) (fun _ => rfl) (fun _ => rfl) ?_
  refine v_aload_n (pc' := 70) dX0_init_69 rfl rfl ?_
  refine v_iconst (v := nI 5) (pc' := 71) dX0_init_70 rfl (by decide) ?_
  refine v_newI (pc' := 73) dX0_init_71 rfl ar_int ((kp_distances hs hc).1) rfl (by decide) (by omega) (by first | rfl | (simp [scp, scv]; done) | (simp [scp, scv]; omega)) (by decide) (by decide) ?_
  refine v_putR (pc' := 76) dX0_init_73 rfl gf_X0_45 pf_X0_45 (kpn (kp_C hs hc) (by omega)) rfl (Or.inr rfl) (by omega) (by omega) (fun _ => rfl) (fun _ => rfl) ?_
  refine v_aload_n (pc' := 77) dX0_init_76 rfl rfl ?_
  refine v_aload_n (pc' := 78) dX0_init_77 rfl rfl ?_
  refine v_putR (pc' := 81) dX0_init_78 rfl gf_X0_48 pf_X0_48 (kpn (kp_C hs hc) (by omega)) rfl (Or.inr rfl) (by omega) (by omega) (fun _ => rfl) (fun _ => rfl) ?_
  refine v_aload_n (pc' := 82) dX0_init_81 rfl rfl ?_
  refine v_new (t := 1) (pc' := 85) dX0_init_82 rfl cl_X0_52 is_X1 it_X1 ing1 tyX1_ok rfl ((kp_F hs hc).1) (by decide) rfl dfX1 (by omega) (by first | rfl | (simp [scp, scv]; done) | (simp [scp, scv]; omega)) (by decide) (by decide) ?_
  refine v_dup (pc' := 86) dX0_init_85 rfl rfl ?_
  refine v_aload_n (pc' := 87) dX0_init_86 rfl rfl ?_
  refine v_callI (pc' := 90) dX0_init_87 rfl ci_X0_54 (c_X1 hs hc) rfl rfl (Nat.le_of_ble_eq_true rfl) (by decide) (Or.inr (by first | rfl | (simp [scp, scv]; done) | (simp [scp, scv]; omega))) ?_
  refine v_putR (pc' := 93) dX0_init_90 rfl gf_X0_57 pf_X0_57 (kpn (kp_C hs hc) (by omega)) rfl (Or.inr rfl) (by omega) (by omega) (fun _ => rfl) (fun _ => rfl) ?_
  refine v_iconst (v := nI 0) (pc' := 94) dX0_init_93 rfl (by decide) ?_
  refine v_istore_n3 (pc' := 95) dX0_init_94 rfl (by decide) rfl ?_
  exact key 5 0 rfl
theorem rC_o {a h p j : Nat} {R : MR} (h1 : p ≠ a) (h2 : p ≠ a + 8) : rC a h R p j = R p j := by
  simp [rC, stR, va_up, h1, h2]
def iU (s : Nat) (I : MI) : MI := iC s 4 (iC s 3 (iC s 2 (iC s 1 (iC s 0 (stI (stI (stI (stI I s 2 (nI 0)) s 3 (nI 100)) s 4 (nI 1)) s 5 (nI 2))))))
def iT (s : Nat) (I : MI) : MI := iU s (stI (stI I s 0 (nI 32)) s 1 (nI 2))
def lT (s : Nat) (L : ML) : ML := stL (stL (stL (stL (stL L s 0 0) s 1 0) s 2 0) s 3 0) s 4 0
def rK (s : Nat) : Nat → MR → MR
  | 0, R => stR (stR R (pb s) 1 (some (pb s + 2))) (pb s) 0 (some (pb s + 1))
  | c + 1, R => stR (rC (pq s c) (pb s + 1) (rK s c R)) (pb s + 2) c (some (pq s c))
theorem rK_o {s j : Nat} {R : MR} : ∀ c, rK s c R (pb s) j = rK s 0 R (pb s) j := by
  intro c
  induction c with
  | zero => rfl
  | succ c ih =>
    show stR (rC (pq s c) (pb s + 1) (rK s c R)) (pb s + 2) c (some (pq s c)) (pb s) j = _
    rw [stR_ne (fun z => by omega), rC_o (by unfold pq; omega) (by unfold pq; omega), ih]
theorem rK_sh {s c : Nat} (hs : s < 5) {R : MR} : rK s c R (pb s) 0 = some (pb s + 1) ∧ pb s + 1 < 1000 := ⟨by rw [rK_o]; simp [rK, stR, va_up], by have := (pq_le (c := 0) hs (by decide)).1; omega⟩
theorem rK_ca {s c : Nat} (hs : s < 5) {R : MR} : rK s c R (pb s) 1 = some (pb s + 2) ∧ pb s + 2 < 1000 := ⟨by rw [rK_o]; simp [rK, stR, va_up], by have := (pq_le (c := 0) hs (by decide)).1; omega⟩
def rT (s : Nat) (R : MR) : MR := rK s 5 R
theorem c_X4 {s : Nat} (hs : s < 5) : Ok l yX4_init cX4_init 3 none 3 51 640 [.ref (pb s), .ref (pb s + 1)] I L R (pb s + 2) (eqP none (iU s I) (lT s L) (rT s R) (pb s + 53)) := by
  have h1 := (pq_le (c := 0) hs (by decide)).1
  refine Ok.ofV [some (.ref (pb s)), some (.ref (pb s + 1)), none] rfl (by decide) (Nat.le_of_ble_eq_true rfl) ?_
  refine v_aload_n (pc' := 1) dX4_init_0 rfl rfl ?_
  refine v_objInit (pc' := 4) dX4_init_1 rfl ci_X4_3 oi_inst oi_code (by decide) (by decide) ?_
  refine v_aload_n (pc' := 5) dX4_init_4 rfl rfl ?_
  refine v_iconst (v := nI 5) (pc' := 6) dX4_init_5 rfl (by decide) ?_
  refine v_newC (pc' := 9) dX4_init_6 rfl cl_X4_9 ((kp_CA hs).1) rfl (by decide) (by omega) (by first | rfl | (simp [scp, scv]; done) | (simp [scp, scv]; omega)) (by decide) (by decide) ?_
  refine v_putR (pc' := 12) dX4_init_9 rfl gf_X4_11 pf_X4_11 (kpn (kp_T hs) (by omega)) rfl (Or.inr rfl) (by omega) (by omega) (fun _ => rfl) (fun _ => rfl) ?_
  refine v_aload_n (pc' := 13) dX4_init_12 rfl rfl ?_
  refine v_iconst (v := nI 0) (pc' := 14) dX4_init_13 rfl (by decide) ?_
  refine v_pI (o := 2) (pc' := 17) dX4_init_14 rfl gf_X4_17 pf_X4_17 (kpn (kp_T hs) (by omega)) rfl rfl (Or.inl rfl) rfl rfl ?_
  refine v_aload_n (pc' := 18) dX4_init_17 rfl rfl ?_
  refine v_bipush (v := nI 100) (pc' := 20) dX4_init_18 rfl (by decide) ?_
  refine v_pI (o := 3) (pc' := 23) dX4_init_20 rfl gf_X4_21 pf_X4_21 (kpn (kp_T hs) (by omega)) rfl rfl (Or.inl rfl) rfl rfl ?_
  refine v_aload_n (pc' := 24) dX4_init_23 rfl rfl ?_
  refine v_iconst (v := nI 1) (pc' := 25) dX4_init_24 rfl (by decide) ?_
  refine v_pI (o := 4) (pc' := 28) dX4_init_25 rfl gf_X4_24 pf_X4_24 (kpn (kp_T hs) (by omega)) rfl rfl (Or.inl rfl) rfl rfl ?_
  refine v_aload_n (pc' := 29) dX4_init_28 rfl rfl ?_
  refine v_iconst (v := nI 2) (pc' := 30) dX4_init_29 rfl (by decide) ?_
  refine v_pI (o := 5) (pc' := 33) dX4_init_30 rfl gf_X4_28 pf_X4_28 (kpn (kp_T hs) (by omega)) rfl rfl (Or.inl rfl) rfl rfl ?_
  refine v_aload_n (pc' := 34) dX4_init_33 rfl rfl ?_
  refine v_aload_n (pc' := 35) dX4_init_34 rfl rfl ?_
  refine v_putR (pc' := 38) dX4_init_35 rfl gf_X4_31 pf_X4_31 (kpn (kp_T hs) (by omega)) rfl (Or.inr rfl) (by omega) (by omega) (fun _ => rfl) (fun _ => rfl) ?_
  refine v_iconst (v := nI 0) (pc' := 39) dX4_init_38 rfl (by decide) ?_
  refine v_istore_n2 (pc' := 40) dX4_init_39 rfl (by decide) rfl ?_
  have e0 : 0 < 5 := by decide
  have q0 : pq s 0 = pb s + 3 := rfl
  refine v_iload_n (pc' := 41) dX4_init_40 rfl rfl ?_
  refine v_iconst (v := nI 5) (pc' := 42) dX4_init_41 rfl (by decide) ?_
  refine v_icmp_ge (pc' := 45) (tgt := 66) dX4_init_42 rfl (by decide) (fun hb => ?_) (fun hb => ?_)
  · exact absurd hb (by decide)
  refine v_aload_n (pc' := 46) dX4_init_45 rfl rfl ?_
  refine v_getQ (pc' := 49) dX4_init_46 rfl gf_X4_11 (kpn (kp_T hs) (by omega)) rfl (rK_ca (c := 0) (R := R) hs) ?_
  refine v_iload_n (pc' := 50) dX4_init_49 rfl rfl ?_
  refine v_new (t := 0) (pc' := 53) dX4_init_50 rfl cl_X4_9 is_X0 it_X0 ing0 tyX0_ok rfl ((kp_C hs e0).1) (by decide) rfl dfX0 (by omega) (by first | rfl | (simp [scp, scv]; done) | (simp [scp, scv]; omega)) (by decide) (by decide) ?_
  refine v_dup (pc' := 54) dX4_init_53 rfl rfl ?_
  refine v_aload_n (pc' := 55) dX4_init_54 rfl rfl ?_
  refine v_iload_n (pc' := 56) dX4_init_55 rfl rfl ?_
  refine v_callI (pc' := 59) dX4_init_56 rfl ci_X4_35 (c_X0 hs e0) rfl rfl (Nat.le_of_ble_eq_true rfl) (by decide) (Or.inr (by first | rfl | (simp [scp, scv]; done) | (simp [scp, scv]; omega))) ?_
  refine v_aastore (pc' := 60) dX4_init_59 rfl (kpn (kp_CA hs) (by omega)) (kpn (kp_C hs e0) (by omega)) rfl e0 ?_
  refine v_iinc2 (pc' := 63) dX4_init_60 rfl (by decide) rfl (inc_nI _) ?_
  refine v_goto (tgt := 40) dX4_init_63 (by decide) ?_
  have e1 : 1 < 5 := by decide
  have q1 : pq s 1 = pb s + 13 := rfl
  refine v_iload_n (pc' := 41) dX4_init_40 rfl rfl ?_
  refine v_iconst (v := nI 5) (pc' := 42) dX4_init_41 rfl (by decide) ?_
  refine v_icmp_ge (pc' := 45) (tgt := 66) dX4_init_42 rfl (by decide) (fun hb => ?_) (fun hb => ?_)
  · exact absurd hb (by decide)
  refine v_aload_n (pc' := 46) dX4_init_45 rfl rfl ?_
  refine v_getQ (pc' := 49) dX4_init_46 rfl gf_X4_11 (kpn (kp_T hs) (by omega)) rfl (rK_ca (c := 1) (R := R) hs) ?_
  refine v_iload_n (pc' := 50) dX4_init_49 rfl rfl ?_
  refine v_new (t := 0) (pc' := 53) dX4_init_50 rfl cl_X4_9 is_X0 it_X0 ing0 tyX0_ok rfl ((kp_C hs e1).1) (by decide) rfl dfX0 (by omega) (by first | rfl | (simp [scp, scv]; done) | (simp [scp, scv]; omega)) (by decide) (by decide) ?_
  refine v_dup (pc' := 54) dX4_init_53 rfl rfl ?_
  refine v_aload_n (pc' := 55) dX4_init_54 rfl rfl ?_
  refine v_iload_n (pc' := 56) dX4_init_55 rfl rfl ?_
  refine v_callI (pc' := 59) dX4_init_56 rfl ci_X4_35 (c_X0 hs e1) rfl rfl (Nat.le_of_ble_eq_true rfl) (by decide) (Or.inr (by first | rfl | (simp [scp, scv]; done) | (simp [scp, scv]; omega))) ?_
  refine v_aastore (pc' := 60) dX4_init_59 rfl (kpn (kp_CA hs) (by omega)) (kpn (kp_C hs e1) (by omega)) rfl e1 ?_
  refine v_iinc2 (pc' := 63) dX4_init_60 rfl (by decide) rfl (inc_nI _) ?_
  refine v_goto (tgt := 40) dX4_init_63 (by decide) ?_
  have e2 : 2 < 5 := by decide
  have q2 : pq s 2 = pb s + 23 := rfl
  refine v_iload_n (pc' := 41) dX4_init_40 rfl rfl ?_
  refine v_iconst (v := nI 5) (pc' := 42) dX4_init_41 rfl (by decide) ?_
  refine v_icmp_ge (pc' := 45) (tgt := 66) dX4_init_42 rfl (by decide) (fun hb => ?_) (fun hb => ?_)
  · exact absurd hb (by decide)
  refine v_aload_n (pc' := 46) dX4_init_45 rfl rfl ?_
  refine v_getQ (pc' := 49) dX4_init_46 rfl gf_X4_11 (kpn (kp_T hs) (by omega)) rfl (rK_ca (c := 2) (R := R) hs) ?_
  refine v_iload_n (pc' := 50) dX4_init_49 rfl rfl ?_
  refine v_new (t := 0) (pc' := 53) dX4_init_50 rfl cl_X4_9 is_X0 it_X0 ing0 tyX0_ok rfl ((kp_C hs e2).1) (by decide) rfl dfX0 (by omega) (by first | rfl | (simp [scp, scv]; done) | (simp [scp, scv]; omega)) (by decide) (by decide) ?_
  refine v_dup (pc' := 54) dX4_init_53 rfl rfl ?_
  refine v_aload_n (pc' := 55) dX4_init_54 rfl rfl ?_
  refine v_iload_n (pc' := 56) dX4_init_55 rfl rfl ?_
  refine v_callI (pc' := 59) dX4_init_56 rfl ci_X4_35 (c_X0 hs e2) rfl rfl (Nat.le_of_ble_eq_true rfl) (by decide) (Or.inr (by first | rfl | (simp [scp, scv]; done) | (simp [scp, scv]; omega))) ?_
  refine v_aastore (pc' := 60) dX4_init_59 rfl (kpn (kp_CA hs) (by omega)) (kpn (kp_C hs e2) (by omega)) rfl e2 ?_
  refine v_iinc2 (pc' := 63) dX4_init_60 rfl (by decide) rfl (inc_nI _) ?_
  refine v_goto (tgt := 40) dX4_init_63 (by decide) ?_
  have e3 : 3 < 5 := by decide
  have q3 : pq s 3 = pb s + 33 := rfl
  refine v_iload_n (pc' := 41) dX4_init_40 rfl rfl ?_
  refine v_iconst (v := nI 5) (pc' := 42) dX4_init_41 rfl (by decide) ?_
  refine v_icmp_ge (pc' := 45) (tgt := 66) dX4_init_42 rfl (by decide) (fun hb => ?_) (fun hb => ?_)
  · exact absurd hb (by decide)
  refine v_aload_n (pc' := 46) dX4_init_45 rfl rfl ?_
  refine v_getQ (pc' := 49) dX4_init_46 rfl gf_X4_11 (kpn (kp_T hs) (by omega)) rfl (rK_ca (c := 3) (R := R) hs) ?_
  refine v_iload_n (pc' := 50) dX4_init_49 rfl rfl ?_
  refine v_new (t := 0) (pc' := 53) dX4_init_50 rfl cl_X4_9 is_X0 it_X0 ing0 tyX0_ok rfl ((kp_C hs e3).1) (by decide) rfl dfX0 (by omega) (by first | rfl | (simp [scp, scv]; done) | (simp [scp, scv]; omega)) (by decide) (by decide) ?_
  refine v_dup (pc' := 54) dX4_init_53 rfl rfl ?_
  refine v_aload_n (pc' := 55) dX4_init_54 rfl rfl ?_
  refine v_iload_n (pc' := 56) dX4_init_55 rfl rfl ?_
  refine v_callI (pc' := 59) dX4_init_56 rfl ci_X4_35 (c_X0 hs e3) rfl rfl (Nat.le_of_ble_eq_true rfl) (by decide) (Or.inr (by first | rfl | (simp [scp, scv]; done) | (simp [scp, scv]; omega))) ?_
  refine v_aastore (pc' := 60) dX4_init_59 rfl (kpn (kp_CA hs) (by omega)) (kpn (kp_C hs e3) (by omega)) rfl e3 ?_
  refine v_iinc2 (pc' := 63) dX4_init_60 rfl (by decide) rfl (inc_nI _) ?_
  refine v_goto (tgt := 40) dX4_init_63 (by decide) ?_
  have e4 : 4 < 5 := by decide
  have q4 : pq s 4 = pb s + 43 := rfl
  refine v_iload_n (pc' := 41) dX4_init_40 rfl rfl ?_
  refine v_iconst (v := nI 5) (pc' := 42) dX4_init_41 rfl (by decide) ?_
  refine v_icmp_ge (pc' := 45) (tgt := 66) dX4_init_42 rfl (by decide) (fun hb => ?_) (fun hb => ?_)
  · exact absurd hb (by decide)
  refine v_aload_n (pc' := 46) dX4_init_45 rfl rfl ?_
  refine v_getQ (pc' := 49) dX4_init_46 rfl gf_X4_11 (kpn (kp_T hs) (by omega)) rfl (rK_ca (c := 4) (R := R) hs) ?_
  refine v_iload_n (pc' := 50) dX4_init_49 rfl rfl ?_
  refine v_new (t := 0) (pc' := 53) dX4_init_50 rfl cl_X4_9 is_X0 it_X0 ing0 tyX0_ok rfl ((kp_C hs e4).1) (by decide) rfl dfX0 (by omega) (by first | rfl | (simp [scp, scv]; done) | (simp [scp, scv]; omega)) (by decide) (by decide) ?_
  refine v_dup (pc' := 54) dX4_init_53 rfl rfl ?_
  refine v_aload_n (pc' := 55) dX4_init_54 rfl rfl ?_
  refine v_iload_n (pc' := 56) dX4_init_55 rfl rfl ?_
  refine v_callI (pc' := 59) dX4_init_56 rfl ci_X4_35 (c_X0 hs e4) rfl rfl (Nat.le_of_ble_eq_true rfl) (by decide) (Or.inr (by first | rfl | (simp [scp, scv]; done) | (simp [scp, scv]; omega))) ?_
  refine v_aastore (pc' := 60) dX4_init_59 rfl (kpn (kp_CA hs) (by omega)) (kpn (kp_C hs e4) (by omega)) rfl e4 ?_
  refine v_iinc2 (pc' := 63) dX4_init_60 rfl (by decide) rfl (inc_nI _) ?_
  refine v_goto (tgt := 40) dX4_init_63 (by decide) ?_
  refine v_iload_n (pc' := 41) dX4_init_40 rfl rfl ?_
  refine v_iconst (v := nI 5) (pc' := 42) dX4_init_41 rfl (by decide) ?_
  refine v_icmp_ge (pc' := 45) (tgt := 66) dX4_init_42 rfl (by decide) (fun hb => ?_) (fun hb => ?_)
  · exact v_vret dX4_init_66 rfl (Nat.le_refl _) (Nat.le_refl _) ⟨rfl, rfl, rfl, rfl, rfl⟩
  · exact absurd hb (by decide)
theorem rK_b {s p j : Nat} {R : MR} (hp : p < pb s) : ∀ c, rK s c R p j = R p j := by
  intro c
  induction c with
  | zero =>
    show stR (stR R (pb s) 1 (some (pb s + 2))) (pb s) 0 (some (pb s + 1)) p j = _
    rw [stR_ne (fun z => by omega), stR_ne (fun z => by omega)]
  | succ c ih =>
    show stR (rC (pq s c) (pb s + 1) (rK s c R)) (pb s + 2) c (some (pq s c)) p j = _
    rw [stR_ne (fun z => by omega), rC_o (by unfold pq; omega) (by unfold pq; omega), ih]
def rHk : Nat → MR → MR
  | 0, R => stR R 54 0 (some 55)
  | i + 1, R => stR (rT (i + 1) (rHk i R)) 55 i (some (pb (i + 1)))
theorem rHk_s {R : MR} : ∀ i, rHk i R 54 0 = some 55 ∧ 55 < 1000 := by
  intro i
  induction i with
  | zero => exact ⟨stR_self _ _ _ _, by decide⟩
  | succ i ih =>
    refine ⟨?_, by decide⟩
    show stR (rT (i + 1) (rHk i R)) 55 i (some (pb (i + 1))) 54 0 = _
    rw [stR_ne (fun z => by omega)]
    unfold rT
    rw [rK_b (by unfold pb; rw [if_neg (by omega)]; omega)]
    exact ih.1
def iH (I : MI) : MI := iT 4 (iT 3 (iT 2 (iT 1 (stI I 15 0 (nI 0)))))
def lH (L : ML) : ML := lT 4 (lT 3 (lT 2 (lT 1 L)))
theorem c_X2 : Ok l yX2_init cX2_init 2 none 4 213 2596 [.ref 54] I L R (55) (eqP none (iH I) (lH L) (rHk 4 R) (268)) := by
  refine Ok.ofV [some (.ref 54), none] rfl (by decide) (Nat.le_of_ble_eq_true rfl) ?_
  refine v_aload_n (pc' := 1) dX2_init_0 rfl rfl ?_
  refine v_objInit (pc' := 4) dX2_init_1 rfl ci_X2_1 oi_inst oi_code (by decide) (by decide) ?_
  refine v_aload_n (pc' := 5) dX2_init_4 rfl rfl ?_
  refine v_iconst (v := nI 4) (pc' := 6) dX2_init_5 rfl (by decide) ?_
  refine v_newS (pc' := 9) dX2_init_6 rfl cl_X2_9 (kp_HA.1) rfl (by decide) (by omega) (by first | rfl | (simp [scp, scv]; done) | (simp [scp, scv]; omega)) (by decide) (by decide) ?_
  refine v_putR (pc' := 12) dX2_init_9 rfl gf_X2_11 pf_X2_11 (kpn kp_H (by omega)) rfl (Or.inr rfl) (by omega) (by omega) (fun _ => rfl) (fun _ => rfl) ?_
  refine v_aload_n (pc' := 13) dX2_init_12 rfl rfl ?_
  refine v_iconst (v := nI 0) (pc' := 14) dX2_init_13 rfl (by decide) ?_
  refine v_pI (o := 0) (pc' := 17) dX2_init_14 rfl gf_X2_15 pf_X2_15 (kpn kp_H (by omega)) rfl rfl (Or.inl rfl) rfl rfl ?_
  refine v_iconst (v := nI 0) (pc' := 18) dX2_init_17 rfl (by decide) ?_
  refine v_istore_n1 (pc' := 19) dX2_init_18 rfl (by decide) rfl ?_
  have e1 : 1 < 5 := by decide
  have q1 : pb 1 = 56 := rfl
  refine v_iload_n (pc' := 20) dX2_init_19 rfl rfl ?_
  refine v_iconst (v := nI 4) (pc' := 21) dX2_init_20 rfl (by decide) ?_
  refine v_icmp_ge (pc' := 24) (tgt := 50) dX2_init_21 rfl (by decide) (fun hb => ?_) (fun hb => ?_)
  · exact absurd hb (by decide)
  refine v_aload_n (pc' := 25) dX2_init_24 rfl rfl ?_
  refine v_getQ (pc' := 28) dX2_init_25 rfl gf_X2_11 (kpn kp_H (by omega)) rfl (rHk_s (R := R) 0) ?_
  refine v_iload_n (pc' := 29) dX2_init_28 rfl rfl ?_
  refine v_new (t := 4) (pc' := 32) dX2_init_29 rfl cl_X2_9 is_X4 it_X4 ing4 tyX4_ok rfl ((kp_T e1).1) (by decide) rfl dfX4 (by omega) (by first | rfl | (simp [scp, scv]; done) | (simp [scp, scv]; omega)) (by decide) (by decide) ?_
  refine v_dup (pc' := 33) dX2_init_32 rfl rfl ?_
  refine v_new (t := 3) (pc' := 36) dX2_init_33 rfl cl_X2_19 is_X3 it_X3 ing3 tyX3_ok rfl ((kp_S e1).1) (by decide) rfl dfX3 (by omega) (by first | rfl | (simp [scp, scv]; done) | (simp [scp, scv]; omega)) (by decide) (by decide) ?_
  refine v_dup (pc' := 37) dX2_init_36 rfl rfl ?_
  refine v_callI (pc' := 40) dX2_init_37 rfl ci_X2_21 (c_X3 (kp_S e1) (by omega)) rfl rfl (Nat.le_of_ble_eq_true rfl) (by decide) (Or.inr (by first | rfl | (simp [scp, scv]; done) | (simp [scp, scv]; omega))) ?_
  refine v_callI (pc' := 43) dX2_init_40 rfl ci_X2_22 (c_X4 e1) rfl rfl (Nat.le_of_ble_eq_true rfl) (by decide) (Or.inr (by first | rfl | (simp [scp, scv]; done) | (simp [scp, scv]; omega))) ?_
  refine v_aastoreS (pc' := 44) dX2_init_43 rfl (kpn kp_HA (by omega)) (kpn (kp_T e1) (by omega)) rfl (by decide) ?_
  refine v_iinc1 (pc' := 47) dX2_init_44 rfl (by decide) rfl (inc_nI _) ?_
  refine v_goto (tgt := 19) dX2_init_47 (by decide) ?_
  have e2 : 2 < 5 := by decide
  have q2 : pb 2 = 109 := rfl
  refine v_iload_n (pc' := 20) dX2_init_19 rfl rfl ?_
  refine v_iconst (v := nI 4) (pc' := 21) dX2_init_20 rfl (by decide) ?_
  refine v_icmp_ge (pc' := 24) (tgt := 50) dX2_init_21 rfl (by decide) (fun hb => ?_) (fun hb => ?_)
  · exact absurd hb (by decide)
  refine v_aload_n (pc' := 25) dX2_init_24 rfl rfl ?_
  refine v_getQ (pc' := 28) dX2_init_25 rfl gf_X2_11 (kpn kp_H (by omega)) rfl (rHk_s (R := R) 1) ?_
  refine v_iload_n (pc' := 29) dX2_init_28 rfl rfl ?_
  refine v_new (t := 4) (pc' := 32) dX2_init_29 rfl cl_X2_9 is_X4 it_X4 ing4 tyX4_ok rfl ((kp_T e2).1) (by decide) rfl dfX4 (by omega) (by first | rfl | (simp [scp, scv]; done) | (simp [scp, scv]; omega)) (by decide) (by decide) ?_
  refine v_dup (pc' := 33) dX2_init_32 rfl rfl ?_
  refine v_new (t := 3) (pc' := 36) dX2_init_33 rfl cl_X2_19 is_X3 it_X3 ing3 tyX3_ok rfl ((kp_S e2).1) (by decide) rfl dfX3 (by omega) (by first | rfl | (simp [scp, scv]; done) | (simp [scp, scv]; omega)) (by decide) (by decide) ?_
  refine v_dup (pc' := 37) dX2_init_36 rfl rfl ?_
  refine v_callI (pc' := 40) dX2_init_37 rfl ci_X2_21 (c_X3 (kp_S e2) (by omega)) rfl rfl (Nat.le_of_ble_eq_true rfl) (by decide) (Or.inr (by first | rfl | (simp [scp, scv]; done) | (simp [scp, scv]; omega))) ?_
  refine v_callI (pc' := 43) dX2_init_40 rfl ci_X2_22 (c_X4 e2) rfl rfl (Nat.le_of_ble_eq_true rfl) (by decide) (Or.inr (by first | rfl | (simp [scp, scv]; done) | (simp [scp, scv]; omega))) ?_
  refine v_aastoreS (pc' := 44) dX2_init_43 rfl (kpn kp_HA (by omega)) (kpn (kp_T e2) (by omega)) rfl (by decide) ?_
  refine v_iinc1 (pc' := 47) dX2_init_44 rfl (by decide) rfl (inc_nI _) ?_
  refine v_goto (tgt := 19) dX2_init_47 (by decide) ?_
  have e3 : 3 < 5 := by decide
  have q3 : pb 3 = 162 := rfl
  refine v_iload_n (pc' := 20) dX2_init_19 rfl rfl ?_
  refine v_iconst (v := nI 4) (pc' := 21) dX2_init_20 rfl (by decide) ?_
  refine v_icmp_ge (pc' := 24) (tgt := 50) dX2_init_21 rfl (by decide) (fun hb => ?_) (fun hb => ?_)
  · exact absurd hb (by decide)
  refine v_aload_n (pc' := 25) dX2_init_24 rfl rfl ?_
  refine v_getQ (pc' := 28) dX2_init_25 rfl gf_X2_11 (kpn kp_H (by omega)) rfl (rHk_s (R := R) 2) ?_
  refine v_iload_n (pc' := 29) dX2_init_28 rfl rfl ?_
  refine v_new (t := 4) (pc' := 32) dX2_init_29 rfl cl_X2_9 is_X4 it_X4 ing4 tyX4_ok rfl ((kp_T e3).1) (by decide) rfl dfX4 (by omega) (by first | rfl | (simp [scp, scv]; done) | (simp [scp, scv]; omega)) (by decide) (by decide) ?_
  refine v_dup (pc' := 33) dX2_init_32 rfl rfl ?_
  refine v_new (t := 3) (pc' := 36) dX2_init_33 rfl cl_X2_19 is_X3 it_X3 ing3 tyX3_ok rfl ((kp_S e3).1) (by decide) rfl dfX3 (by omega) (by first | rfl | (simp [scp, scv]; done) | (simp [scp, scv]; omega)) (by decide) (by decide) ?_
  refine v_dup (pc' := 37) dX2_init_36 rfl rfl ?_
  refine v_callI (pc' := 40) dX2_init_37 rfl ci_X2_21 (c_X3 (kp_S e3) (by omega)) rfl rfl (Nat.le_of_ble_eq_true rfl) (by decide) (Or.inr (by first | rfl | (simp [scp, scv]; done) | (simp [scp, scv]; omega))) ?_
  refine v_callI (pc' := 43) dX2_init_40 rfl ci_X2_22 (c_X4 e3) rfl rfl (Nat.le_of_ble_eq_true rfl) (by decide) (Or.inr (by first | rfl | (simp [scp, scv]; done) | (simp [scp, scv]; omega))) ?_
  refine v_aastoreS (pc' := 44) dX2_init_43 rfl (kpn kp_HA (by omega)) (kpn (kp_T e3) (by omega)) rfl (by decide) ?_
  refine v_iinc1 (pc' := 47) dX2_init_44 rfl (by decide) rfl (inc_nI _) ?_
  refine v_goto (tgt := 19) dX2_init_47 (by decide) ?_
  have e4 : 4 < 5 := by decide
  have q4 : pb 4 = 215 := rfl
  refine v_iload_n (pc' := 20) dX2_init_19 rfl rfl ?_
  refine v_iconst (v := nI 4) (pc' := 21) dX2_init_20 rfl (by decide) ?_
  refine v_icmp_ge (pc' := 24) (tgt := 50) dX2_init_21 rfl (by decide) (fun hb => ?_) (fun hb => ?_)
  · exact absurd hb (by decide)
  refine v_aload_n (pc' := 25) dX2_init_24 rfl rfl ?_
  refine v_getQ (pc' := 28) dX2_init_25 rfl gf_X2_11 (kpn kp_H (by omega)) rfl (rHk_s (R := R) 3) ?_
  refine v_iload_n (pc' := 29) dX2_init_28 rfl rfl ?_
  refine v_new (t := 4) (pc' := 32) dX2_init_29 rfl cl_X2_9 is_X4 it_X4 ing4 tyX4_ok rfl ((kp_T e4).1) (by decide) rfl dfX4 (by omega) (by first | rfl | (simp [scp, scv]; done) | (simp [scp, scv]; omega)) (by decide) (by decide) ?_
  refine v_dup (pc' := 33) dX2_init_32 rfl rfl ?_
  refine v_new (t := 3) (pc' := 36) dX2_init_33 rfl cl_X2_19 is_X3 it_X3 ing3 tyX3_ok rfl ((kp_S e4).1) (by decide) rfl dfX3 (by omega) (by first | rfl | (simp [scp, scv]; done) | (simp [scp, scv]; omega)) (by decide) (by decide) ?_
  refine v_dup (pc' := 37) dX2_init_36 rfl rfl ?_
  refine v_callI (pc' := 40) dX2_init_37 rfl ci_X2_21 (c_X3 (kp_S e4) (by omega)) rfl rfl (Nat.le_of_ble_eq_true rfl) (by decide) (Or.inr (by first | rfl | (simp [scp, scv]; done) | (simp [scp, scv]; omega))) ?_
  refine v_callI (pc' := 43) dX2_init_40 rfl ci_X2_22 (c_X4 e4) rfl rfl (Nat.le_of_ble_eq_true rfl) (by decide) (Or.inr (by first | rfl | (simp [scp, scv]; done) | (simp [scp, scv]; omega))) ?_
  refine v_aastoreS (pc' := 44) dX2_init_43 rfl (kpn kp_HA (by omega)) (kpn (kp_T e4) (by omega)) rfl (by decide) ?_
  refine v_iinc1 (pc' := 47) dX2_init_44 rfl (by decide) rfl (inc_nI _) ?_
  refine v_goto (tgt := 19) dX2_init_47 (by decide) ?_
  refine v_iload_n (pc' := 20) dX2_init_19 rfl rfl ?_
  refine v_iconst (v := nI 4) (pc' := 21) dX2_init_20 rfl (by decide) ?_
  refine v_icmp_ge (pc' := 24) (tgt := 50) dX2_init_21 rfl (by decide) (fun hb => ?_) (fun hb => ?_)
  · exact v_vret dX2_init_50 rfl (Nat.le_refl _) (Nat.le_refl _) ⟨rfl, rfl, rfl, rfl, rfl⟩
  · exact absurd hb (by decide)
def iX (I : MI) : MI := stI (stI (stI (stI (stI I 5 0 (nI 0)) 5 1 (nI 0)) 5 2 (nI 0)) 5 3 (nI 0)) 5 4 (nI 0)
def rX (R : MR) : MR := stR (stR (stR R 268 0 (some 269)) 268 2 (some 270)) 268 3 (some 271)
def iW (g : Nat) (I : MI) : MI := stI (stI (stI (stI I g 0 (nI 0)) g 1 (nI 5)) g 2 (nI 0)) g 3 (nI 0)
def iD (I : MI) : MI := stI (stI (iW 11 (iW 9 (iX (iH (iT 0 I))))) 13 0 (nI 32)) 13 1 (nI 2)
def lD (L : ML) : ML := lH (lT 0 L)
def rD (R : MR) : MR := stR (stR (stR (stR (stR (stR (stR (rX (stR (rHk 4 (stR (rT 0 R) 0 0 (some 1))) 0 1 (some 54))) 0 2 (some 268)) 272 0 (some 273)) 0 3 (some 272)) 274 0 (some 275)) 0 4 (some 274)) 0 5 (some 276)) 0 6 (some 277)
theorem c_X7 : Ok l yX7_init cX7_init 1 none 5 277 3640 [.ref 0] I L R (1) (eqP none (iD I) (lD L) (rD R) (278)) := by
  have e0 : 0 < 5 := by decide
  have q0 : pb 0 = 1 := rfl
  refine Ok.ofV [some (.ref 0)] rfl (by decide) (Nat.le_of_ble_eq_true rfl) ?_
  refine v_aload_n (pc' := 1) dX7_init_0 rfl rfl ?_
  refine v_objInit (pc' := 4) dX7_init_1 rfl ci_X7_1 oi_inst oi_code (by decide) (by decide) ?_
  refine v_aload_n (pc' := 5) dX7_init_4 rfl rfl ?_
  refine v_new (t := 4) (pc' := 8) dX7_init_5 rfl cl_X7_7 is_X4 it_X4 ing4 tyX4_ok rfl ((kp_T e0).1) (by decide) rfl dfX4 (by omega) (by first | rfl | (simp [scp, scv]; done) | (simp [scp, scv]; omega)) (by decide) (by decide) ?_
  refine v_dup (pc' := 9) dX7_init_8 rfl rfl ?_
  refine v_new (t := 3) (pc' := 12) dX7_init_9 rfl cl_X7_9 is_X3 it_X3 ing3 tyX3_ok rfl ((kp_S e0).1) (by decide) rfl dfX3 (by omega) (by first | rfl | (simp [scp, scv]; done) | (simp [scp, scv]; omega)) (by decide) (by decide) ?_
  refine v_dup (pc' := 13) dX7_init_12 rfl rfl ?_
  refine v_callI (pc' := 16) dX7_init_13 rfl ci_X7_11 (c_X3 (kp_S e0) (by omega)) rfl rfl (Nat.le_of_ble_eq_true rfl) (by decide) (Or.inr (by first | rfl | (simp [scp, scv]; done) | (simp [scp, scv]; omega))) ?_
  refine v_callI (pc' := 19) dX7_init_16 rfl ci_X7_12 (c_X4 e0) rfl rfl (Nat.le_of_ble_eq_true rfl) (by decide) (Or.inr (by first | rfl | (simp [scp, scv]; done) | (simp [scp, scv]; omega))) ?_
  refine v_putR (pc' := 22) dX7_init_19 rfl gf_X7_15 pf_X7_15 (kpn kp_D (by omega)) rfl (Or.inr rfl) (by omega) (by omega) (fun _ => rfl) (fun _ => rfl) ?_
  refine v_aload_n (pc' := 23) dX7_init_22 rfl rfl ?_
  refine v_new (t := 2) (pc' := 26) dX7_init_23 rfl cl_X7_21 is_X2 it_X2 ing2 tyX2_ok rfl (kp_H.1) (by decide) rfl dfX2 (by omega) (by first | rfl | (simp [scp, scv]; done) | (simp [scp, scv]; omega)) (by decide) (by decide) ?_
  refine v_dup (pc' := 27) dX7_init_26 rfl rfl ?_
  refine v_callI (pc' := 30) dX7_init_27 rfl ci_X7_23 (c_X2) rfl rfl (Nat.le_of_ble_eq_true rfl) (by decide) (Or.inr (by first | rfl | (simp [scp, scv]; done) | (simp [scp, scv]; omega))) ?_
  refine v_putR (pc' := 33) dX7_init_30 rfl gf_X7_24 pf_X7_24 (kpn kp_D (by omega)) rfl (Or.inr rfl) (by omega) (by omega) (fun _ => rfl) (fun _ => rfl) ?_
  refine v_aload_n (pc' := 34) dX7_init_33 rfl rfl ?_
  refine v_new (t := 5) (pc' := 37) dX7_init_34 rfl cl_X7_28 is_X5 it_X5 ing5 tyX5_ok rfl (kp_X.1) (by decide) rfl dfX5 (by omega) (by first | rfl | (simp [scp, scv]; done) | (simp [scp, scv]; omega)) (by decide) (by decide) ?_
  refine v_dup (pc' := 38) dX7_init_37 rfl rfl ?_
  refine v_callI (pc' := 41) dX7_init_38 rfl ci_X7_30 (c_X5) rfl rfl (Nat.le_of_ble_eq_true rfl) (by decide) (Or.inr (by first | rfl | (simp [scp, scv]; done) | (simp [scp, scv]; omega))) ?_
  refine v_putR (pc' := 44) dX7_init_41 rfl gf_X7_31 pf_X7_31 (kpn kp_D (by omega)) rfl (Or.inr rfl) (by omega) (by omega) (fun _ => rfl) (fun _ => rfl) ?_
  refine v_aload_n (pc' := 45) dX7_init_44 rfl rfl ?_
  refine v_new (t := 6) (pc' := 48) dX7_init_45 rfl cl_X7_35 is_X6 it_X6 ing6 tyX6_ok rfl (kp_W.1) (by decide) rfl dfX6 (by omega) (by first | rfl | (simp [scp, scv]; done) | (simp [scp, scv]; omega)) (by decide) (by decide) ?_
  refine v_dup (pc' := 49) dX7_init_48 rfl rfl ?_
  refine v_callI (pc' := 52) dX7_init_49 rfl ci_X7_37 (c_X6 kp_W kp_places) rfl rfl (Nat.le_of_ble_eq_true rfl) (by decide) (Or.inr (by first | rfl | (simp [scp, scv]; done) | (simp [scp, scv]; omega))) ?_
  refine v_putR (pc' := 55) dX7_init_52 rfl gf_X7_38 pf_X7_38 (kpn kp_D (by omega)) rfl (Or.inr rfl) (by omega) (by omega) (fun _ => rfl) (fun _ => rfl) ?_
  refine v_aload_n (pc' := 56) dX7_init_55 rfl rfl ?_
  refine v_new (t := 6) (pc' := 59) dX7_init_56 rfl cl_X7_35 is_X6 it_X6 ing6 tyX6_ok rfl (kp_W2.1) (by decide) rfl dfX6 (by omega) (by first | rfl | (simp [scp, scv]; done) | (simp [scp, scv]; omega)) (by decide) (by decide) ?_
  refine v_dup (pc' := 60) dX7_init_59 rfl rfl ?_
  refine v_callI (pc' := 63) dX7_init_60 rfl ci_X7_37 (c_X6 kp_W2 kp_places2) rfl rfl (Nat.le_of_ble_eq_true rfl) (by decide) (Or.inr (by first | rfl | (simp [scp, scv]; done) | (simp [scp, scv]; omega))) ?_
  refine v_putR (pc' := 66) dX7_init_63 rfl gf_X7_42 pf_X7_42 (kpn kp_D (by omega)) rfl (Or.inr rfl) (by omega) (by omega) (fun _ => rfl) (fun _ => rfl) ?_
  refine v_aload_n (pc' := 67) dX7_init_66 rfl rfl ?_
  refine v_new (t := 3) (pc' := 70) dX7_init_67 rfl cl_X7_9 is_X3 it_X3 ing3 tyX3_ok rfl (kp_S2.1) (by decide) rfl dfX3 (by omega) (by first | rfl | (simp [scp, scv]; done) | (simp [scp, scv]; omega)) (by decide) (by decide) ?_
  refine v_dup (pc' := 71) dX7_init_70 rfl rfl ?_
  refine v_callI (pc' := 74) dX7_init_71 rfl ci_X7_11 (c_X3 kp_S2 (by omega)) rfl rfl (Nat.le_of_ble_eq_true rfl) (by decide) (Or.inr (by first | rfl | (simp [scp, scv]; done) | (simp [scp, scv]; omega))) ?_
  refine v_putR (pc' := 77) dX7_init_74 rfl gf_X7_45 pf_X7_45 (kpn kp_D (by omega)) rfl (Or.inr rfl) (by omega) (by omega) (fun _ => rfl) (fun _ => rfl) ?_
  refine v_aload_n (pc' := 78) dX7_init_77 rfl rfl ?_
  refine v_bipush (v := nI 64) (pc' := 80) dX7_init_78 rfl (by decide) ?_
  refine v_newI (pc' := 82) dX7_init_80 rfl ar_int (kp_spareRow.1) rfl (by decide) (by omega) (by first | rfl | (simp [scp, scv]; done) | (simp [scp, scv]; omega)) (by decide) (by decide) ?_
  refine v_putR (pc' := 85) dX7_init_82 rfl gf_X7_49 pf_X7_49 (kpn kp_D (by omega)) rfl (Or.inr rfl) (by omega) (by omega) (fun _ => rfl) (fun _ => rfl) ?_
  exact v_vret dX7_init_85 rfl (Nat.le_refl _) (Nat.le_refl _) ⟨rfl, rfl, rfl, rfl, rfl⟩
def iM (I : MI) : MI := stI (stI (stI (stI (stI (stI (stI (stI (stI (stI (stI (stI (stI I 22 0 (nI 31)) 22 1 (nI 57)) 22 2 (nI 83)) 22 3 (nI 109)) 23 0 (nI 7)) 23 1 (nI 19)) 23 2 (nI 43)) 23 3 (nI 61)) 20 0 (nI 32)) 20 1 (nI 2)) 20 3 (nI 100)) 20 4 (nI 1)) 20 5 (nI 2)
def rM (R : MR) : MR := stR (stR (stR (stR (stR (stR (stR (stR R 278 0 (some 279)) 278 1 (some 280)) 278 3 (some 281)) 278 4 (some 282)) 278 5 (some 283)) 278 6 (some 284)) 278 10 (some 285)) 278 11 (some 286)
def dm (c d : Nat) : Int32 := if nI d ≤ nI c then nI c - nI d else nI d - nI c
def fU (c : Nat) : Nat → Row → Row
  | 0, r => r
  | d + 1, r => va_up (va_up (fU c d r) (96 + 110 * c + d) (nI 1)) (101 + 110 * c + d) (dm c d)
def fO : Nat → Row → Row
  | 0, r => r
  | c + 1, r => fU c 5 (va_up (fO c r) (6 + 110 * c) (nI 8))
theorem c_X8 (hR : RS (rM R)) : Ok l yX8_init cX8_init 3 none 1 8 3112 [.ref 278] I L R (279) (eqP none (mm (iM I) (fO 5 (iM I 20)) (iM I 20)) L (rM R) (287)) := by
  refine Ok.ofV [some (.ref 278), none, none] rfl (by decide) (Nat.le_of_ble_eq_true rfl) ?_
  have inn : ∀ c (r : Row), c < 5 → V l yX8_init cX8_init 3 none (rmd 1 8 3112) (QM 8 3112 (eqP none (mm (iM I) (fO 5 (iM I 20)) (iM I 20)) L (rM R) (287))) (fun _ _ => True) 204 [some (.ref 278), some (.int (nI c)), some (.int (nI 5))] [] (mm (iM I) (fU c 5 r) (iM I 20)) L (rM R) 287 8 3112 → ∀ k d, d + k = 5 → V l yX8_init cX8_init 3 none (rmd 1 8 3112) (QM 8 3112 (eqP none (mm (iM I) (fO 5 (iM I 20)) (iM I 20)) L (rM R) (287))) (fun _ _ => True) 160 [some (.ref 278), some (.int (nI c)), some (.int (nI d))] [] (mm (iM I) (fU c d r) (iM I 20)) L (rM R) 287 8 3112 := by
    intro c r hc hend k
    induction k with
    | zero =>
      intro d hd
      obtain rfl : d = 5 := by omega
      refine v_iload_n (pc' := 161) dX8_init_160 rfl rfl ?_
      refine v_iconst (v := nI 5) (pc' := 162) dX8_init_161 rfl (by decide) ?_
      refine v_icmp_ge (pc' := 165) (tgt := 204) dX8_init_162 rfl (by decide) (fun hb => ?_) (fun hb => ?_)
      · exact hend
      · exact absurd hb (by decide)
    | succ k ih =>
      intro d hd
      have w1 : nI 90 + nI d = nI (90 + d) := nI_add _ _
      have w2 : nI 95 + nI d = nI (95 + d) := nI_add _ _
      refine v_iload_n (pc' := 161) dX8_init_160 rfl rfl ?_
      refine v_iconst (v := nI 5) (pc' := 162) dX8_init_161 rfl (by decide) ?_
      refine v_icmp_ge (pc' := 165) (tgt := 204) dX8_init_162 rfl (by decide) (fun hb => ?_) (fun hb => ?_)
      · exact absurd hb (nI_ge (by omega) (by omega))
      · refine v_aload_n (pc' := 166) dX8_init_165 rfl rfl ?_
        refine v_iload_n (pc' := 167) dX8_init_166 rfl rfl ?_
        refine v_bipush (v := nI 90) (pc' := 169) dX8_init_167 rfl (by decide) ?_
        refine v_iload_n (pc' := 170) dX8_init_169 rfl rfl ?_
        refine v_iadd (pc' := 171) dX8_init_170 rfl ?_
        refine v_iconst (v := nI 1) (pc' := 172) dX8_init_171 rfl (by decide) ?_
        refine v_callV (pc' := 175) dX8_init_172 rfl cv_X8_35 (m_sets (c := c) (w := 90 + d) (j := 96 + 110 * c + d) hR w1 (by omega)) (kpn kp_M (by omega)) rfl rfl (Nat.le_of_ble_eq_true rfl) rfl (Or.inl rfl) ?_
        refine v_aload_n (pc' := 176) dX8_init_175 rfl rfl ?_
        refine v_iload_n (pc' := 177) dX8_init_176 rfl rfl ?_
        refine v_bipush (v := nI 95) (pc' := 179) dX8_init_177 rfl (by decide) ?_
        refine v_iload_n (pc' := 180) dX8_init_179 rfl rfl ?_
        refine v_iadd (pc' := 181) dX8_init_180 rfl ?_
        refine v_iload_n (pc' := 182) dX8_init_181 rfl rfl ?_
        refine v_iload_n (pc' := 183) dX8_init_182 rfl rfl ?_
        refine v_icmp_ge (pc' := 186) (tgt := 192) dX8_init_183 rfl (by decide) (fun hb => ?_) (fun hb => ?_)
        · refine v_iload_n (pc' := 193) dX8_init_192 rfl rfl ?_
          refine v_iload_n (pc' := 194) dX8_init_193 rfl rfl ?_
          refine v_isub (pc' := 195) dX8_init_194 rfl ?_
          refine v_callV (pc' := 198) dX8_init_195 rfl cv_X8_35 (m_sets (c := c) (w := 95 + d) (j := 101 + 110 * c + d) hR w2 (by omega)) (kpn kp_M (by omega)) rfl rfl (Nat.le_of_ble_eq_true rfl) rfl (Or.inl rfl) ?_
          refine v_iinc2 (pc' := 201) dX8_init_198 rfl (by decide) rfl (inc_nI _) ?_
          refine v_goto (tgt := 160) dX8_init_201 (by decide) ?_
          have e : dm c d = nI c - nI d := if_pos hb
          rw [← e]
          exact ih (d + 1) (by omega)
        · refine v_iload_n (pc' := 187) dX8_init_186 rfl rfl ?_
          refine v_iload_n (pc' := 188) dX8_init_187 rfl rfl ?_
          refine v_isub (pc' := 189) dX8_init_188 rfl ?_
          refine v_goto (tgt := 195) dX8_init_189 (by decide) ?_
          refine v_callV (pc' := 198) dX8_init_195 rfl cv_X8_35 (m_sets (c := c) (w := 95 + d) (j := 101 + 110 * c + d) hR w2 (by omega)) (kpn kp_M (by omega)) rfl rfl (Nat.le_of_ble_eq_true rfl) rfl (Or.inl rfl) ?_
          refine v_iinc2 (pc' := 201) dX8_init_198 rfl (by decide) rfl (inc_nI _) ?_
          refine v_goto (tgt := 160) dX8_init_201 (by decide) ?_
          have e : dm c d = nI d - nI c := if_neg hb
          rw [← e]
          exact ih (d + 1) (by omega)
  have out : ∀ k c (z : Option Value), c + k = 5 → V l yX8_init cX8_init 3 none (rmd 1 8 3112) (QM 8 3112 (eqP none (mm (iM I) (fO 5 (iM I 20)) (iM I 20)) L (rM R) (287))) (fun _ _ => True) 145 [some (.ref 278), some (.int (nI c)), z] [] (mm (iM I) (fO c (iM I 20)) (iM I 20)) L (rM R) 287 8 3112 := by
    intro k
    induction k with
    | zero =>
      intro c z hd
      obtain rfl : c = 5 := by omega
      refine v_iload_n (pc' := 146) dX8_init_145 rfl rfl ?_
      refine v_iconst (v := nI 5) (pc' := 147) dX8_init_146 rfl (by decide) ?_
      refine v_icmp_ge (pc' := 150) (tgt := 210) dX8_init_147 rfl (by decide) (fun hb => ?_) (fun hb => ?_)
      · exact v_vret dX8_init_210 rfl (Nat.le_refl _) (Nat.le_refl _) ⟨rfl, rfl, rfl, rfl, rfl⟩
      · exact absurd hb (by decide)
    | succ k ih =>
      intro c z hd
      refine v_iload_n (pc' := 146) dX8_init_145 rfl rfl ?_
      refine v_iconst (v := nI 5) (pc' := 147) dX8_init_146 rfl (by decide) ?_
      refine v_icmp_ge (pc' := 150) (tgt := 210) dX8_init_147 rfl (by decide) (fun hb => ?_) (fun hb => ?_)
      · exact absurd hb (nI_ge (by omega) (by omega))
      · refine v_aload_n (pc' := 151) dX8_init_150 rfl rfl ?_
        refine v_iload_n (pc' := 152) dX8_init_151 rfl rfl ?_
        refine v_iconst (v := nI 0) (pc' := 153) dX8_init_152 rfl (by decide) ?_
        refine v_bipush (v := nI 8) (pc' := 155) dX8_init_153 rfl (by decide) ?_
        refine v_callV (pc' := 158) dX8_init_155 rfl cv_X8_35 (m_sets (c := c) (w := 0) (j := 6 + 110 * c) hR rfl (by omega)) (kpn kp_M (by omega)) rfl rfl (Nat.le_of_ble_eq_true rfl) rfl (Or.inl rfl) ?_
        refine v_iconst (v := nI 0) (pc' := 159) dX8_init_158 rfl (by decide) ?_
        refine v_istore_n2 (pc' := 160) dX8_init_159 rfl (by decide) rfl ?_
        refine inn c _ (by omega) ?_ 5 0 rfl
        refine v_iinc1 (pc' := 207) dX8_init_204 rfl (by decide) rfl (inc_nI _) ?_
        refine v_goto (tgt := 145) dX8_init_207 (by decide) ?_
        exact ih (c + 1) _ (by omega)
  have st := out 5 0 none rfl
  have e20 : mm (iM I) (fO 0 (iM I 20)) (iM I 20) = iM I := mm_id (by funext j; show _ = sp (iM I 20) (iM I 20) j; unfold sp; split <;> rfl)
  rw [e20] at st
  refine v_aload_n (pc' := 1) dX8_init_0 rfl rfl ?_
  refine v_objInit (pc' := 4) dX8_init_1 rfl ci_X8_1 oi_inst oi_code (by decide) (by decide) ?_
  refine v_aload_n (pc' := 5) dX8_init_4 rfl rfl ?_
  refine v_sipush (v := nI 2780) (pc' := 8) dX8_init_5 rfl (by decide) ?_
  refine v_newI (pc' := 10) dX8_init_8 rfl ar_int (kp_row.1) rfl (by decide) (by omega) (by first | rfl | (simp [scp, scv]; done) | (simp [scp, scv]; omega)) (by decide) (by decide) ?_
  refine v_putR (pc' := 13) dX8_init_10 rfl gf_X8_7 pf_X8_7 (kpn kp_M (by omega)) rfl (Or.inr rfl) (by omega) (by omega) (fun _ => rfl) (fun _ => rfl) ?_
  refine v_aload_n (pc' := 14) dX8_init_13 rfl rfl ?_
  refine v_sipush (v := nI 150) (pc' := 17) dX8_init_14 rfl (by decide) ?_
  refine v_newL (pc' := 19) dX8_init_17 rfl ar_long (kp_mask.1) rfl (by decide) (by omega) (by first | rfl | (simp [scp, scv]; done) | (simp [scp, scv]; omega)) (by decide) (by decide) ?_
  refine v_putR (pc' := 22) dX8_init_19 rfl gf_X8_13 pf_X8_13 (kpn kp_M (by omega)) rfl (Or.inr rfl) (by omega) (by omega) (fun _ => rfl) (fun _ => rfl) ?_
  refine v_aload_n (pc' := 23) dX8_init_22 rfl rfl ?_
  refine v_iconst (v := nI 4) (pc' := 24) dX8_init_23 rfl (by decide) ?_
  refine v_newI (pc' := 26) dX8_init_24 rfl ar_int (kp_factor.1) rfl (by decide) (by omega) (by first | rfl | (simp [scp, scv]; done) | (simp [scp, scv]; omega)) (by decide) (by decide) ?_
  refine v_dup (pc' := 27) dX8_init_26 rfl rfl ?_
  refine v_iconst (v := nI 0) (pc' := 28) dX8_init_27 rfl (by decide) ?_
  refine v_bipush (v := nI 31) (pc' := 30) dX8_init_28 rfl (by decide) ?_
  refine v_ias (pc' := 31) dX8_init_30 rfl (kpn kp_factor (by omega)) (Nat.zero_add _) rfl (by omega) ?_
  refine v_dup (pc' := 32) dX8_init_31 rfl rfl ?_
  refine v_iconst (v := nI 1) (pc' := 33) dX8_init_32 rfl (by decide) ?_
  refine v_bipush (v := nI 57) (pc' := 35) dX8_init_33 rfl (by decide) ?_
  refine v_ias (pc' := 36) dX8_init_35 rfl (kpn kp_factor (by omega)) (Nat.zero_add _) rfl (by omega) ?_
  refine v_dup (pc' := 37) dX8_init_36 rfl rfl ?_
  refine v_iconst (v := nI 2) (pc' := 38) dX8_init_37 rfl (by decide) ?_
  refine v_bipush (v := nI 83) (pc' := 40) dX8_init_38 rfl (by decide) ?_
  refine v_ias (pc' := 41) dX8_init_40 rfl (kpn kp_factor (by omega)) (Nat.zero_add _) rfl (by omega) ?_
  refine v_dup (pc' := 42) dX8_init_41 rfl rfl ?_
  refine v_iconst (v := nI 3) (pc' := 43) dX8_init_42 rfl (by decide) ?_
  refine v_bipush (v := nI 109) (pc' := 45) dX8_init_43 rfl (by decide) ?_
  refine v_ias (pc' := 46) dX8_init_45 rfl (kpn kp_factor (by omega)) (Nat.zero_add _) rfl (by omega) ?_
  refine v_putR (pc' := 49) dX8_init_46 rfl gf_X8_17 pf_X8_17 (kpn kp_M (by omega)) rfl (Or.inr rfl) (by omega) (by omega) (fun _ => rfl) (fun _ => rfl) ?_
  refine v_aload_n (pc' := 50) dX8_init_49 rfl rfl ?_
  refine v_iconst (v := nI 4) (pc' := 51) dX8_init_50 rfl (by decide) ?_
  refine v_newI (pc' := 53) dX8_init_51 rfl ar_int (kp_more.1) rfl (by decide) (by omega) (by first | rfl | (simp [scp, scv]; done) | (simp [scp, scv]; omega)) (by decide) (by decide) ?_
  refine v_dup (pc' := 54) dX8_init_53 rfl rfl ?_
  refine v_iconst (v := nI 0) (pc' := 55) dX8_init_54 rfl (by decide) ?_
  refine v_bipush (v := nI 7) (pc' := 57) dX8_init_55 rfl (by decide) ?_
  refine v_ias (pc' := 58) dX8_init_57 rfl (kpn kp_more (by omega)) (Nat.zero_add _) rfl (by omega) ?_
  refine v_dup (pc' := 59) dX8_init_58 rfl rfl ?_
  refine v_iconst (v := nI 1) (pc' := 60) dX8_init_59 rfl (by decide) ?_
  refine v_bipush (v := nI 19) (pc' := 62) dX8_init_60 rfl (by decide) ?_
  refine v_ias (pc' := 63) dX8_init_62 rfl (kpn kp_more (by omega)) (Nat.zero_add _) rfl (by omega) ?_
  refine v_dup (pc' := 64) dX8_init_63 rfl rfl ?_
  refine v_iconst (v := nI 2) (pc' := 65) dX8_init_64 rfl (by decide) ?_
  refine v_bipush (v := nI 43) (pc' := 67) dX8_init_65 rfl (by decide) ?_
  refine v_ias (pc' := 68) dX8_init_67 rfl (kpn kp_more (by omega)) (Nat.zero_add _) rfl (by omega) ?_
  refine v_dup (pc' := 69) dX8_init_68 rfl rfl ?_
  refine v_iconst (v := nI 3) (pc' := 70) dX8_init_69 rfl (by decide) ?_
  refine v_bipush (v := nI 61) (pc' := 72) dX8_init_70 rfl (by decide) ?_
  refine v_ias (pc' := 73) dX8_init_72 rfl (kpn kp_more (by omega)) (Nat.zero_add _) rfl (by omega) ?_
  refine v_putR (pc' := 76) dX8_init_73 rfl gf_X8_20 pf_X8_20 (kpn kp_M (by omega)) rfl (Or.inr rfl) (by omega) (by omega) (fun _ => rfl) (fun _ => rfl) ?_
  refine v_aload_n (pc' := 77) dX8_init_76 rfl rfl ?_
  refine v_bipush (v := nI 64) (pc' := 79) dX8_init_77 rfl (by decide) ?_
  refine v_newI (pc' := 81) dX8_init_79 rfl ar_int (kp_before.1) rfl (by decide) (by omega) (by first | rfl | (simp [scp, scv]; done) | (simp [scp, scv]; omega)) (by decide) (by decide) ?_
  refine v_putR (pc' := 84) dX8_init_81 rfl gf_X8_23 pf_X8_23 (kpn kp_M (by omega)) rfl (Or.inr rfl) (by omega) (by omega) (fun _ => rfl) (fun _ => rfl) ?_
  refine v_aload_n (pc' := 85) dX8_init_84 rfl rfl ?_
  refine v_iconst (v := nI 5) (pc' := 86) dX8_init_85 rfl (by decide) ?_
  refine v_newI (pc' := 88) dX8_init_86 rfl ar_int (kp_went.1) rfl (by decide) (by omega) (by first | rfl | (simp [scp, scv]; done) | (simp [scp, scv]; omega)) (by decide) (by decide) ?_
  refine v_putR (pc' := 91) dX8_init_88 rfl gf_X8_26 pf_X8_26 (kpn kp_M (by omega)) rfl (Or.inr rfl) (by omega) (by omega) (fun _ => rfl) (fun _ => rfl) ?_
  refine v_aload_n (pc' := 92) dX8_init_91 rfl rfl ?_
  refine v_iconst (v := nI 5) (pc' := 93) dX8_init_92 rfl (by decide) ?_
  refine v_newI (pc' := 95) dX8_init_93 rfl ar_int (kp_keptWay.1) rfl (by decide) (by omega) (by first | rfl | (simp [scp, scv]; done) | (simp [scp, scv]; omega)) (by decide) (by decide) ?_
  refine v_putR (pc' := 98) dX8_init_95 rfl gf_X8_29 pf_X8_29 (kpn kp_M (by omega)) rfl (Or.inr rfl) (by omega) (by omega) (fun _ => rfl) (fun _ => rfl) ?_
  refine v_aload_n (pc' := 99) dX8_init_98 rfl rfl ?_
  refine v_bipush (v := nI 100) (pc' := 101) dX8_init_99 rfl (by decide) ?_
  refine v_newI (pc' := 103) dX8_init_101 rfl ar_int (kp_mtext.1) rfl (by decide) (by omega) (by first | rfl | (simp [scp, scv]; done) | (simp [scp, scv]; omega)) (by decide) (by decide) ?_
  refine v_putR (pc' := 106) dX8_init_103 rfl gf_X8_32 pf_X8_32 (kpn kp_M (by omega)) rfl (Or.inr rfl) (by omega) (by omega) (fun _ => rfl) (fun _ => rfl) ?_
  refine v_aload_n (pc' := 107) dX8_init_106 rfl rfl ?_
  refine v_getQ (pc' := 110) dX8_init_107 rfl gf_X8_7 (kpn kp_M (by omega)) rfl (rf_M_row hR) ?_
  refine v_iconst (v := nI 0) (pc' := 111) dX8_init_110 rfl (by decide) ?_
  refine v_bipush (v := nI 32) (pc' := 113) dX8_init_111 rfl (by decide) ?_
  refine v_ias (pc' := 114) dX8_init_113 rfl (kpn kp_row (by omega)) (Nat.zero_add _) rfl (by omega) ?_
  refine v_aload_n (pc' := 115) dX8_init_114 rfl rfl ?_
  refine v_getQ (pc' := 118) dX8_init_115 rfl gf_X8_7 (kpn kp_M (by omega)) rfl (rf_M_row hR) ?_
  refine v_iconst (v := nI 1) (pc' := 119) dX8_init_118 rfl (by decide) ?_
  refine v_iconst (v := nI 2) (pc' := 120) dX8_init_119 rfl (by decide) ?_
  refine v_ias (pc' := 121) dX8_init_120 rfl (kpn kp_row (by omega)) (Nat.zero_add _) rfl (by omega) ?_
  refine v_aload_n (pc' := 122) dX8_init_121 rfl rfl ?_
  refine v_getQ (pc' := 125) dX8_init_122 rfl gf_X8_7 (kpn kp_M (by omega)) rfl (rf_M_row hR) ?_
  refine v_iconst (v := nI 3) (pc' := 126) dX8_init_125 rfl (by decide) ?_
  refine v_bipush (v := nI 100) (pc' := 128) dX8_init_126 rfl (by decide) ?_
  refine v_ias (pc' := 129) dX8_init_128 rfl (kpn kp_row (by omega)) (Nat.zero_add _) rfl (by omega) ?_
  refine v_aload_n (pc' := 130) dX8_init_129 rfl rfl ?_
  refine v_getQ (pc' := 133) dX8_init_130 rfl gf_X8_7 (kpn kp_M (by omega)) rfl (rf_M_row hR) ?_
  refine v_iconst (v := nI 4) (pc' := 134) dX8_init_133 rfl (by decide) ?_
  refine v_iconst (v := nI 1) (pc' := 135) dX8_init_134 rfl (by decide) ?_
  refine v_ias (pc' := 136) dX8_init_135 rfl (kpn kp_row (by omega)) (Nat.zero_add _) rfl (by omega) ?_
  refine v_aload_n (pc' := 137) dX8_init_136 rfl rfl ?_
  refine v_getQ (pc' := 140) dX8_init_137 rfl gf_X8_7 (kpn kp_M (by omega)) rfl (rf_M_row hR) ?_
  refine v_iconst (v := nI 5) (pc' := 141) dX8_init_140 rfl (by decide) ?_
  refine v_iconst (v := nI 2) (pc' := 142) dX8_init_141 rfl (by decide) ?_
  refine v_ias (pc' := 143) dX8_init_142 rfl (kpn kp_row (by omega)) (Nat.zero_add _) rfl (by omega) ?_
  refine v_iconst (v := nI 0) (pc' := 144) dX8_init_143 rfl (by decide) ?_
  refine v_istore_n1 (pc' := 145) dX8_init_144 rfl (by decide) rfl ?_
  exact st
end B49
