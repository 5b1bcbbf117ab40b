/-! ===== copies of a row's stretch ===== -/
def ovr {α : Type} (f g : Nat → α) (b n : Nat) : Nat → α := fun k => if b ≤ k ∧ k < b + n then f k else g k
theorem cpy_ovr {α : Type} (f g : Nat → α) (b n : Nat) : va_cpy f g b b n = ovr f g b n := by
  funext k
  unfold va_cpy ovr
  by_cases h : b ≤ k ∧ k < b + n
  · rw [if_pos h, if_pos h]
    congr 1
    omega
  · rw [if_neg h, if_neg h]
theorem ovr_in {α : Type} {f g : Nat → α} {b n k : Nat} (h : b ≤ k) (h2 : k < b + n) : ovr f g b n k = f k := if_pos ⟨h, h2⟩
theorem ovr_out {α : Type} {f g : Nat → α} {b n k : Nat} (h : k < b ∨ b + n ≤ k) : ovr f g b n k = g k := if_neg (by omega)
theorem ovr_0 {α : Type} (f g : Nat → α) (b : Nat) : ovr f g b 0 = g := by
  funext k
  exact ovr_out (by omega)
theorem ovr_1 {α : Type} (f g : Nat → α) (b n : Nat) : va_up (ovr f g b n) (b + n) (f (b + n)) = ovr f g b (n + 1) := by
  funext k
  unfold va_up ovr
  by_cases h : k = b + n
  · rw [if_pos h, if_pos (by omega), h]
  · rw [if_neg h]
    by_cases h2 : b ≤ k ∧ k < b + n
    · rw [if_pos h2, if_pos (by omega)]
    · rw [if_neg h2, if_neg (by omega)]
theorem ovr_add {α : Type} (f g : Nat → α) (b n m : Nat) : ovr f (ovr f g b n) (b + n) m = ovr f g b (n + m) := by
  funext k
  unfold ovr
  by_cases h : b + n ≤ k ∧ k < b + n + m
  · rw [if_pos h, if_pos (by omega)]
  · rw [if_neg h]
    by_cases h2 : b ≤ k ∧ k < b + n
    · rw [if_pos h2, if_pos (by omega)]
    · rw [if_neg h2, if_neg (by omega)]
/-- the longs of the caches below c -/
def ovL (f g : Msk) (c : Nat) : Msk := fun j => if j < c ∨ (5 ≤ j ∧ j < 5 + 5 * c) then f j else g j
theorem fits_z {v : Int32} (h : narrow .boolean (.int v) = .int v) : fits .boolean (.int v) = true := by
  have h2 : v &&& 1 = v := by
    have : Value.int (v &&& 1) = Value.int v := h
    exact Value.int.inj this
  have h3 : v = nI 0 ∨ v = nI 1 := by
    obtain ⟨j, hj, e⟩ := pk_andE v (m := 1) 1 (by decide)
    rw [h2] at e
    rcases (show j = 0 ∨ j = 1 by omega) with rfl | rfl
    · exact Or.inl e
    · exact Or.inr e
  rcases h3 with rfl | rfl <;> rfl
section B16
variable {l : Launch} {I : MI} {L : ML} {R : MR}
theorem ok_copyFromC {s s2 c : Nat} (hR : RS R) (hs : s < 5) (hs2 : s2 < 5) (hc : c < 5) (hne : s2 ≠ s) : Ok l yX0_copyFrom cX0_copyFrom 2 none 3 0 0 [.ref (pq s c), .ref (pq s2 c)] I L R 287 (eqP (none) (va_up I s (ovr (I s2) (I s) (6 + 110 * c) 110)) (va_up L s (fun j => if j = c ∨ (5 + 5 * c ≤ j ∧ j < 10 + 5 * c) then L s2 j else L s j)) R 287) := by
  refine Ok.ofV [some (.ref (pq s c)), some (.ref (pq s2 c))] rfl (by decide) (Nat.le_of_ble_eq_true rfl) ?_
  refine v_aload_n (pc' := 1) dX0_copyFrom_0 rfl rfl ?_
  refine v_getQ (pc' := 4) dX0_copyFrom_1 rfl gf_X0_57 (kp_C hs hc) rfl (rf_C_filter hR hs hc) ?_
  refine v_aload_n (pc' := 5) dX0_copyFrom_4 rfl rfl ?_
  refine v_getQ (pc' := 8) dX0_copyFrom_5 rfl gf_X0_57 (kp_C hs2 hc) rfl (rf_C_filter hR hs2 hc) ?_
  refine v_cV1v (pc' := 11) dX0_copyFrom_8 rfl cv_X0_118 (kp_F hs hc) (Nat.le_of_ble_eq_true rfl) rfl (ok_copyFromF hR hs hc hs2) ?_
  refine v_aload_n (pc' := 12) dX0_copyFrom_11 rfl rfl ?_
  refine v_getQ (pc' := 15) dX0_copyFrom_12 rfl gf_X0_9 (kp_C hs2 hc) rfl (rf_C_objects hR hs2 hc) ?_
  refine v_iconst (v := nI 0) (pc' := 16) dX0_copyFrom_15 rfl (by decide) ?_
  refine v_aload_n (pc' := 17) dX0_copyFrom_16 rfl rfl ?_
  refine v_getQ (pc' := 20) dX0_copyFrom_17 rfl gf_X0_9 (kp_C hs hc) rfl (rf_C_objects hR hs hc) ?_
  refine v_iconst (v := nI 0) (pc' := 21) dX0_copyFrom_20 rfl (by decide) ?_
  refine v_bipush (v := nI 16) (pc' := 23) dX0_copyFrom_21 rfl (by decide) ?_
  refine v_copyI (pc' := 26) dX0_copyFrom_23 rfl cs_X0_122 ac_nat ac_stat ac_init (kp_objects hs2 hc) (kp_objects hs hc) rfl rfl rfl (by decide) (by decide) (Nat.le_of_ble_eq_true rfl) (by decide) ?_
  refine v_aload_n (pc' := 27) dX0_copyFrom_26 rfl rfl ?_
  refine v_aload_n (pc' := 28) dX0_copyFrom_27 rfl rfl ?_
  refine v_gI (o := 7 + 110 * c) (pc' := 31) dX0_copyFrom_28 rfl gf_X0_15 (kp_C hs2 hc) rfl (by omega) ?_
  refine v_pI (o := 7 + 110 * c) (pc' := 34) dX0_copyFrom_31 rfl gf_X0_15 pf_X0_15 (kp_C hs hc) rfl (by omega) (Or.inl rfl) rfl rfl ?_
  refine v_aload_n (pc' := 35) dX0_copyFrom_34 rfl rfl ?_
  refine v_aload_n (pc' := 36) dX0_copyFrom_35 rfl rfl ?_
  refine v_gI (o := 6 + 110 * c) (pc' := 39) dX0_copyFrom_36 rfl gf_X0_19 (kp_C hs2 hc) rfl (Nat.add_zero _) ?_
  refine v_pI (o := 6 + 110 * c) (pc' := 42) dX0_copyFrom_39 rfl gf_X0_19 pf_X0_19 (kp_C hs hc) rfl (Nat.add_zero _) (Or.inl rfl) rfl rfl ?_
  refine v_aload_n (pc' := 43) dX0_copyFrom_42 rfl rfl ?_
  refine v_aload_n (pc' := 44) dX0_copyFrom_43 rfl rfl ?_
  refine v_gI (o := 88 + 110 * c) (pc' := 47) dX0_copyFrom_44 rfl gf_X0_22 (kp_C hs2 hc) rfl (by omega) ?_
  refine v_pI (o := 88 + 110 * c) (pc' := 50) dX0_copyFrom_47 rfl gf_X0_22 pf_X0_22 (kp_C hs hc) rfl (by omega) (Or.inl rfl) rfl rfl ?_
  refine v_aload_n (pc' := 51) dX0_copyFrom_50 rfl rfl ?_
  refine v_aload_n (pc' := 52) dX0_copyFrom_51 rfl rfl ?_
  refine v_gL (o := c) (pc' := 55) dX0_copyFrom_52 rfl gf_X0_25 (kp_C hs2 hc) rfl (Nat.add_zero _) ?_
  refine v_pL (o := c) (pc' := 58) dX0_copyFrom_55 rfl gf_X0_25 pf_X0_25 (kp_C hs hc) rfl (Nat.add_zero _) (Or.inl rfl) rfl rfl ?_
  refine v_aload_n (pc' := 59) dX0_copyFrom_58 rfl rfl ?_
  refine v_getQ (pc' := 62) dX0_copyFrom_59 rfl gf_X0_29 (kp_C hs2 hc) rfl (rf_C_tallies hR hs2 hc) ?_
  refine v_iconst (v := nI 0) (pc' := 63) dX0_copyFrom_62 rfl (by decide) ?_
  refine v_aload_n (pc' := 64) dX0_copyFrom_63 rfl rfl ?_
  refine v_getQ (pc' := 67) dX0_copyFrom_64 rfl gf_X0_29 (kp_C hs hc) rfl (rf_C_tallies hR hs hc) ?_
  refine v_iconst (v := nI 0) (pc' := 68) dX0_copyFrom_67 rfl (by decide) ?_
  refine v_bipush (v := nI 7) (pc' := 70) dX0_copyFrom_68 rfl (by decide) ?_
  refine v_copyI (pc' := 73) dX0_copyFrom_70 rfl cs_X0_122 ac_nat ac_stat ac_init (kp_tallies hs2 hc) (kp_tallies hs hc) rfl rfl rfl (by decide) (by decide) (Nat.le_of_ble_eq_true rfl) (by decide) ?_
  refine v_aload_n (pc' := 74) dX0_copyFrom_73 rfl rfl ?_
  refine v_getQ (pc' := 77) dX0_copyFrom_74 rfl gf_X0_32 (kp_C hs2 hc) rfl (rf_C_copyMasks hR hs2 hc) ?_
  refine v_iconst (v := nI 0) (pc' := 78) dX0_copyFrom_77 rfl (by decide) ?_
  refine v_aload_n (pc' := 79) dX0_copyFrom_78 rfl rfl ?_
  refine v_getQ (pc' := 82) dX0_copyFrom_79 rfl gf_X0_32 (kp_C hs hc) rfl (rf_C_copyMasks hR hs hc) ?_
  refine v_iconst (v := nI 0) (pc' := 83) dX0_copyFrom_82 rfl (by decide) ?_
  refine v_iconst (v := nI 5) (pc' := 84) dX0_copyFrom_83 rfl (by decide) ?_
  refine v_copyL (pc' := 87) dX0_copyFrom_84 rfl cs_X0_122 ac_nat ac_stat ac_init (kp_copyMasks hs2 hc) (kp_copyMasks hs hc) rfl rfl rfl (by decide) (by decide) (Nat.le_of_ble_eq_true rfl) (by decide) ?_
  refine v_aload_n (pc' := 88) dX0_copyFrom_87 rfl rfl ?_
  refine v_getQ (pc' := 91) dX0_copyFrom_88 rfl gf_X0_36 (kp_C hs2 hc) rfl (rf_C_copyVersions hR hs2 hc) ?_
  refine v_iconst (v := nI 0) (pc' := 92) dX0_copyFrom_91 rfl (by decide) ?_
  refine v_aload_n (pc' := 93) dX0_copyFrom_92 rfl rfl ?_
  refine v_getQ (pc' := 96) dX0_copyFrom_93 rfl gf_X0_36 (kp_C hs hc) rfl (rf_C_copyVersions hR hs hc) ?_
  refine v_iconst (v := nI 0) (pc' := 97) dX0_copyFrom_96 rfl (by decide) ?_
  refine v_iconst (v := nI 5) (pc' := 98) dX0_copyFrom_97 rfl (by decide) ?_
  refine v_copyI (pc' := 101) dX0_copyFrom_98 rfl cs_X0_122 ac_nat ac_stat ac_init (kp_copyVersions hs2 hc) (kp_copyVersions hs hc) rfl rfl rfl (by decide) (by decide) (Nat.le_of_ble_eq_true rfl) (by decide) ?_
  refine v_aload_n (pc' := 102) dX0_copyFrom_101 rfl rfl ?_
  refine v_getQ (pc' := 105) dX0_copyFrom_102 rfl gf_X0_39 (kp_C hs2 hc) rfl (rf_C_copyTimes hR hs2 hc) ?_
  refine v_iconst (v := nI 0) (pc' := 106) dX0_copyFrom_105 rfl (by decide) ?_
  refine v_aload_n (pc' := 107) dX0_copyFrom_106 rfl rfl ?_
  refine v_getQ (pc' := 110) dX0_copyFrom_107 rfl gf_X0_39 (kp_C hs hc) rfl (rf_C_copyTimes hR hs hc) ?_
  refine v_iconst (v := nI 0) (pc' := 111) dX0_copyFrom_110 rfl (by decide) ?_
  refine v_iconst (v := nI 5) (pc' := 112) dX0_copyFrom_111 rfl (by decide) ?_
  refine v_copyI (pc' := 115) dX0_copyFrom_112 rfl cs_X0_122 ac_nat ac_stat ac_init (kp_copyTimes hs2 hc) (kp_copyTimes hs hc) rfl rfl rfl (by decide) (by decide) (Nat.le_of_ble_eq_true rfl) (by decide) ?_
  refine v_aload_n (pc' := 116) dX0_copyFrom_115 rfl rfl ?_
  refine v_getQ (pc' := 119) dX0_copyFrom_116 rfl gf_X0_42 (kp_C hs2 hc) rfl (rf_C_links hR hs2 hc) ?_
  refine v_iconst (v := nI 0) (pc' := 120) dX0_copyFrom_119 rfl (by decide) ?_
  refine v_aload_n (pc' := 121) dX0_copyFrom_120 rfl rfl ?_
  refine v_getQ (pc' := 124) dX0_copyFrom_121 rfl gf_X0_42 (kp_C hs hc) rfl (rf_C_links hR hs hc) ?_
  refine v_iconst (v := nI 0) (pc' := 125) dX0_copyFrom_124 rfl (by decide) ?_
  refine v_iconst (v := nI 5) (pc' := 126) dX0_copyFrom_125 rfl (by decide) ?_
  refine v_copyI (pc' := 129) dX0_copyFrom_126 rfl cs_X0_122 ac_nat ac_stat ac_init (kp_links hs2 hc) (kp_links hs hc) rfl rfl rfl (by decide) (by decide) (Nat.le_of_ble_eq_true rfl) (by decide) ?_
  refine v_aload_n (pc' := 130) dX0_copyFrom_129 rfl rfl ?_
  refine v_getQ (pc' := 133) dX0_copyFrom_130 rfl gf_X0_45 (kp_C hs2 hc) rfl (rf_C_distances hR hs2 hc) ?_
  refine v_iconst (v := nI 0) (pc' := 134) dX0_copyFrom_133 rfl (by decide) ?_
  refine v_aload_n (pc' := 135) dX0_copyFrom_134 rfl rfl ?_
  refine v_getQ (pc' := 138) dX0_copyFrom_135 rfl gf_X0_45 (kp_C hs hc) rfl (rf_C_distances hR hs hc) ?_
  refine v_iconst (v := nI 0) (pc' := 139) dX0_copyFrom_138 rfl (by decide) ?_
  refine v_iconst (v := nI 5) (pc' := 140) dX0_copyFrom_139 rfl (by decide) ?_
  refine v_copyI (pc' := 143) dX0_copyFrom_140 rfl cs_X0_122 ac_nat ac_stat ac_init (kp_distances hs2 hc) (kp_distances hs hc) rfl rfl rfl (by decide) (by decide) (Nat.le_of_ble_eq_true rfl) (by decide) ?_
  exact v_vret dX0_copyFrom_143 rfl (Nat.le_refl _) (Nat.le_refl _) ⟨rfl, by
        unfold cpI stI
        simp only [va_up_self, bx_uu, va_up_ne _ _ hne, cpy_ovr]
        congr 1
        funext j
        simp only [ovr, va_up]
        by_cases hin : 6 + 110 * c ≤ j ∧ j < 6 + 110 * c + 110
        · rw [if_pos hin]
          repeat' split
          all_goals first | rfl | (exfalso; omega) | (congr 1; omega)
        · rw [if_neg hin]
          repeat' split
          all_goals first | rfl | (exfalso; omega), by
        unfold cpL stL
        simp only [va_up_self, bx_uu, va_up_ne _ _ hne, cpy_ovr]
        congr 1
        funext j
        simp only [ovr, va_up]
        repeat' split
        all_goals first | rfl | (exfalso; omega) | (congr 1; omega), rfl, rfl⟩
theorem ok_copyFromT {s s2 : Nat} (hR : RS R) (hs : s < 5) (hs2 : s2 < 5) (hne : s2 ≠ s) (hb4 : narrow .boolean (.int (I s2 4)) = .int (I s2 4)) : Ok l yX4_copyFrom cX4_copyFrom 3 none 4 0 0 [.ref (pb s), .ref (pb s2)] I L R 287 (eqP (none) (va_up I s (ovr (I s2) (I s) 0 556)) (va_up L s (ovr (L s2) (L s) 0 30)) R 287) := by
  refine Ok.ofV [some (.ref (pb s)), some (.ref (pb s2)), none] rfl (by decide) (Nat.le_of_ble_eq_true rfl) ?_
  refine v_aload_n (pc' := 1) dX4_copyFrom_0 rfl rfl ?_
  refine v_getQ (pc' := 4) dX4_copyFrom_1 rfl gf_X4_31 (kp_T hs) rfl (rf_T_shape hR hs) ?_
  refine v_aload_n (pc' := 5) dX4_copyFrom_4 rfl rfl ?_
  refine v_getQ (pc' := 8) dX4_copyFrom_5 rfl gf_X4_31 (kp_T hs2) rfl (rf_T_shape hR hs2) ?_
  refine v_gI (o := 0) (pc' := 11) dX4_copyFrom_8 rfl gf_X4_38 (kp_S hs2) rfl rfl ?_
  refine v_aload_n (pc' := 12) dX4_copyFrom_11 rfl rfl ?_
  refine v_getQ (pc' := 15) dX4_copyFrom_12 rfl gf_X4_31 (kp_T hs2) rfl (rf_T_shape hR hs2) ?_
  refine v_gI (o := 1) (pc' := 18) dX4_copyFrom_15 rfl gf_X4_43 (kp_S hs2) rfl rfl ?_
  refine v_cV2v (pc' := 21) dX4_copyFrom_18 rfl cv_X4_46 (kp_S hs) (Nat.le_of_ble_eq_true rfl) rfl (ok_change (kp_S hs)) ?_
  refine v_iconst (v := nI 0) (pc' := 22) dX4_copyFrom_21 rfl (by decide) ?_
  refine v_istore_n2 (pc' := 23) dX4_copyFrom_22 rfl (by decide) rfl ?_
  have loop : ∀ (n c : Nat) (J : MI) (Q : ML), c + n = 5 → J = va_up I s (ovr (I s2) (ovr (I s2) (I s) 0 2) 6 (110 * c)) → Q = va_up L s (ovL (L s2) (L s) c) → V l yX4_copyFrom cX4_copyFrom 3 none (rmd 4 0 0) (QM 0 0 (eqP (none) (va_up I s (ovr (I s2) (I s) 0 556)) (va_up L s (ovr (L s2) (L s) 0 30)) R 287)) (fun _ _ => True) 23 [some (.ref (pb s)), some (.ref (pb s2)), some (.int (nI c))] [] J Q R 287 0 0 := by
    intro n
    induction n with
    | zero =>
      intro c J Q hcn hJ hQ
      have hc5 : c = 5 := by omega
      subst hc5
      have e2 : J s2 = I s2 := by rw [hJ, va_up_ne _ _ hne]
      refine v_iload_n (pc' := 24) dX4_copyFrom_23 rfl rfl ?_
      refine v_iconst (v := nI 5) (pc' := 25) dX4_copyFrom_24 rfl (by decide) ?_
      refine v_icmp_ge (pc' := 28) (tgt := 49) dX4_copyFrom_25 rfl (by decide) (fun hb => ?_) (fun hb => ?_)
      · refine v_aload_n (pc' := 50) dX4_copyFrom_49 rfl rfl ?_
        refine v_aload_n (pc' := 51) dX4_copyFrom_50 rfl rfl ?_
        refine v_gI (o := 2) (pc' := 54) dX4_copyFrom_51 rfl gf_X4_17 (kp_T hs2) rfl rfl ?_
        refine v_pI (o := 2) (pc' := 57) dX4_copyFrom_54 rfl gf_X4_17 pf_X4_17 (kp_T hs) rfl rfl (Or.inl rfl) rfl rfl ?_
        refine v_aload_n (pc' := 58) dX4_copyFrom_57 rfl rfl ?_
        refine v_aload_n (pc' := 59) dX4_copyFrom_58 rfl rfl ?_
        refine v_gI (o := 3) (pc' := 62) dX4_copyFrom_59 rfl gf_X4_21 (kp_T hs2) rfl rfl ?_
        refine v_pI (o := 3) (pc' := 65) dX4_copyFrom_62 rfl gf_X4_21 pf_X4_21 (kp_T hs) rfl rfl (Or.inl rfl) rfl rfl ?_
        refine v_aload_n (pc' := 66) dX4_copyFrom_65 rfl rfl ?_
        refine v_aload_n (pc' := 67) dX4_copyFrom_66 rfl rfl ?_
        refine v_gI (o := 4) (pc' := 70) dX4_copyFrom_67 rfl gf_X4_24 (kp_T hs2) rfl rfl ?_
        refine v_pI (o := 4) (pc' := 73) dX4_copyFrom_70 rfl gf_X4_24 pf_X4_24 (kp_T hs) rfl rfl (Or.inl rfl) (by rw [stI_ne (fun q => hne q.1), stI_ne (fun q => hne q.1), e2]; exact hb4) (fits_z (by rw [stI_ne (fun q => hne q.1), stI_ne (fun q => hne q.1), e2]; exact hb4)) ?_
        refine v_aload_n (pc' := 74) dX4_copyFrom_73 rfl rfl ?_
        refine v_aload_n (pc' := 75) dX4_copyFrom_74 rfl rfl ?_
        refine v_gI (o := 5) (pc' := 78) dX4_copyFrom_75 rfl gf_X4_28 (kp_T hs2) rfl rfl ?_
        refine v_pI (o := 5) (pc' := 81) dX4_copyFrom_78 rfl gf_X4_28 pf_X4_28 (kp_T hs) rfl rfl (Or.inl rfl) rfl rfl ?_
        exact v_vret dX4_copyFrom_81 rfl (Nat.le_refl _) (Nat.le_refl _) ⟨rfl, by
            rw [e2, stI_ne (fun q => hne q.1), stI_ne (fun q => hne q.1), stI_ne (fun q => hne q.1), stI_ne (fun q => hne q.1), stI_ne (fun q => hne q.1), stI_ne (fun q => hne q.1), e2, hJ, stI_up, stI_up, stI_up, stI_up]
            congr 1
            funext j
            simp only [ovr, va_up]
            repeat' split
            all_goals first | rfl | (exfalso; omega) | (congr 1; omega), by
            rw [hQ]
            congr 1
            funext j
            simp only [ovr, ovL]
            repeat' split
            all_goals first | rfl | (exfalso; omega), rfl, rfl⟩
      · exact absurd (by decide) hb
    | succ n ih =>
      intro c J Q hcn hJ hQ
      have hc : c < 5 := by omega
      have e2 : J s2 = I s2 := by rw [hJ, va_up_ne _ _ hne]
      have q2 : Q s2 = L s2 := by rw [hQ, va_up_ne _ _ hne]
      refine v_iload_n (pc' := 24) dX4_copyFrom_23 rfl rfl ?_
      refine v_iconst (v := nI 5) (pc' := 25) dX4_copyFrom_24 rfl (by decide) ?_
      refine v_icmp_ge (pc' := 28) (tgt := 49) dX4_copyFrom_25 rfl (by decide) (fun hb => ?_) (fun hb => ?_)
      · exact absurd hb (nI_ge (by omega) (by omega))
      · refine v_aload_n (pc' := 29) dX4_copyFrom_28 rfl rfl ?_
        refine v_getQ (pc' := 32) dX4_copyFrom_29 rfl gf_X4_11 (kp_T hs) rfl (rf_T_caches hR hs) ?_
        refine v_iload_n (pc' := 33) dX4_copyFrom_32 rfl rfl ?_
        refine v_aaloadQ (pc' := 34) dX4_copyFrom_33 rfl (kp_CA hs) rfl hc (rf_CA hR hs hc) ?_
        refine v_aload_n (pc' := 35) dX4_copyFrom_34 rfl rfl ?_
        refine v_getQ (pc' := 38) dX4_copyFrom_35 rfl gf_X4_11 (kp_T hs2) rfl (rf_T_caches hR hs2) ?_
        refine v_iload_n (pc' := 39) dX4_copyFrom_38 rfl rfl ?_
        refine v_aaloadQ (pc' := 40) dX4_copyFrom_39 rfl (kp_CA hs2) rfl hc (rf_CA hR hs2 hc) ?_
        refine v_cV1v (pc' := 43) dX4_copyFrom_40 rfl cv_X4_50 (kp_C hs hc) (Nat.le_of_ble_eq_true rfl) rfl (ok_copyFromC hR hs hs2 hc hne) ?_
        refine v_iinc2 (pc' := 46) dX4_copyFrom_43 rfl (by decide) rfl (inc_nI _) ?_
        refine v_goto (tgt := 23) dX4_copyFrom_46 (by decide) ?_
        refine ih (c + 1) _ _ (by omega) ?_ ?_
        · rw [e2, hJ, bx_uu, va_up_self, Nat.mul_add, ← ovr_add]
        · rw [q2, hQ, bx_uu, va_up_self]
          congr 1
          funext j
          simp only [ovL]
          repeat' split
          all_goals first | rfl | (exfalso; omega)
  refine loop 5 0 _ _ (by omega) ?_ ?_
  · rw [Nat.mul_zero, ovr_0]
    unfold stI
    simp only [va_up_self, bx_uu]
    congr 1
    funext j
    simp only [ovr, va_up]
    repeat' split
    all_goals first | rfl | (exfalso; omega) | (congr 1; omega)
  · have : ovL (L s2) (L s) 0 = L s := by
      funext j
      unfold ovL
      rw [if_neg (by omega)]
    rw [this, up_id]
end B16
