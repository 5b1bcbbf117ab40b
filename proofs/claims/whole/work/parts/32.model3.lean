/-! ===== DigestCachesModel: the history ===== -/
def sq (m Y : Msk) : Msk := fun j => if j < 30 then m j else Y j
def mL (L : ML) (m Y : Msk) : ML := va_up L 20 (sq m Y)
theorem mL_at {L : ML} {m Y : Msk} {j : Nat} (h : j < 30) : mL L m Y 20 j = m j := by
  unfold mL
  rw [va_up_self]
  exact if_pos h
theorem mL_o {L : ML} {m Y : Msk} {u : Nat} (h : u ≠ 20) : mL L m Y u = L u := va_up_ne _ _ h
theorem sq_up {m Y : Msk} {j : Nat} {v : Int64} (h : j < 30) : va_up (sq m Y) j v = sq (va_up m j v) Y := by
  funext k
  unfold va_up sq
  by_cases hk : k = j
  · rw [if_pos hk, if_pos (by omega)]
    exact (if_pos hk).symm
  · rw [if_neg hk]
    by_cases h2 : k < 30
    · rw [if_pos h2, if_pos h2]
      exact (if_neg hk).symm
    · rw [if_neg h2, if_neg h2]
theorem mL_st {L : ML} {m Y : Msk} {j : Nat} {v : Int64} (h : j < 30) : stL (mL L m Y) 20 j v = mL L (va_up m j v) Y := by
  unfold stL mL
  rw [va_up_self, bx_uu, sq_up h]
theorem mL_st2 {L : ML} {m Y : Msk} {g j : Nat} {v : Int64} (h : g ≠ 20) : stL (mL L m Y) g j v = mL (stL L g j v) m Y := by
  unfold stL mL
  rw [va_up_ne _ _ h, up_comm _ (Ne.symm h)]
/-- a part of a row is copied: its first k places -/
def cpP {α : Type} (n a b k : Nat) (w : Nat → α) : Nat → α := fun j => if n * b ≤ j ∧ j < n * b + k then w (j - n * b + n * a) else w j
theorem cpP_0 {α : Type} {n a b : Nat} {w : Nat → α} : cpP n a b 0 w = w := by
  funext j
  exact if_neg (by omega)
theorem cpP_succ {α : Type} {n a b k : Nat} {w : Nat → α} : va_up (cpP n a b k w) (n * b + k) (w (n * a + k)) = cpP n a b (k + 1) w := by
  funext j
  unfold va_up cpP
  by_cases h : j = n * b + k
  · rw [if_pos h, if_pos (by omega)]
    congr 1
    omega
  · rw [if_neg h]
    by_cases h2 : n * b ≤ j ∧ j < n * b + k
    · rw [if_pos h2, if_pos (by omega)]
    · rw [if_neg h2, if_neg (by omega)]
theorem cpP_src {α : Type} {n a b k i : Nat} {w : Nat → α} (hne : a ≠ b) (hi : i < n) (hk : k ≤ n) : cpP n a b k w (n * a + i) = w (n * a + i) := by
  unfold cpP
  refine if_neg (fun q => ?_)
  rcases Nat.lt_or_gt_of_ne hne with h | h
  · have : n * (a + 1) ≤ n * b := Nat.mul_le_mul_left n h
    rw [Nat.mul_add] at this
    omega
  · have : n * (b + 1) ≤ n * a := Nat.mul_le_mul_left n h
    rw [Nat.mul_add] at this
    omega
/-- what saving does to a row -/
def svW {α : Type} (n k : Nat) (w : Nat → α) : Nat → α := if k = 4 then cpP n 0 4 n (cpP n 4 3 n (cpP n 3 2 n (cpP n 2 1 n w))) else cpP n 0 (k + 1) n w
section B32
variable {l : Launch} {I : MI} {L : ML} {R : MR} {r X : Row} {m Y : Msk}
theorem m_copies {a b : Nat} (hR : RS R) (ha : a < 5) (hb5 : b < 5) (hne : a ≠ b) : Ok l yX8_copies cX8_copies 4 none 0 0 0 [.ref 278, .int (nI a), .int (nI b)] I L R 287 (eqP (none) (va_up I 20 (cpP 556 a b 556 (I 20))) (va_up L 20 (cpP 30 a b 30 (L 20))) R 287) := by
  refine Ok.ofV [some (.ref 278), some (.int (nI a)), some (.int (nI b)), none] rfl (by decide) (Nat.le_of_ble_eq_true rfl) ?_
  refine v_iconst (v := nI 0) (pc' := 1) dX8_copies_0 rfl (by decide) ?_
  refine v_istore_n3 (pc' := 2) dX8_copies_1 rfl (by decide) rfl ?_
  have l2 : ∀ (n k : Nat) (T : ML), k + n = 30 → T = va_up L 20 (cpP 30 a b k (L 20)) → V l yX8_copies cX8_copies 4 none (rmd 0 0 0) (QM 0 0 (eqP (none) (va_up I 20 (cpP 556 a b 556 (I 20))) (va_up L 20 (cpP 30 a b 30 (L 20))) R 287)) (fun _ _ => True) 41 [some (.ref 278), some (.int (nI a)), some (.int (nI b)), some (.int (nI k))] [] (va_up I 20 (cpP 556 a b 556 (I 20))) T R 287 0 0 := by
    intro n
    induction n with
    | zero =>
      intro k T hk hT
      refine v_iload_n (pc' := 42) dX8_copies_41 rfl rfl ?_
      refine v_bipush (v := nI 30) (pc' := 44) dX8_copies_42 rfl (by decide) ?_
      refine v_icmp_ge (pc' := 47) (tgt := 75) dX8_copies_44 rfl (by decide) (fun hb => ?_) (fun hb => ?_)
      · exact v_vret dX8_copies_75 rfl (Nat.le_refl _) (Nat.le_refl _) ⟨rfl, rfl, by rw [hT, show k = 30 by omega], rfl, rfl⟩
      · exact absurd (nI_le (by omega) (by omega)) hb
    | succ n ih =>
      intro k T hk hT
      have ek : T 20 (30 * a + k) = L 20 (30 * a + k) := by rw [hT, va_up_self, cpP_src hne (by omega) (by omega)]
      refine v_iload_n (pc' := 42) dX8_copies_41 rfl rfl ?_
      refine v_bipush (v := nI 30) (pc' := 44) dX8_copies_42 rfl (by decide) ?_
      refine v_icmp_ge (pc' := 47) (tgt := 75) dX8_copies_44 rfl (by decide) (fun hb => ?_) (fun hb => ?_)
      · exact absurd hb (nI_ge (by omega) (by omega))
      · refine v_aload_n (pc' := 48) dX8_copies_47 rfl rfl ?_
        refine v_getQ (pc' := 51) dX8_copies_48 rfl gf_X8_13 kp_M rfl (rf_M_mask hR) ?_
        refine v_bipush (v := nI 30) (pc' := 53) dX8_copies_51 rfl (by decide) ?_
        refine v_iload_n (pc' := 54) dX8_copies_53 rfl rfl ?_
        refine v_imul (pc' := 55) dX8_copies_54 rfl ?_
        refine v_iload_n (pc' := 56) dX8_copies_55 rfl rfl ?_
        refine v_iadd (pc' := 57) dX8_copies_56 rfl ?_
        refine v_aload_n (pc' := 58) dX8_copies_57 rfl rfl ?_
        refine v_getQ (pc' := 61) dX8_copies_58 rfl gf_X8_13 kp_M rfl (rf_M_mask hR) ?_
        refine v_bipush (v := nI 30) (pc' := 63) dX8_copies_61 rfl (by decide) ?_
        refine v_iload_n (pc' := 64) dX8_copies_63 rfl rfl ?_
        refine v_imul (pc' := 65) dX8_copies_64 rfl ?_
        refine v_iload_n (pc' := 66) dX8_copies_65 rfl rfl ?_
        refine v_iadd (pc' := 67) dX8_copies_66 rfl ?_
        refine v_lal (pc' := 68) dX8_copies_67 rfl kp_mask (Nat.zero_add _) (show nI 30 * nI a + nI k = nI (30 * a + k) by rw [pk_mul, nI_add]) (by omega) ?_
        refine v_las (pc' := 69) dX8_copies_68 rfl kp_mask (Nat.zero_add _) (show nI 30 * nI b + nI k = nI (30 * b + k) by rw [pk_mul, nI_add]) (by omega) ?_
        refine v_iinc3 (pc' := 72) dX8_copies_69 rfl (by decide) rfl (inc_nI _) ?_
        refine v_goto (tgt := 41) dX8_copies_72 (by decide) ?_
        refine ih (k + 1) _ (by omega) ?_
        rw [ek, hT]
        unfold stL
        rw [va_up_self, bx_uu, cpP_succ]
  have l1 : ∀ (n k : Nat) (J : MI), k + n = 556 → J = va_up I 20 (cpP 556 a b k (I 20)) → V l yX8_copies cX8_copies 4 none (rmd 0 0 0) (QM 0 0 (eqP (none) (va_up I 20 (cpP 556 a b 556 (I 20))) (va_up L 20 (cpP 30 a b 30 (L 20))) R 287)) (fun _ _ => True) 2 [some (.ref 278), some (.int (nI a)), some (.int (nI b)), some (.int (nI k))] [] J L R 287 0 0 := by
    intro n
    induction n with
    | zero =>
      intro k J hk hJ
      refine v_iload_n (pc' := 3) dX8_copies_2 rfl rfl ?_
      refine v_sipush (v := nI 556) (pc' := 6) dX8_copies_3 rfl (by decide) ?_
      refine v_icmp_ge (pc' := 9) (tgt := 39) dX8_copies_6 rfl (by decide) (fun hb => ?_) (fun hb => ?_)
      · refine v_iconst (v := nI 0) (pc' := 40) dX8_copies_39 rfl (by decide) ?_
        refine v_istore_n3 (pc' := 41) dX8_copies_40 rfl (by decide) rfl ?_
        rw [hJ, show k = 556 by omega]
        exact l2 30 0 L (by omega) (by rw [cpP_0, up_id])
      · exact absurd (nI_le (by omega) (by omega)) hb
    | succ n ih =>
      intro k J hk hJ
      have ek : J 20 (556 * a + k) = I 20 (556 * a + k) := by rw [hJ, va_up_self, cpP_src hne (by omega) (by omega)]
      refine v_iload_n (pc' := 3) dX8_copies_2 rfl rfl ?_
      refine v_sipush (v := nI 556) (pc' := 6) dX8_copies_3 rfl (by decide) ?_
      refine v_icmp_ge (pc' := 9) (tgt := 39) dX8_copies_6 rfl (by decide) (fun hb => ?_) (fun hb => ?_)
      · exact absurd hb (nI_ge (by omega) (by omega))
      · refine v_aload_n (pc' := 10) dX8_copies_9 rfl rfl ?_
        refine v_getQ (pc' := 13) dX8_copies_10 rfl gf_X8_7 kp_M rfl (rf_M_row hR) ?_
        refine v_sipush (v := nI 556) (pc' := 16) dX8_copies_13 rfl (by decide) ?_
        refine v_iload_n (pc' := 17) dX8_copies_16 rfl rfl ?_
        refine v_imul (pc' := 18) dX8_copies_17 rfl ?_
        refine v_iload_n (pc' := 19) dX8_copies_18 rfl rfl ?_
        refine v_iadd (pc' := 20) dX8_copies_19 rfl ?_
        refine v_aload_n (pc' := 21) dX8_copies_20 rfl rfl ?_
        refine v_getQ (pc' := 24) dX8_copies_21 rfl gf_X8_7 kp_M rfl (rf_M_row hR) ?_
        refine v_sipush (v := nI 556) (pc' := 27) dX8_copies_24 rfl (by decide) ?_
        refine v_iload_n (pc' := 28) dX8_copies_27 rfl rfl ?_
        refine v_imul (pc' := 29) dX8_copies_28 rfl ?_
        refine v_iload_n (pc' := 30) dX8_copies_29 rfl rfl ?_
        refine v_iadd (pc' := 31) dX8_copies_30 rfl ?_
        refine v_ial (pc' := 32) dX8_copies_31 rfl kp_row (Nat.zero_add _) (show nI 556 * nI a + nI k = nI (556 * a + k) by rw [pk_mul, nI_add]) (by omega) ?_
        refine v_ias (pc' := 33) dX8_copies_32 rfl kp_row (Nat.zero_add _) (show nI 556 * nI b + nI k = nI (556 * b + k) by rw [pk_mul, nI_add]) (by omega) ?_
        refine v_iinc3 (pc' := 36) dX8_copies_33 rfl (by decide) rfl (inc_nI _) ?_
        refine v_goto (tgt := 2) dX8_copies_36 (by decide) ?_
        refine ih (k + 1) _ (by omega) ?_
        rw [ek, hJ]
        unfold stI
        rw [va_up_self, bx_uu, cpP_succ]
  exact l1 556 0 I (by omega) (by rw [cpP_0, up_id])
theorem m_savesI {k : Nat} {TI : MI} {TL : ML} (hR : RS R) (hk : I 21 0 = nI k) (hk4 : k ≤ 4) (hTI : stI (va_up I 20 (svW 556 k (I 20))) 21 0 (nI (kv k)) = TI) (hTL : va_up L 20 (svW 30 k (L 20)) = TL) : Ok l yX8_saves cX8_saves 2 none 1 0 0 [.ref 278] I L R 287 (eqP (none) TI TL R 287) := by
  have tail : ∀ (i : Nat) (J : MI) (T : ML), J 21 0 = nI k → stI (va_up J 20 (cpP 556 0 (kv k) 556 (J 20))) 21 0 (nI (kv k)) = TI → va_up T 20 (cpP 30 0 (kv k) 30 (T 20)) = TL → V l yX8_saves cX8_saves 2 none (rmd 1 0 0) (QM 0 0 (eqP (none) TI TL R 287)) (fun _ _ => True) 29 [some (.ref 278), some (.int (nI i))] [] J T R 287 0 0 := by
    intro i J T hJ e1 e2
    have hkv : kv k < 5 ∧ 0 ≠ kv k := by
      unfold kv
      split <;> omega
    have fin : ∀ (J2 : MI), J2 21 0 = nI (kv k) → stI J 21 0 (nI (kv k)) = J2 → V l yX8_saves cX8_saves 2 none (rmd 1 0 0) (QM 0 0 (eqP (none) TI TL R 287)) (fun _ _ => True) 61 [some (.ref 278), some (.int (nI i))] [] J2 T R 287 0 0 := by
      intro J2 hJ2 eJ2
      refine v_aload_n (pc' := 62) dX8_saves_61 rfl rfl ?_
      refine v_iconst (v := nI 0) (pc' := 63) dX8_saves_62 rfl (by decide) ?_
      refine v_aload_n (pc' := 64) dX8_saves_63 rfl rfl ?_
      refine v_gI (o := 0) (pc' := 67) dX8_saves_64 rfl gf_X8_39 kp_M rfl rfl ?_
      rw [hJ2]
      refine v_cV2v (pc' := 70) dX8_saves_67 rfl cv_X8_43 kp_M (Nat.le_of_ble_eq_true rfl) rfl (m_copies hR (by decide) hkv.1 hkv.2) ?_
      exact v_vret dX8_saves_70 rfl (Nat.le_refl _) (Nat.le_refl _) ⟨rfl, by rw [← e1, ← eJ2]; unfold stI; rw [va_up_ne _ _ (show (20 : Nat) ≠ 21 by decide), va_up_ne _ _ (show (21 : Nat) ≠ 20 by decide), up_comm _ (show (20 : Nat) ≠ 21 by decide)], e2, rfl, rfl⟩
    by_cases h4 : k = 4
    · refine v_aload_n (pc' := 30) dX8_saves_29 rfl rfl ?_
      refine v_dup (pc' := 31) dX8_saves_30 rfl rfl ?_
      refine v_gI (o := 0) (pc' := 34) dX8_saves_31 rfl gf_X8_39 kp_M rfl rfl ?_
      refine v_aload_n (pc' := 35) dX8_saves_34 rfl rfl ?_
      refine v_gI (o := 0) (pc' := 38) dX8_saves_35 rfl gf_X8_39 kp_M rfl rfl ?_
      refine v_iconst (v := nI 4) (pc' := 39) dX8_saves_38 rfl (by decide) ?_
      refine v_icmp_ne (pc' := 42) (tgt := 46) dX8_saves_39 rfl (by decide) (fun hq => ?_) (fun hq => ?_)
      · rw [hJ, h4] at hq
        exact absurd rfl hq
      · rw [hJ]
        refine v_iconst (v := nI 1) (pc' := 43) dX8_saves_42 rfl (by decide) ?_
        refine v_goto (tgt := 47) dX8_saves_43 (by decide) ?_
        refine v_isub (pc' := 48) dX8_saves_47 rfl ?_
        refine v_pI (o := 0) (pc' := 51) dX8_saves_48 rfl gf_X8_39 pf_X8_39 kp_M rfl rfl (Or.inl rfl) rfl rfl ?_
        refine v_aload_n (pc' := 52) dX8_saves_51 rfl rfl ?_
        refine v_dup (pc' := 53) dX8_saves_52 rfl rfl ?_
        refine v_gI (o := 0) (pc' := 56) dX8_saves_53 rfl gf_X8_39 kp_M rfl rfl ?_
        refine v_iconst (v := nI 1) (pc' := 57) dX8_saves_56 rfl (by decide) ?_
        refine v_iadd (pc' := 58) dX8_saves_57 rfl ?_
        refine v_pI (o := 0) (pc' := 61) dX8_saves_58 rfl gf_X8_39 pf_X8_39 kp_M rfl rfl (Or.inl rfl) rfl rfl ?_
        have e3 : stI J 21 0 (nI k - nI 1) 21 0 + nI 1 = nI (kv k) := by
          rw [stI_self, h4]
          rfl
        rw [e3]
        refine fin _ (stI_self _ _ _ _) ?_
        unfold stI
        rw [va_up_self, bx_uu, bx_uu]
    · refine v_aload_n (pc' := 30) dX8_saves_29 rfl rfl ?_
      refine v_dup (pc' := 31) dX8_saves_30 rfl rfl ?_
      refine v_gI (o := 0) (pc' := 34) dX8_saves_31 rfl gf_X8_39 kp_M rfl rfl ?_
      refine v_aload_n (pc' := 35) dX8_saves_34 rfl rfl ?_
      refine v_gI (o := 0) (pc' := 38) dX8_saves_35 rfl gf_X8_39 kp_M rfl rfl ?_
      refine v_iconst (v := nI 4) (pc' := 39) dX8_saves_38 rfl (by decide) ?_
      refine v_icmp_ne (pc' := 42) (tgt := 46) dX8_saves_39 rfl (by decide) (fun hq => ?_) (fun hq => ?_)
      · rw [hJ]
        refine v_iconst (v := nI 0) (pc' := 47) dX8_saves_46 rfl (by decide) ?_
        refine v_isub (pc' := 48) dX8_saves_47 rfl ?_
        refine v_pI (o := 0) (pc' := 51) dX8_saves_48 rfl gf_X8_39 pf_X8_39 kp_M rfl rfl (Or.inl rfl) rfl rfl ?_
        refine v_aload_n (pc' := 52) dX8_saves_51 rfl rfl ?_
        refine v_dup (pc' := 53) dX8_saves_52 rfl rfl ?_
        refine v_gI (o := 0) (pc' := 56) dX8_saves_53 rfl gf_X8_39 kp_M rfl rfl ?_
        refine v_iconst (v := nI 1) (pc' := 57) dX8_saves_56 rfl (by decide) ?_
        refine v_iadd (pc' := 58) dX8_saves_57 rfl ?_
        refine v_pI (o := 0) (pc' := 61) dX8_saves_58 rfl gf_X8_39 pf_X8_39 kp_M rfl rfl (Or.inl rfl) rfl rfl ?_
        have e3 : stI J 21 0 (nI k - nI 0) 21 0 + nI 1 = nI (kv k) := by
          rw [stI_self, nI_sub (Nat.zero_le _), nI_add]
          unfold kv
          rw [if_pos (by omega)]
          rfl
        rw [e3]
        refine fin _ (stI_self _ _ _ _) ?_
        unfold stI
        rw [va_up_self, bx_uu, bx_uu]
      · rw [hJ] at hq
        exact absurd ((nI_eq (by omega) (by omega)).mp hq) h4
  refine Ok.ofV [some (.ref 278), none] rfl (by decide) (Nat.le_of_ble_eq_true rfl) ?_
  by_cases h4 : k = 4
  · have e21 : ∀ (J : MI) (w : Row), J 21 0 = nI 4 → va_up J 20 w 21 0 = nI 4 := fun J w h => by rw [va_up_ne _ _ (by decide)]; exact h
    have step : ∀ (i : Nat) (J : MI) (T : ML), i = 1 ∨ i = 2 ∨ i = 3 → J 21 0 = nI 4 → V l yX8_saves cX8_saves 2 none (rmd 1 0 0) (QM 0 0 (eqP (none) TI TL R 287)) (fun _ _ => True) 2 [some (.ref 278), some (.int (nI (i + 1)))] [] (va_up J 20 (cpP 556 (i + 1) i 556 (J 20))) (va_up T 20 (cpP 30 (i + 1) i 30 (T 20))) R 287 0 0 → V l yX8_saves cX8_saves 2 none (rmd 1 0 0) (QM 0 0 (eqP (none) TI TL R 287)) (fun _ _ => True) 2 [some (.ref 278), some (.int (nI i))] [] J T R 287 0 0 := by
      intro i J T hi hJ nxt
      refine v_iload_n (pc' := 3) dX8_saves_2 rfl rfl ?_
      refine v_iconst (v := nI 4) (pc' := 4) dX8_saves_3 rfl (by decide) ?_
      refine v_icmp_ge (pc' := 7) (tgt := 29) dX8_saves_4 rfl (by decide) (fun hb => ?_) (fun hb => ?_)
      · exact absurd hb (nI_ge (by omega) (by omega))
      · refine v_aload_n (pc' := 8) dX8_saves_7 rfl rfl ?_
        refine v_gI (o := 0) (pc' := 11) dX8_saves_8 rfl gf_X8_39 kp_M rfl rfl ?_
        refine v_iconst (v := nI 4) (pc' := 12) dX8_saves_11 rfl (by decide) ?_
        refine v_icmp_ne (pc' := 15) (tgt := 29) dX8_saves_12 rfl (by decide) (fun hq => ?_) (fun hq => ?_)
        · rw [hJ] at hq
          exact absurd rfl hq
        · refine v_aload_n (pc' := 16) dX8_saves_15 rfl rfl ?_
          refine v_iload_n (pc' := 17) dX8_saves_16 rfl rfl ?_
          refine v_iconst (v := nI 1) (pc' := 18) dX8_saves_17 rfl (by decide) ?_
          refine v_iadd (pc' := 19) dX8_saves_18 rfl ?_
          refine v_iload_n (pc' := 20) dX8_saves_19 rfl rfl ?_
          rw [nI_add]
          refine v_cV2v (pc' := 23) dX8_saves_20 rfl cv_X8_43 kp_M (Nat.le_of_ble_eq_true rfl) rfl (m_copies hR (by omega) (by omega) (by omega)) ?_
          refine v_iinc1 (pc' := 26) dX8_saves_23 rfl (by decide) rfl (inc_nI _) ?_
          refine v_goto (tgt := 2) dX8_saves_26 (by decide) ?_
          exact nxt
    rw [h4] at hk
    refine v_iconst (v := nI 1) (pc' := 1) dX8_saves_0 rfl (by decide) ?_
    refine v_istore_n1 (pc' := 2) dX8_saves_1 rfl (by decide) rfl ?_
    refine step 1 _ _ (by decide) hk ?_
    refine step 2 _ _ (by decide) (e21 _ _ hk) ?_
    refine step 3 _ _ (by decide) (e21 _ _ (e21 _ _ hk)) ?_
    refine v_iload_n (pc' := 3) dX8_saves_2 rfl rfl ?_
    refine v_iconst (v := nI 4) (pc' := 4) dX8_saves_3 rfl (by decide) ?_
    refine v_icmp_ge (pc' := 7) (tgt := 29) dX8_saves_4 rfl (by decide) (fun hb => ?_) (fun hb => ?_)
    · refine tail 4 _ _ (by rw [h4]; exact e21 _ _ (e21 _ _ (e21 _ _ hk))) ?_ ?_
      · rw [← hTI, h4]
        simp only [va_up_self, bx_uu]
        rfl
      · rw [← hTL, h4]
        simp only [va_up_self, bx_uu]
        rfl
    · exact absurd (nI_le (Nat.le_refl _) (by decide)) hb
  · have ek : kv k = k + 1 := if_pos (by omega)
    refine v_iconst (v := nI 1) (pc' := 1) dX8_saves_0 rfl (by decide) ?_
    refine v_istore_n1 (pc' := 2) dX8_saves_1 rfl (by decide) rfl ?_
    refine v_iload_n (pc' := 3) dX8_saves_2 rfl rfl ?_
    refine v_iconst (v := nI 4) (pc' := 4) dX8_saves_3 rfl (by decide) ?_
    refine v_icmp_ge (pc' := 7) (tgt := 29) dX8_saves_4 rfl (by decide) (fun hb => ?_) (fun hb => ?_)
    · exact absurd hb (nI_ge (by omega) (by omega))
    · refine v_aload_n (pc' := 8) dX8_saves_7 rfl rfl ?_
      refine v_gI (o := 0) (pc' := 11) dX8_saves_8 rfl gf_X8_39 kp_M rfl rfl ?_
      refine v_iconst (v := nI 4) (pc' := 12) dX8_saves_11 rfl (by decide) ?_
      refine v_icmp_ne (pc' := 15) (tgt := 29) dX8_saves_12 rfl (by decide) (fun hq => ?_) (fun hq => ?_)
      · refine tail 1 _ _ hk ?_ ?_
        · rw [← hTI, ek]
          unfold svW
          rw [if_neg h4]
        · rw [← hTL, ek]
          unfold svW
          rw [if_neg h4]
      · rw [hk] at hq
        exact absurd ((nI_eq (by omega) (by omega)).mp hq) h4
theorem svW_low {α : Type} {n k j : Nat} {w : Nat → α} (h : j < n) : svW n k w j = w j := by
  have lo : ∀ (a b : Nat) (w : Nat → α), 1 ≤ b → cpP n a b n w j = w j := by
    intro a b w hb
    refine if_neg (fun q => ?_)
    have : n * 1 ≤ n * b := Nat.mul_le_mul_left n hb
    omega
  unfold svW
  split
  · rw [lo _ _ _ (by decide), lo _ _ _ (by decide), lo _ _ _ (by decide), lo _ _ _ (by decide)]
  · rw [lo _ _ _ (by omega)]
theorem sp_sv {k : Nat} : svW 556 k (sp r X) = sp r (svW 556 k (sp r X)) := by
  funext j
  by_cases h : j < 556
  · rw [svW_low h]
    exact (if_pos h).trans (if_pos h).symm
  · exact (if_neg h).symm
theorem sq_sv {k : Nat} : svW 30 k (sq m Y) = sq m (svW 30 k (sq m Y)) := by
  funext j
  by_cases h : j < 30
  · rw [svW_low h]
    exact (if_pos h).trans (if_pos h).symm
  · exact (if_neg h).symm
theorem m_saves {k : Nat} {X' : Row} {Y' : Msk} (hR : RS R) (hk : I 21 0 = nI k) (hk4 : k ≤ 4) (hX : svW 556 k (sp r X) = X') (hY : svW 30 k (sq m Y) = Y') : Ok l yX8_saves cX8_saves 2 none 1 0 0 [.ref 278] (mm I r X) (mL L m Y) R 287 (eqP (none) (mm (stI I 21 0 (nI (kv k))) r X') (mL L m Y') R 287) := by
  refine m_savesI hR (by rw [mm_o (by decide)]; exact hk) hk4 ?_ ?_
  · unfold mm
    rw [va_up_self, bx_uu, sp_sv, hX]
    exact mm_st2 (by decide)
  · unfold mL
    rw [va_up_self, bx_uu, sq_sv, hY]
theorem m_undo_no (hR : RS R) (hk : I 21 0 = nI 0) : Ok l yX8_undo cX8_undo 1 (some .int) 1 0 0 [.ref 278] I L R 287 (eqP (some (.int (-4))) I L R 287) := by
  refine Ok.ofV [some (.ref 278)] rfl (by decide) (Nat.le_of_ble_eq_true rfl) ?_
  refine v_aload_n (pc' := 1) dX8_undo_0 rfl rfl ?_
  refine v_gI (o := 0) (pc' := 4) dX8_undo_1 rfl gf_X8_39 kp_M rfl rfl ?_
  refine v_if_ne (pc' := 7) (tgt := 10) dX8_undo_4 rfl (by decide) (fun hb => ?_) (fun hb => ?_)
  · rw [hk] at hb
    exact absurd rfl hb
  · refine v_bipush (v := -4) (pc' := 9) dX8_undo_7 rfl (by decide) ?_
    exact v_iret dX8_undo_9 rfl (Nat.le_refl _) (Nat.le_refl _) ⟨rfl, rfl, rfl, rfl, rfl⟩
theorem m_undo {k : Nat} (hR : RS R) (hk : I 21 0 = nI (k + 1)) (hk4 : k < 4) : Ok l yX8_undo cX8_undo 1 (some .int) 1 0 0 [.ref 278] (mm I r X) (mL L m Y) R 287 (eqP (some (.int (nI k))) (mm (stI I 21 0 (nI k)) (fun i => X (556 * (k + 1) + i)) X) (mL L (fun i => Y (30 * (k + 1) + i)) Y) R 287) := by
  have hk' : mm I r X 21 0 = nI (k + 1) := by rw [mm_o (by decide)]; exact hk
  have e1 : va_up (mm I r X) 20 (cpP 556 (k + 1) 0 556 (mm I r X 20)) = mm I (fun i => X (556 * (k + 1) + i)) X := by
    unfold mm
    rw [va_up_self, bx_uu]
    congr 1
    funext j
    unfold cpP sp
    by_cases h : j < 556
    · rw [if_pos (by omega), if_pos h, if_neg (by omega)]
      congr 1
      omega
    · rw [if_neg (by omega), if_neg h, if_neg h]
  have e2 : va_up (mL L m Y) 20 (cpP 30 (k + 1) 0 30 (mL L m Y 20)) = mL L (fun i => Y (30 * (k + 1) + i)) Y := by
    unfold mL
    rw [va_up_self, bx_uu]
    congr 1
    funext j
    unfold cpP sq
    by_cases h : j < 30
    · rw [if_pos (by omega), if_pos h, if_neg (by omega)]
      congr 1
      omega
    · rw [if_neg (by omega), if_neg h, if_neg h]
  refine Ok.ofV [some (.ref 278)] rfl (by decide) (Nat.le_of_ble_eq_true rfl) ?_
  refine v_aload_n (pc' := 1) dX8_undo_0 rfl rfl ?_
  refine v_gI (o := 0) (pc' := 4) dX8_undo_1 rfl gf_X8_39 kp_M rfl rfl ?_
  refine v_if_ne (pc' := 7) (tgt := 10) dX8_undo_4 rfl (by decide) (fun hb => ?_) (fun hb => ?_)
  · refine v_aload_n (pc' := 11) dX8_undo_10 rfl rfl ?_
    refine v_aload_n (pc' := 12) dX8_undo_11 rfl rfl ?_
    refine v_gI (o := 0) (pc' := 15) dX8_undo_12 rfl gf_X8_39 kp_M rfl rfl ?_
    rw [hk']
    refine v_iconst (v := nI 0) (pc' := 16) dX8_undo_15 rfl (by decide) ?_
    refine v_cV2v (pc' := 19) dX8_undo_16 rfl cv_X8_43 kp_M (Nat.le_of_ble_eq_true rfl) rfl (m_copies hR (by omega) (by decide) (by omega)) ?_
    rw [e1, e2]
    have hk2 : mm I (fun i => X (556 * (k + 1) + i)) X 21 0 = nI (k + 1) := by rw [mm_o (by decide)]; exact hk
    refine v_aload_n (pc' := 20) dX8_undo_19 rfl rfl ?_
    refine v_dup (pc' := 21) dX8_undo_20 rfl rfl ?_
    refine v_gI (o := 0) (pc' := 24) dX8_undo_21 rfl gf_X8_39 kp_M rfl rfl ?_
    refine v_iconst (v := nI 1) (pc' := 25) dX8_undo_24 rfl (by decide) ?_
    refine v_isub (pc' := 26) dX8_undo_25 rfl ?_
    rw [hk2, nI_sub (by omega), show k + 1 - 1 = k by omega]
    refine v_pI (o := 0) (pc' := 29) dX8_undo_26 rfl gf_X8_39 pf_X8_39 kp_M rfl rfl (Or.inl rfl) rfl rfl ?_
    refine v_aload_n (pc' := 30) dX8_undo_29 rfl rfl ?_
    refine v_gI (o := 0) (pc' := 33) dX8_undo_30 rfl gf_X8_39 kp_M rfl rfl ?_
    rw [stI_self]
    exact v_iret dX8_undo_33 rfl (Nat.le_refl _) (Nat.le_refl _) ⟨rfl, by rw [mm_st2 (by decide)], rfl, rfl, rfl⟩
  · rw [hk'] at hb
    exact absurd hb (nI_ne0 (by omega) (by omega))
end B32
