/-! ===== DigestCachesModel: its row ===== -/
def sp (r X : Row) : Row := fun j => if j < 556 then r j else X j
def mm (I : MI) (r X : Row) : MI := va_up I 20 (sp r X)
theorem mm_at {I : MI} {r X : Row} {j : Nat} (h : j < 556) : mm I r X 20 j = r j := by
  unfold mm
  rw [va_up_self]
  exact if_pos h
theorem mm_o {I : MI} {r X : Row} {u : Nat} (h : u ≠ 20) : mm I r X u = I u := va_up_ne _ _ h
theorem sp_up {r X : Row} {j : Nat} {v : Int32} (h : j < 556) : va_up (sp r X) j v = sp (va_up r j v) X := by
  funext k
  unfold va_up sp
  by_cases hk : k = j
  · rw [if_pos hk, if_pos (by omega)]
    exact (if_pos hk).symm
  · rw [if_neg hk]
    by_cases h2 : k < 556
    · rw [if_pos h2, if_pos h2]
      exact (if_neg hk).symm
    · rw [if_neg h2, if_neg h2]
theorem mm_st {I : MI} {r X : Row} {j : Nat} {v : Int32} (h : j < 556) : stI (mm I r X) 20 j v = mm I (va_up r j v) X := by
  unfold stI mm
  rw [va_up_self, bx_uu, sp_up h]
theorem mm_st2 {I : MI} {r X : Row} {g j : Nat} {v : Int32} (h : g ≠ 20) : stI (mm I r X) g j v = mm (stI I g j v) r X := by
  unfold stI mm
  rw [va_up_ne _ _ h, up_comm _ (Ne.symm h)]
def MF (I : MI) : Prop := ∀ f, f < 4 → I 22 f = nI (fA f) ∧ I 23 f = nI (fB f)
theorem MF_mm {I : MI} {r X : Row} (h : MF I) : MF (mm I r X) := fun f hf => by
  rw [mm_o (by decide), mm_o (by decide)]
  exact h f hf
theorem up_same {α : Type} {r : Nat → α} {j : Nat} : va_up r j (r j) = r := by
  funext k
  unfold va_up
  by_cases h : k = j
  · rw [if_pos h, h]
  · rw [if_neg h]
theorem in16 {v : Int32} : ¬ (v < nI 1 ∨ nI 6 < v) ↔ (0 < v ∧ v < nI 7) := by
  have h1 : (nI 1).toInt = 1 := by decide
  have h6 : (nI 6).toInt = 6 := by decide
  have h7 : (nI 7).toInt = 7 := by decide
  have h0 : (0 : Int32).toInt = 0 := by decide
  rw [Int32.lt_iff_toInt_lt, Int32.lt_iff_toInt_lt, Int32.lt_iff_toInt_lt, Int32.lt_iff_toInt_lt, h1, h6, h7, h0]
  omega
theorem ite10 {p : Prop} {h : Decidable p} : (if p then nI 0 else nI 1) = 0 ↔ p := by
  by_cases hp : p
  · rw [if_pos hp]
    exact ⟨fun _ => hp, fun _ => rfl⟩
  · rw [if_neg hp]
    exact ⟨fun q => absurd q (by decide), fun q => absurd q hp⟩
theorem nar10 {p : Prop} {h : Decidable p} : narrow .boolean (.int (if p then nI 0 else nI 1)) = .int (if p then nI 0 else nI 1) := by
  by_cases hp : p
  · rw [if_pos hp]; rfl
  · rw [if_neg hp]; rfl
section B30
variable {l : Launch} {I : MI} {L : ML} {R : MR} {r X : Row}
theorem m_in {a b c : Int32} : Ok l yX8_in cX8_in 3 (some .boolean) 0 0 0 [.int a, .int b, .int c] I L R 287 (eqP (some (.int (if a < b ∨ c < a then nI 0 else nI 1))) I L R 287) := by
  refine Ok.ofV [some (.int a), some (.int b), some (.int c)] rfl (by decide) (Nat.le_of_ble_eq_true rfl) ?_
  refine v_iload_n (pc' := 1) dX8_in_0 rfl rfl ?_
  refine v_iload_n (pc' := 2) dX8_in_1 rfl rfl ?_
  refine v_icmp_lt (pc' := 5) (tgt := 14) dX8_in_2 rfl (by decide) (fun hb => ?_) (fun hb => ?_)
  · refine v_iconst (v := nI 0) (pc' := 15) dX8_in_14 rfl (by decide) ?_
    exact v_zret dX8_in_15 rfl rfl (Nat.le_refl _) (Nat.le_refl _) ⟨by rw [if_pos (Or.inl hb)], rfl, rfl, rfl, rfl⟩
  · refine v_iload_n (pc' := 6) dX8_in_5 rfl rfl ?_
    refine v_iload_n (pc' := 7) dX8_in_6 rfl rfl ?_
    refine v_icmp_gt (pc' := 10) (tgt := 14) dX8_in_7 rfl (by decide) (fun hc => ?_) (fun hc => ?_)
    · refine v_iconst (v := nI 0) (pc' := 15) dX8_in_14 rfl (by decide) ?_
      exact v_zret dX8_in_15 rfl rfl (Nat.le_refl _) (Nat.le_refl _) ⟨by rw [if_pos (Or.inr hc)], rfl, rfl, rfl, rfl⟩
    · refine v_iconst (v := nI 1) (pc' := 11) dX8_in_10 rfl (by decide) ?_
      refine v_goto (tgt := 15) dX8_in_11 (by decide) ?_
      exact v_zret dX8_in_15 rfl rfl (Nat.le_refl _) (Nat.le_refl _) ⟨by rw [if_neg (fun q => q.elim hb hc)], rfl, rfl, rfl, rfl⟩
theorem m_isCache {a : Int32} : Ok l yX8_isCache cX8_isCache 1 (some .boolean) 1 0 0 [.int a] I L R 287 (eqP (some (.int (if noC a then nI 0 else nI 1))) I L R 287) := by
  refine Ok.ofV [some (.int a)] rfl (by decide) (Nat.le_of_ble_eq_true rfl) ?_
  refine v_iload_n (pc' := 1) dX8_isCache_0 rfl rfl ?_
  refine v_iconst (v := nI 0) (pc' := 2) dX8_isCache_1 rfl (by decide) ?_
  refine v_iconst (v := nI 4) (pc' := 3) dX8_isCache_2 rfl (by decide) ?_
  refine v_cS3i (pc' := 6) dX8_isCache_3 rfl cs_X8_47 (Nat.le_of_ble_eq_true rfl) rfl (m_in) ?_
  exact v_zret dX8_isCache_6 rfl nar10 (Nat.le_refl _) (Nat.le_refl _) ⟨rfl, rfl, rfl, rfl, rfl⟩
theorem m_isObject {a : Int32} : Ok l yX8_isObject cX8_isObject 1 (some .boolean) 1 0 0 [.int a] I L R 287 (eqP (some (.int (if noO a then nI 0 else nI 1))) I L R 287) := by
  refine Ok.ofV [some (.int a)] rfl (by decide) (Nat.le_of_ble_eq_true rfl) ?_
  refine v_iload_n (pc' := 1) dX8_isObject_0 rfl rfl ?_
  refine v_iconst (v := nI 0) (pc' := 2) dX8_isObject_1 rfl (by decide) ?_
  refine v_sipush (v := nI 999) (pc' := 5) dX8_isObject_2 rfl (by decide) ?_
  refine v_cS3i (pc' := 8) dX8_isObject_5 rfl cs_X8_47 (Nat.le_of_ble_eq_true rfl) rfl (m_in) ?_
  exact v_zret dX8_isObject_8 rfl nar10 (Nat.le_refl _) (Nat.le_refl _) ⟨rfl, rfl, rfl, rfl, rfl⟩
theorem m_no1 {c x : Nat} (hc : c < 5) (hx : x < 1000) : Ok l yX8_no cX8_no 2 (some .int) 2 0 0 [.int (nI c), .int (nI x)] I L R 287 (eqP (some (.int (nI 0))) I L R 287) := by
  refine Ok.ofV [some (.int (nI c)), some (.int (nI x))] rfl (by decide) (Nat.le_of_ble_eq_true rfl) ?_
  refine v_iload_n (pc' := 1) dX8_no_0 rfl rfl ?_
  refine v_cS1i (pc' := 4) dX8_no_1 rfl cs_X8_88 (Nat.le_of_ble_eq_true rfl) rfl (m_isCache) ?_
  refine v_if_ne (pc' := 7) (tgt := 12) dX8_no_4 rfl (by decide) (fun hb => ?_) (fun hb => ?_)
  · refine v_iload_n (pc' := 13) dX8_no_12 rfl rfl ?_
    refine v_cS1i (pc' := 16) dX8_no_13 rfl cs_X8_93 (Nat.le_of_ble_eq_true rfl) rfl (m_isObject) ?_
    refine v_if_eq (pc' := 19) (tgt := 23) dX8_no_16 rfl (by decide) (fun hq => ?_) (fun hq => ?_)
    · exact absurd (ite10.mp hq) (ncO hx)
    · refine v_iconst (v := nI 0) (pc' := 20) dX8_no_19 rfl (by decide) ?_
      refine v_goto (tgt := 25) dX8_no_20 (by decide) ?_
      exact v_iret dX8_no_25 rfl (Nat.le_refl _) (Nat.le_refl _) ⟨rfl, rfl, rfl, rfl, rfl⟩
  · exact absurd (ite10.mp (hb)) (ncC hc)
theorem m_no2 {a b : Int32} (h : noC a ∨ noO b) : Ok l yX8_no cX8_no 2 (some .int) 2 0 0 [.int a, .int b] I L R 287 (eqP (some (.int (ofE a))) I L R 287) := by
  refine Ok.ofV [some (.int a), some (.int b)] rfl (by decide) (Nat.le_of_ble_eq_true rfl) ?_
  refine v_iload_n (pc' := 1) dX8_no_0 rfl rfl ?_
  refine v_cS1i (pc' := 4) dX8_no_1 rfl cs_X8_88 (Nat.le_of_ble_eq_true rfl) rfl (m_isCache) ?_
  refine v_if_ne (pc' := 7) (tgt := 12) dX8_no_4 rfl (by decide) (fun hb => ?_) (fun hb => ?_)
  · have hn : ¬ noC a := fun z => hb (ite10.mpr z)
    refine v_iload_n (pc' := 13) dX8_no_12 rfl rfl ?_
    refine v_cS1i (pc' := 16) dX8_no_13 rfl cs_X8_93 (Nat.le_of_ble_eq_true rfl) rfl (m_isObject) ?_
    refine v_if_eq (pc' := 19) (tgt := 23) dX8_no_16 rfl (by decide) (fun hq => ?_) (fun hq => ?_)
    · refine v_bipush (v := -3) (pc' := 25) dX8_no_23 rfl (by decide) ?_
      exact v_iret dX8_no_25 rfl (Nat.le_refl _) (Nat.le_refl _) ⟨by unfold ofE; rw [if_neg hn], rfl, rfl, rfl, rfl⟩
    · exact absurd (ite10.mpr (h.resolve_left hn)) hq
  · refine v_bipush (v := -2) (pc' := 9) dX8_no_7 rfl (by decide) ?_
    refine v_goto (tgt := 25) dX8_no_9 (by decide) ?_
    exact v_iret dX8_no_25 rfl (Nat.le_refl _) (Nat.le_refl _) ⟨by unfold ofE; rw [if_pos (ite10.mp hb)], rfl, rfl, rfl, rfl⟩
theorem ix6 {c w j : Nat} {a : Int32} (ha : a = nI w) (hj : 6 + 110 * c + w = j) : nI 6 + nI 110 * nI c + a = nI j := by
  rw [ha, pk_mul, nI_add, nI_add, hj]
theorem m_of {c w j : Nat} {a : Int32} (hR : RS R) (ha : a = nI w) (hj : 6 + 110 * c + w = j ∧ j < 556) : Ok l yX8_of cX8_of 3 (some .int) 0 0 0 [.ref 278, .int (nI c), .int a] (mm I r X) L R 287 (eqP (some (.int (r j))) (mm I r X) L R 287) := by
  refine Ok.ofV [some (.ref 278), some (.int (nI c)), some (.int a)] rfl (by decide) (Nat.le_of_ble_eq_true rfl) ?_
  refine v_aload_n (pc' := 1) dX8_of_0 rfl rfl ?_
  refine v_getQ (pc' := 4) dX8_of_1 rfl gf_X8_7 kp_M rfl (rf_M_row hR) ?_
  refine v_bipush (v := nI 6) (pc' := 6) dX8_of_4 rfl (by decide) ?_
  refine v_bipush (v := nI 110) (pc' := 8) dX8_of_6 rfl (by decide) ?_
  refine v_iload_n (pc' := 9) dX8_of_8 rfl rfl ?_
  refine v_imul (pc' := 10) dX8_of_9 rfl ?_
  refine v_iadd (pc' := 11) dX8_of_10 rfl ?_
  refine v_iload_n (pc' := 12) dX8_of_11 rfl rfl ?_
  refine v_iadd (pc' := 13) dX8_of_12 rfl ?_
  refine v_ial (pc' := 14) dX8_of_13 rfl kp_row (Nat.zero_add _) (ix6 ha hj.1) (by omega) ?_
  exact v_iret dX8_of_14 rfl (Nat.le_refl _) (Nat.le_refl _) ⟨by rw [mm_at hj.2], rfl, rfl, rfl, rfl⟩
theorem m_sets {c w j : Nat} {a v : Int32} (hR : RS R) (ha : a = nI w) (hj : 6 + 110 * c + w = j ∧ j < 556) : Ok l yX8_sets cX8_sets 4 none 0 0 0 [.ref 278, .int (nI c), .int a, .int v] (mm I r X) L R 287 (eqP (none) (mm I (va_up r j v) X) L R 287) := by
  refine Ok.ofV [some (.ref 278), some (.int (nI c)), some (.int a), some (.int v)] rfl (by decide) (Nat.le_of_ble_eq_true rfl) ?_
  refine v_aload_n (pc' := 1) dX8_sets_0 rfl rfl ?_
  refine v_getQ (pc' := 4) dX8_sets_1 rfl gf_X8_7 kp_M rfl (rf_M_row hR) ?_
  refine v_bipush (v := nI 6) (pc' := 6) dX8_sets_4 rfl (by decide) ?_
  refine v_bipush (v := nI 110) (pc' := 8) dX8_sets_6 rfl (by decide) ?_
  refine v_iload_n (pc' := 9) dX8_sets_8 rfl rfl ?_
  refine v_imul (pc' := 10) dX8_sets_9 rfl ?_
  refine v_iadd (pc' := 11) dX8_sets_10 rfl ?_
  refine v_iload_n (pc' := 12) dX8_sets_11 rfl rfl ?_
  refine v_iadd (pc' := 13) dX8_sets_12 rfl ?_
  refine v_iload_n (pc' := 14) dX8_sets_13 rfl rfl ?_
  refine v_ias (pc' := 15) dX8_sets_14 rfl kp_row (Nat.zero_add _) (ix6 ha hj.1) (by omega) ?_
  exact v_vret dX8_sets_15 rfl (Nat.le_refl _) (Nat.le_refl _) ⟨rfl, by rw [mm_st hj.2], rfl, rfl, rfl⟩
theorem m_adds {c w j : Nat} {a v : Int32} (hR : RS R) (ha : a = nI w) (hj : 6 + 110 * c + w = j ∧ j < 556) : Ok l yX8_adds cX8_adds 4 none 0 0 0 [.ref 278, .int (nI c), .int a, .int v] (mm I r X) L R 287 (eqP (none) (mm I (va_up r j (r j + v)) X) L R 287) := by
  refine Ok.ofV [some (.ref 278), some (.int (nI c)), some (.int a), some (.int v)] rfl (by decide) (Nat.le_of_ble_eq_true rfl) ?_
  refine v_aload_n (pc' := 1) dX8_adds_0 rfl rfl ?_
  refine v_getQ (pc' := 4) dX8_adds_1 rfl gf_X8_7 kp_M rfl (rf_M_row hR) ?_
  refine v_bipush (v := nI 6) (pc' := 6) dX8_adds_4 rfl (by decide) ?_
  refine v_bipush (v := nI 110) (pc' := 8) dX8_adds_6 rfl (by decide) ?_
  refine v_iload_n (pc' := 9) dX8_adds_8 rfl rfl ?_
  refine v_imul (pc' := 10) dX8_adds_9 rfl ?_
  refine v_iadd (pc' := 11) dX8_adds_10 rfl ?_
  refine v_iload_n (pc' := 12) dX8_adds_11 rfl rfl ?_
  refine v_iadd (pc' := 13) dX8_adds_12 rfl ?_
  refine v_dup2 (pc' := 14) dX8_adds_13 rfl rfl rfl ?_
  refine v_ial (pc' := 15) dX8_adds_14 rfl kp_row (Nat.zero_add _) (ix6 ha hj.1) (by omega) ?_
  refine v_iload_n (pc' := 16) dX8_adds_15 rfl rfl ?_
  refine v_iadd (pc' := 17) dX8_adds_16 rfl ?_
  refine v_ias (pc' := 18) dX8_adds_17 rfl kp_row (Nat.zero_add _) (ix6 ha hj.1) (by omega) ?_
  exact v_vret dX8_adds_18 rfl (Nat.le_refl _) (Nat.le_refl _) ⟨rfl, by rw [mm_st hj.2, mm_at hj.2], rfl, rfl, rfl⟩
theorem m_valueOf {x f M : Nat} (hR : RS R) (hF : MF I) (hM1 : 0 < M) (hM2 : M ≤ 64) (hx : x < 1000) (hf : f < 4) : Ok l yX8_valueOf cX8_valueOf 4 (some .int) 0 0 0 [.ref 278, .int (nI x), .int (nI f), .int (nI M)] I L R 287 (eqP (some (.int (nI (vf M x f)))) I L R 287) := by
  refine Ok.ofV [some (.ref 278), some (.int (nI x)), some (.int (nI f)), some (.int (nI M))] rfl (by decide) (Nat.le_of_ble_eq_true rfl) ?_
  refine v_iload_n (pc' := 1) dX8_valueOf_0 rfl rfl ?_
  refine v_aload_n (pc' := 2) dX8_valueOf_1 rfl rfl ?_
  refine v_getQ (pc' := 5) dX8_valueOf_2 rfl gf_X8_17 kp_M rfl (rf_M_factor hR) ?_
  refine v_iload_n (pc' := 6) dX8_valueOf_5 rfl rfl ?_
  refine v_ial (pc' := 7) dX8_valueOf_6 rfl kp_factor (Nat.zero_add _) rfl (by omega) ?_
  refine v_imul (pc' := 8) dX8_valueOf_7 rfl ?_
  refine v_aload_n (pc' := 9) dX8_valueOf_8 rfl rfl ?_
  refine v_getQ (pc' := 12) dX8_valueOf_9 rfl gf_X8_20 kp_M rfl (rf_M_more hR) ?_
  refine v_iload_n (pc' := 13) dX8_valueOf_12 rfl rfl ?_
  refine v_ial (pc' := 14) dX8_valueOf_13 rfl kp_more (Nat.zero_add _) rfl (by omega) ?_
  refine v_iadd (pc' := 15) dX8_valueOf_14 rfl ?_
  refine v_sipush (v := nI 997) (pc' := 18) dX8_valueOf_15 rfl (by decide) ?_
  refine v_irem (pc' := 19) dX8_valueOf_18 rfl (by decide) ?_
  refine v_iload_n (pc' := 20) dX8_valueOf_19 rfl rfl ?_
  refine v_irem (pc' := 21) dX8_valueOf_20 rfl (nI_ne0 hM1 (by omega)) ?_
  rw [(hF f hf).1, (hF f hf).2, pk_mul, nI_add, pk_rem (by have := vf_sm (f := f) hx; omega) (by decide) (by decide), pk_rem (by have : (x * fA f + fB f) % 997 < 997 := Nat.mod_lt _ (by decide); omega) hM1 (by omega)]
  exact v_iret dX8_valueOf_21 rfl (Nat.le_refl _) (Nat.le_refl _) ⟨rfl, rfl, rfl, rfl, rfl⟩
theorem m_counts {c x M K : Nat} {TR : Row} (hR : RS R) (hF : MF I) (hc : c < 5) (hM : r 0 = nI M) (hM1 : 0 < M) (hM2 : M ≤ 64) (hK : r 1 = nI K) (hK2 : K ≤ 4) (hx : x < 1000) (hT : fIn M c x K r = TR) : Ok l yX8_counts cX8_counts 5 none 1 0 0 [.ref 278, .int (nI c), .int (nI x)] (mm I r X) L R 287 (eqP (none) (mm I TR X) L R 287) := by
  refine Ok.ofV [some (.ref 278), some (.int (nI c)), some (.int (nI x)), none, none] rfl (by decide) (Nat.le_of_ble_eq_true rfl) ?_
  refine v_iconst (v := nI 0) (pc' := 1) dX8_counts_0 rfl (by decide) ?_
  refine v_istore_n3 (pc' := 2) dX8_counts_1 rfl (by decide) rfl ?_
  have loop : ∀ (n f : Nat) (w : Option Value) (q : Row), f + n = K → q = fIn M c x f r → V l yX8_counts cX8_counts 5 none (rmd 1 0 0) (QM 0 0 (eqP (none) (mm I TR X) L R 287)) (fun _ _ => True) 2 [some (.ref 278), some (.int (nI c)), some (.int (nI x)), some (.int (nI f)), w] [] (mm I q X) L R 287 0 0 := by
    intro n
    induction n with
    | zero =>
      intro f w q hf hq
      have e1 : mm I q X 20 1 = nI K := by rw [mm_at (by decide), hq, fIn_ne hM1 hM2 (by omega)]; exact hK
      refine v_iload_n (pc' := 3) dX8_counts_2 rfl rfl ?_
      refine v_aload_n (pc' := 4) dX8_counts_3 rfl rfl ?_
      refine v_getQ (pc' := 7) dX8_counts_4 rfl gf_X8_7 kp_M rfl (rf_M_row hR) ?_
      refine v_iconst (v := nI 1) (pc' := 8) dX8_counts_7 rfl (by decide) ?_
      refine v_ial (pc' := 9) dX8_counts_8 rfl kp_row (Nat.zero_add _) rfl (by omega) ?_
      refine v_icmp_ge (pc' := 12) (tgt := 59) dX8_counts_9 rfl (by decide) (fun hb => ?_) (fun hb => ?_)
      · exact v_vret dX8_counts_59 rfl (Nat.le_refl _) (Nat.le_refl _) ⟨rfl, by rw [hq, show f = K by omega, hT], rfl, rfl, rfl⟩
      · exact absurd (by rw [e1]; exact nI_le (by omega) (by omega)) hb
    | succ n ih =>
      intro f w q hf hq
      have e1 : mm I q X 20 1 = nI K := by rw [mm_at (by decide), hq, fIn_ne hM1 hM2 (by omega)]; exact hK
      have e0 : mm I q X 20 0 = nI M := by rw [mm_at (by decide), hq, fIn_ne hM1 hM2 (by omega)]; exact hM
      have hv := vf_lt (x := x) (f := f) hM1
      refine v_iload_n (pc' := 3) dX8_counts_2 rfl rfl ?_
      refine v_aload_n (pc' := 4) dX8_counts_3 rfl rfl ?_
      refine v_getQ (pc' := 7) dX8_counts_4 rfl gf_X8_7 kp_M rfl (rf_M_row hR) ?_
      refine v_iconst (v := nI 1) (pc' := 8) dX8_counts_7 rfl (by decide) ?_
      refine v_ial (pc' := 9) dX8_counts_8 rfl kp_row (Nat.zero_add _) rfl (by omega) ?_
      refine v_icmp_ge (pc' := 12) (tgt := 59) dX8_counts_9 rfl (by decide) (fun hb => ?_) (fun hb => ?_)
      · exact absurd (by rw [e1] at hb; exact hb) (nI_ge (by omega) (by omega))
      · refine v_bipush (v := nI 18) (pc' := 14) dX8_counts_12 rfl (by decide) ?_
        refine v_aload_n (pc' := 15) dX8_counts_14 rfl rfl ?_
        refine v_iload_n (pc' := 16) dX8_counts_15 rfl rfl ?_
        refine v_iload_n (pc' := 17) dX8_counts_16 rfl rfl ?_
        refine v_aload_n (pc' := 18) dX8_counts_17 rfl rfl ?_
        refine v_getQ (pc' := 21) dX8_counts_18 rfl gf_X8_7 kp_M rfl (rf_M_row hR) ?_
        refine v_iconst (v := nI 0) (pc' := 22) dX8_counts_21 rfl (by decide) ?_
        refine v_ial (pc' := 23) dX8_counts_22 rfl kp_row (Nat.zero_add _) rfl (by omega) ?_
        rw [e0]
        refine v_cV3i (pc' := 26) dX8_counts_23 rfl cv_X8_51 kp_M (Nat.le_of_ble_eq_true rfl) rfl (m_valueOf hR (MF_mm hF) hM1 hM2 hx (by omega)) ?_
        refine v_iadd (pc' := 27) dX8_counts_26 rfl ?_
        refine v_istore4 (pc' := 29) dX8_counts_27 rfl (by decide) rfl ?_
        refine v_aload_n (pc' := 30) dX8_counts_29 rfl rfl ?_
        refine v_iload_n (pc' := 31) dX8_counts_30 rfl rfl ?_
        refine v_iload (pc' := 33) dX8_counts_31 rfl rfl ?_
        refine v_aload_n (pc' := 34) dX8_counts_33 rfl rfl ?_
        refine v_iload_n (pc' := 35) dX8_counts_34 rfl rfl ?_
        refine v_iload (pc' := 37) dX8_counts_35 rfl rfl ?_
        refine v_cV2i (pc' := 40) dX8_counts_37 rfl cv_X8_55 kp_M (Nat.le_of_ble_eq_true rfl) rfl (m_of (w := 18 + vf M x f) (j := 24 + 110 * c + vf M x f) hR (nI_add _ _) (by omega)) ?_
        refine v_bipush (v := nI 7) (pc' := 42) dX8_counts_40 rfl (by decide) ?_
        refine v_icmp_ge (pc' := 45) (tgt := 49) dX8_counts_42 rfl (by decide) (fun hz => ?_) (fun hz => ?_)
        · refine v_iconst (v := nI 0) (pc' := 50) dX8_counts_49 rfl (by decide) ?_
          refine v_cV3v (pc' := 53) dX8_counts_50 rfl cv_X8_59 kp_M (Nat.le_of_ble_eq_true rfl) rfl (m_adds (w := 18 + vf M x f) (j := 24 + 110 * c + vf M x f) hR (nI_add _ _) (by omega)) ?_
          refine v_iinc3 (pc' := 56) dX8_counts_53 rfl (by decide) rfl (inc_nI _) ?_
          refine v_goto (tgt := 2) dX8_counts_56 (by decide) ?_
          refine ih (f + 1) _ _ (by omega) ?_
          show _ = cIn1 c (vf M x f) (fIn M c x f r)
          rw [← hq]
          unfold cIn1
          rw [if_neg (Int32.not_lt.mpr hz), nI_0, Int32.add_zero, up_same]
        · refine v_iconst (v := nI 1) (pc' := 46) dX8_counts_45 rfl (by decide) ?_
          refine v_goto (tgt := 50) dX8_counts_46 (by decide) ?_
          refine v_cV3v (pc' := 53) dX8_counts_50 rfl cv_X8_59 kp_M (Nat.le_of_ble_eq_true rfl) rfl (m_adds (w := 18 + vf M x f) (j := 24 + 110 * c + vf M x f) hR (nI_add _ _) (by omega)) ?_
          refine v_iinc3 (pc' := 56) dX8_counts_53 rfl (by decide) rfl (inc_nI _) ?_
          refine v_goto (tgt := 2) dX8_counts_56 (by decide) ?_
          refine ih (f + 1) _ _ (by omega) ?_
          show _ = cIn1 c (vf M x f) (fIn M c x f r)
          rw [← hq]
          unfold cIn1
          rw [if_pos (Int32.not_le.mp hz)]
  exact loop K 0 _ r (by omega) rfl
theorem m_discounts {c x M K : Nat} {TR : Row} (hR : RS R) (hF : MF I) (hc : c < 5) (hM : r 0 = nI M) (hM1 : 0 < M) (hM2 : M ≤ 64) (hK : r 1 = nI K) (hK2 : K ≤ 4) (hx : x < 1000) (hT : fOut M c x K r = TR) : Ok l yX8_discounts cX8_discounts 5 none 1 0 0 [.ref 278, .int (nI c), .int (nI x)] (mm I r X) L R 287 (eqP (none) (mm I TR X) L R 287) := by
  refine Ok.ofV [some (.ref 278), some (.int (nI c)), some (.int (nI x)), none, none] rfl (by decide) (Nat.le_of_ble_eq_true rfl) ?_
  refine v_iconst (v := nI 0) (pc' := 1) dX8_discounts_0 rfl (by decide) ?_
  refine v_istore_n3 (pc' := 2) dX8_discounts_1 rfl (by decide) rfl ?_
  have loop : ∀ (n f : Nat) (w : Option Value) (q : Row), f + n = K → q = fOut M c x f r → V l yX8_discounts cX8_discounts 5 none (rmd 1 0 0) (QM 0 0 (eqP (none) (mm I TR X) L R 287)) (fun _ _ => True) 2 [some (.ref 278), some (.int (nI c)), some (.int (nI x)), some (.int (nI f)), w] [] (mm I q X) L R 287 0 0 := by
    intro n
    induction n with
    | zero =>
      intro f w q hf hq
      have e1 : mm I q X 20 1 = nI K := by rw [mm_at (by decide), hq, fOut_ne hM1 hM2 (by omega)]; exact hK
      refine v_iload_n (pc' := 3) dX8_discounts_2 rfl rfl ?_
      refine v_aload_n (pc' := 4) dX8_discounts_3 rfl rfl ?_
      refine v_getQ (pc' := 7) dX8_discounts_4 rfl gf_X8_7 kp_M rfl (rf_M_row hR) ?_
      refine v_iconst (v := nI 1) (pc' := 8) dX8_discounts_7 rfl (by decide) ?_
      refine v_ial (pc' := 9) dX8_discounts_8 rfl kp_row (Nat.zero_add _) rfl (by omega) ?_
      refine v_icmp_ge (pc' := 12) (tgt := 63) dX8_discounts_9 rfl (by decide) (fun hb => ?_) (fun hb => ?_)
      · exact v_vret dX8_discounts_63 rfl (Nat.le_refl _) (Nat.le_refl _) ⟨rfl, by rw [hq, show f = K by omega, hT], rfl, rfl, rfl⟩
      · exact absurd (by rw [e1]; exact nI_le (by omega) (by omega)) hb
    | succ n ih =>
      intro f w q hf hq
      have e1 : mm I q X 20 1 = nI K := by rw [mm_at (by decide), hq, fOut_ne hM1 hM2 (by omega)]; exact hK
      have e0 : mm I q X 20 0 = nI M := by rw [mm_at (by decide), hq, fOut_ne hM1 hM2 (by omega)]; exact hM
      have hv := vf_lt (x := x) (f := f) hM1
      refine v_iload_n (pc' := 3) dX8_discounts_2 rfl rfl ?_
      refine v_aload_n (pc' := 4) dX8_discounts_3 rfl rfl ?_
      refine v_getQ (pc' := 7) dX8_discounts_4 rfl gf_X8_7 kp_M rfl (rf_M_row hR) ?_
      refine v_iconst (v := nI 1) (pc' := 8) dX8_discounts_7 rfl (by decide) ?_
      refine v_ial (pc' := 9) dX8_discounts_8 rfl kp_row (Nat.zero_add _) rfl (by omega) ?_
      refine v_icmp_ge (pc' := 12) (tgt := 63) dX8_discounts_9 rfl (by decide) (fun hb => ?_) (fun hb => ?_)
      · exact absurd (by rw [e1] at hb; exact hb) (nI_ge (by omega) (by omega))
      · refine v_bipush (v := nI 18) (pc' := 14) dX8_discounts_12 rfl (by decide) ?_
        refine v_aload_n (pc' := 15) dX8_discounts_14 rfl rfl ?_
        refine v_iload_n (pc' := 16) dX8_discounts_15 rfl rfl ?_
        refine v_iload_n (pc' := 17) dX8_discounts_16 rfl rfl ?_
        refine v_aload_n (pc' := 18) dX8_discounts_17 rfl rfl ?_
        refine v_getQ (pc' := 21) dX8_discounts_18 rfl gf_X8_7 kp_M rfl (rf_M_row hR) ?_
        refine v_iconst (v := nI 0) (pc' := 22) dX8_discounts_21 rfl (by decide) ?_
        refine v_ial (pc' := 23) dX8_discounts_22 rfl kp_row (Nat.zero_add _) rfl (by omega) ?_
        rw [e0]
        refine v_cV3i (pc' := 26) dX8_discounts_23 rfl cv_X8_51 kp_M (Nat.le_of_ble_eq_true rfl) rfl (m_valueOf hR (MF_mm hF) hM1 hM2 hx (by omega)) ?_
        refine v_iadd (pc' := 27) dX8_discounts_26 rfl ?_
        refine v_istore4 (pc' := 29) dX8_discounts_27 rfl (by decide) rfl ?_
        refine v_aload_n (pc' := 30) dX8_discounts_29 rfl rfl ?_
        refine v_iload_n (pc' := 31) dX8_discounts_30 rfl rfl ?_
        refine v_iload (pc' := 33) dX8_discounts_31 rfl rfl ?_
        refine v_aload_n (pc' := 34) dX8_discounts_33 rfl rfl ?_
        refine v_iload_n (pc' := 35) dX8_discounts_34 rfl rfl ?_
        refine v_iload (pc' := 37) dX8_discounts_35 rfl rfl ?_
        refine v_cV2i (pc' := 40) dX8_discounts_37 rfl cv_X8_55 kp_M (Nat.le_of_ble_eq_true rfl) rfl (m_of (w := 18 + vf M x f) (j := 24 + 110 * c + vf M x f) hR (nI_add _ _) (by omega)) ?_
        refine v_iconst (v := nI 1) (pc' := 41) dX8_discounts_40 rfl (by decide) ?_
        refine v_bipush (v := nI 6) (pc' := 43) dX8_discounts_41 rfl (by decide) ?_
        refine v_cS3i (pc' := 46) dX8_discounts_43 rfl cs_X8_47 (Nat.le_of_ble_eq_true rfl) rfl (m_in) ?_
        refine v_if_eq (pc' := 49) (tgt := 53) dX8_discounts_46 rfl (by decide) (fun hz => ?_) (fun hz => ?_)
        · refine v_iconst (v := nI 0) (pc' := 54) dX8_discounts_53 rfl (by decide) ?_
          refine v_cV3v (pc' := 57) dX8_discounts_54 rfl cv_X8_59 kp_M (Nat.le_of_ble_eq_true rfl) rfl (m_adds (w := 18 + vf M x f) (j := 24 + 110 * c + vf M x f) hR (nI_add _ _) (by omega)) ?_
          refine v_iinc3 (pc' := 60) dX8_discounts_57 rfl (by decide) rfl (inc_nI _) ?_
          refine v_goto (tgt := 2) dX8_discounts_60 (by decide) ?_
          refine ih (f + 1) _ _ (by omega) ?_
          show _ = cOut1 c (vf M x f) (fOut M c x f r)
          rw [← hq]
          unfold cOut1
          rw [if_neg (fun z => absurd (ite10.mp hz) (in16.mpr z)), nI_0, Int32.add_zero, up_same]
        · refine v_iconst (v := -1) (pc' := 50) dX8_discounts_49 rfl (by decide) ?_
          refine v_goto (tgt := 54) dX8_discounts_50 (by decide) ?_
          refine v_cV3v (pc' := 57) dX8_discounts_54 rfl cv_X8_59 kp_M (Nat.le_of_ble_eq_true rfl) rfl (m_adds (w := 18 + vf M x f) (j := 24 + 110 * c + vf M x f) hR (nI_add _ _) (by omega)) ?_
          refine v_iinc3 (pc' := 60) dX8_discounts_57 rfl (by decide) rfl (inc_nI _) ?_
          refine v_goto (tgt := 2) dX8_discounts_60 (by decide) ?_
          refine ih (f + 1) _ _ (by omega) ?_
          show _ = cOut1 c (vf M x f) (fOut M c x f r)
          rw [← hq]
          unfold cOut1
          rw [if_pos (in16.mp (fun z => hz (ite10.mpr z))), ← sub1_nI]
          rfl
  exact loop K 0 _ r (by omega) rfl
theorem m_bits {m : Int64} : Ok l yX8_bits cX8_bits 4 (some .int) 0 0 0 [.long m] I L R 287 (eqP (some (.int (pcn m 64))) I L R 287) := by
  refine Ok.ofV [some (.long m), none, none, none] rfl (by decide) (Nat.le_of_ble_eq_true rfl) ?_
  refine v_iconst (v := nI 0) (pc' := 1) dX8_bits_0 rfl (by decide) ?_
  refine v_istore_n2 (pc' := 2) dX8_bits_1 rfl (by decide) rfl ?_
  refine v_iconst (v := nI 0) (pc' := 3) dX8_bits_2 rfl (by decide) ?_
  refine v_istore_n3 (pc' := 4) dX8_bits_3 rfl (by decide) rfl ?_
  have loop : ∀ (n k : Nat), k + n = 64 → V l yX8_bits cX8_bits 4 (some .int) (rmd 0 0 0) (QM 0 0 (eqP (some (.int (pcn m 64))) I L R 287)) (fun _ _ => True) 4 [some (.long m), none, some (.int (pcn m k)), some (.int (nI k))] [] I L R 287 0 0 := by
    intro n
    induction n with
    | zero =>
      intro k hk
      refine v_iload_n (pc' := 5) dX8_bits_4 rfl rfl ?_
      refine v_bipush (v := nI 64) (pc' := 7) dX8_bits_5 rfl (by decide) ?_
      refine v_icmp_ge (pc' := 10) (tgt := 25) dX8_bits_7 rfl (by decide) (fun hb => ?_) (fun hb => ?_)
      · refine v_iload_n (pc' := 26) dX8_bits_25 rfl rfl ?_
        exact v_iret dX8_bits_26 rfl (Nat.le_refl _) (Nat.le_refl _) ⟨by rw [show k = 64 by omega], rfl, rfl, rfl, rfl⟩
      · exact absurd (nI_le (by omega) (by omega)) hb
    | succ n ih =>
      intro k hk
      refine v_iload_n (pc' := 5) dX8_bits_4 rfl rfl ?_
      refine v_bipush (v := nI 64) (pc' := 7) dX8_bits_5 rfl (by decide) ?_
      refine v_icmp_ge (pc' := 10) (tgt := 25) dX8_bits_7 rfl (by decide) (fun hb => ?_) (fun hb => ?_)
      · exact absurd hb (nI_ge (by omega) (by omega))
      · refine v_iload_n (pc' := 11) dX8_bits_10 rfl rfl ?_
        refine v_lload_n (pc' := 12) dX8_bits_11 rfl rfl ?_
        refine v_iload_n (pc' := 13) dX8_bits_12 rfl rfl ?_
        refine v_lushr (pc' := 14) dX8_bits_13 rfl ?_
        refine v_lconst (v := 1) (pc' := 15) dX8_bits_14 rfl (by decide) ?_
        refine v_land (pc' := 16) dX8_bits_15 rfl ?_
        refine v_l2i (pc' := 17) dX8_bits_16 rfl ?_
        refine v_iadd (pc' := 18) dX8_bits_17 rfl ?_
        refine v_istore_n2 (pc' := 19) dX8_bits_18 rfl (by decide) rfl ?_
        refine v_iinc3 (pc' := 22) dX8_bits_19 rfl (by decide) rfl (inc_nI _) ?_
        refine v_goto (tgt := 4) dX8_bits_22 (by decide) ?_
        exact ih (k + 1) (by omega)
  exact loop 64 0 (by omega)
theorem m_bitsOf {c M : Nat} {ta : Int64} (hR : RS R) (hc : c < 5) (hM : r 0 = nI M) (hM2 : M ≤ 64) (hT : fBt r c M = ta) : Ok l yX8_bitsOf cX8_bitsOf 5 (some .long) 1 0 0 [.ref 278, .int (nI c)] (mm I r X) L R 287 (eqP (some (.long ta)) (mm I r X) L R 287) := by
  have e0 : mm I r X 20 0 = nI M := by rw [mm_at (by decide)]; exact hM
  refine Ok.ofV [some (.ref 278), some (.int (nI c)), none, none, none] rfl (by decide) (Nat.le_of_ble_eq_true rfl) ?_
  refine v_lconst (v := 0) (pc' := 1) dX8_bitsOf_0 rfl (by decide) ?_
  refine v_lstore_n2 (pc' := 2) dX8_bitsOf_1 rfl (by decide) rfl ?_
  refine v_iconst (v := nI 0) (pc' := 3) dX8_bitsOf_2 rfl (by decide) ?_
  refine v_istore4 (pc' := 5) dX8_bitsOf_3 rfl (by decide) rfl ?_
  have loop : ∀ (n k : Nat), k + n = M → V l yX8_bitsOf cX8_bitsOf 5 (some .long) (rmd 1 0 0) (QM 0 0 (eqP (some (.long ta)) (mm I r X) L R 287)) (fun _ _ => True) 5 [some (.ref 278), some (.int (nI c)), some (.long (fBt r c k)), none, some (.int (nI k))] [] (mm I r X) L R 287 0 0 := by
    intro n
    induction n with
    | zero =>
      intro k hk
      refine v_iload (pc' := 7) dX8_bitsOf_5 rfl rfl ?_
      refine v_aload_n (pc' := 8) dX8_bitsOf_7 rfl rfl ?_
      refine v_getQ (pc' := 11) dX8_bitsOf_8 rfl gf_X8_7 kp_M rfl (rf_M_row hR) ?_
      refine v_iconst (v := nI 0) (pc' := 12) dX8_bitsOf_11 rfl (by decide) ?_
      refine v_ial (pc' := 13) dX8_bitsOf_12 rfl kp_row (Nat.zero_add _) rfl (by omega) ?_
      refine v_icmp_ge (pc' := 16) (tgt := 46) dX8_bitsOf_13 rfl (by decide) (fun hb => ?_) (fun hb => ?_)
      · refine v_lload_n (pc' := 47) dX8_bitsOf_46 rfl rfl ?_
        exact v_lret dX8_bitsOf_47 rfl (Nat.le_refl _) (Nat.le_refl _) ⟨by rw [show k = M by omega, hT], rfl, rfl, rfl, rfl⟩
      · exact absurd (by rw [e0]; exact nI_le (by omega) (by omega)) hb
    | succ n ih =>
      intro k hk
      refine v_iload (pc' := 7) dX8_bitsOf_5 rfl rfl ?_
      refine v_aload_n (pc' := 8) dX8_bitsOf_7 rfl rfl ?_
      refine v_getQ (pc' := 11) dX8_bitsOf_8 rfl gf_X8_7 kp_M rfl (rf_M_row hR) ?_
      refine v_iconst (v := nI 0) (pc' := 12) dX8_bitsOf_11 rfl (by decide) ?_
      refine v_ial (pc' := 13) dX8_bitsOf_12 rfl kp_row (Nat.zero_add _) rfl (by omega) ?_
      refine v_icmp_ge (pc' := 16) (tgt := 46) dX8_bitsOf_13 rfl (by decide) (fun hb => ?_) (fun hb => ?_)
      · exact absurd (by rw [e0] at hb; exact hb) (nI_ge (by omega) (by omega))
      · refine v_lload_n (pc' := 17) dX8_bitsOf_16 rfl rfl ?_
        refine v_aload_n (pc' := 18) dX8_bitsOf_17 rfl rfl ?_
        refine v_iload_n (pc' := 19) dX8_bitsOf_18 rfl rfl ?_
        refine v_bipush (v := nI 18) (pc' := 21) dX8_bitsOf_19 rfl (by decide) ?_
        refine v_iload (pc' := 23) dX8_bitsOf_21 rfl rfl ?_
        refine v_iadd (pc' := 24) dX8_bitsOf_23 rfl ?_
        refine v_cV2i (pc' := 27) dX8_bitsOf_24 rfl cv_X8_55 kp_M (Nat.le_of_ble_eq_true rfl) rfl (m_of (w := 18 + k) (j := 24 + 110 * c + k) hR (nI_add _ _) (by omega)) ?_
        refine v_if_le (pc' := 30) (tgt := 37) dX8_bitsOf_27 rfl (by decide) (fun hq => ?_) (fun hq => ?_)
        · refine v_lconst (v := 0) (pc' := 38) dX8_bitsOf_37 rfl (by decide) ?_
          refine v_lor (pc' := 39) dX8_bitsOf_38 rfl ?_
          refine v_lstore_n2 (pc' := 40) dX8_bitsOf_39 rfl (by decide) rfl ?_
          refine v_iinc4 (pc' := 43) dX8_bitsOf_40 rfl (by decide) rfl (inc_nI _) ?_
          refine v_goto (tgt := 5) dX8_bitsOf_43 (by decide) ?_
          have e : fBt r c (k + 1) = fBt r c k := if_neg (Int32.not_lt.mpr hq)
          have := ih (k + 1) (by omega)
          rw [e] at this
          rw [Int64.or_zero]
          exact this
        · refine v_lconst (v := 1) (pc' := 31) dX8_bitsOf_30 rfl (by decide) ?_
          refine v_iload (pc' := 33) dX8_bitsOf_31 rfl rfl ?_
          refine v_lshl (pc' := 34) dX8_bitsOf_33 rfl ?_
          refine v_goto (tgt := 38) dX8_bitsOf_34 (by decide) ?_
          refine v_lor (pc' := 39) dX8_bitsOf_38 rfl ?_
          refine v_lstore_n2 (pc' := 40) dX8_bitsOf_39 rfl (by decide) rfl ?_
          refine v_iinc4 (pc' := 43) dX8_bitsOf_40 rfl (by decide) rfl (inc_nI _) ?_
          refine v_goto (tgt := 5) dX8_bitsOf_43 (by decide) ?_
          have e : fBt r c (k + 1) = fBt r c k ||| lshf 1 (nI k) := if_pos (Int32.not_le.mp hq)
          have := ih (k + 1) (by omega)
          rw [e] at this
          exact this
  exact loop M 0 (by omega)
theorem m_isIn {M K x : Nat} {m : Int64} (hR : RS R) (hF : MF I) (hM : r 0 = nI M) (hM1 : 0 < M) (hM2 : M ≤ 64) (hK : r 1 = nI K) (hK2 : K ≤ 4) (hx : x < 1000) : Ok l yX8_isIn cX8_isIn 6 (some .boolean) 1 0 0 [.ref 278, .long m, .int (nI x)] (mm I r X) L R 287 (eqP (some (.int (if fIs M x m K = true then nI 1 else nI 0))) (mm I r X) L R 287) := by
  have e0 : mm I r X 20 0 = nI M := by rw [mm_at (by decide)]; exact hM
  have e1 : mm I r X 20 1 = nI K := by rw [mm_at (by decide)]; exact hK
  refine Ok.ofV [some (.ref 278), some (.long m), none, some (.int (nI x)), none, none] rfl (by decide) (Nat.le_of_ble_eq_true rfl) ?_
  refine v_iconst (v := nI 1) (pc' := 1) dX8_isIn_0 rfl (by decide) ?_
  refine v_istore4 (pc' := 3) dX8_isIn_1 rfl (by decide) rfl ?_
  refine v_iconst (v := nI 0) (pc' := 4) dX8_isIn_3 rfl (by decide) ?_
  refine v_istore5 (pc' := 6) dX8_isIn_4 rfl (by decide) rfl ?_
  have loop : ∀ (n f : Nat), f + n = K → V l yX8_isIn cX8_isIn 6 (some .boolean) (rmd 1 0 0) (QM 0 0 (eqP (some (.int (if fIs M x m K = true then nI 1 else nI 0))) (mm I r X) L R 287)) (fun _ _ => True) 6 [some (.ref 278), some (.long m), none, some (.int (nI x)), some (.int (if fIs M x m f = true then nI 1 else nI 0)), some (.int (nI f))] [] (mm I r X) L R 287 0 0 := by
    intro n
    induction n with
    | zero =>
      intro f hf
      refine v_iload (pc' := 8) dX8_isIn_6 rfl rfl ?_
      refine v_aload_n (pc' := 9) dX8_isIn_8 rfl rfl ?_
      refine v_getQ (pc' := 12) dX8_isIn_9 rfl gf_X8_7 kp_M rfl (rf_M_row hR) ?_
      refine v_iconst (v := nI 1) (pc' := 13) dX8_isIn_12 rfl (by decide) ?_
      refine v_ial (pc' := 14) dX8_isIn_13 rfl kp_row (Nat.zero_add _) rfl (by omega) ?_
      refine v_icmp_ge (pc' := 17) (tgt := 57) dX8_isIn_14 rfl (by decide) (fun hb => ?_) (fun hb => ?_)
      · refine v_iload (pc' := 59) dX8_isIn_57 rfl rfl ?_
        exact v_zret dX8_isIn_59 rfl nar01 (Nat.le_refl _) (Nat.le_refl _) ⟨by rw [show f = K by omega], rfl, rfl, rfl, rfl⟩
      · exact absurd (by rw [e1]; exact nI_le (by omega) (by omega)) hb
    | succ n ih =>
      intro f hf
      have e : fIs M x m (f + 1) = (fIs M x m f && decide (¬ lush m (nI (vf M x f)) &&& 1 = 0)) := rfl
      have nxt := ih (f + 1) (by omega)
      refine v_iload (pc' := 8) dX8_isIn_6 rfl rfl ?_
      refine v_aload_n (pc' := 9) dX8_isIn_8 rfl rfl ?_
      refine v_getQ (pc' := 12) dX8_isIn_9 rfl gf_X8_7 kp_M rfl (rf_M_row hR) ?_
      refine v_iconst (v := nI 1) (pc' := 13) dX8_isIn_12 rfl (by decide) ?_
      refine v_ial (pc' := 14) dX8_isIn_13 rfl kp_row (Nat.zero_add _) rfl (by omega) ?_
      refine v_icmp_ge (pc' := 17) (tgt := 57) dX8_isIn_14 rfl (by decide) (fun hb => ?_) (fun hb => ?_)
      · exact absurd (by rw [e1] at hb; exact hb) (nI_ge (by omega) (by omega))
      · refine v_iload (pc' := 19) dX8_isIn_17 rfl rfl ?_
        refine v_if_eq (pc' := 22) (tgt := 48) dX8_isIn_19 rfl (by decide) (fun hz => ?_) (fun hz => ?_)
        · refine v_iconst (v := nI 0) (pc' := 49) dX8_isIn_48 rfl (by decide) ?_
          refine v_istore4 (pc' := 51) dX8_isIn_49 rfl (by decide) rfl ?_
          refine v_iinc5 (pc' := 54) dX8_isIn_51 rfl (by decide) rfl (inc_nI _) ?_
          refine v_goto (tgt := 6) dX8_isIn_54 (by decide) ?_
          rw [e, if_neg (show ¬ (fIs M x m f && decide (¬ lush m (nI (vf M x f)) &&& 1 = 0)) = true by rw [Bool.and_eq_true]; exact fun q => ite01.mp hz q.1)] at nxt
          exact nxt
        · have hz : fIs M x m f = true := Classical.not_not.mp (fun q => hz (ite01.mpr q))
          refine v_lload_n (pc' := 23) dX8_isIn_22 rfl rfl ?_
          refine v_aload_n (pc' := 24) dX8_isIn_23 rfl rfl ?_
          refine v_iload_n (pc' := 25) dX8_isIn_24 rfl rfl ?_
          refine v_iload (pc' := 27) dX8_isIn_25 rfl rfl ?_
          refine v_aload_n (pc' := 28) dX8_isIn_27 rfl rfl ?_
          refine v_getQ (pc' := 31) dX8_isIn_28 rfl gf_X8_7 kp_M rfl (rf_M_row hR) ?_
          refine v_iconst (v := nI 0) (pc' := 32) dX8_isIn_31 rfl (by decide) ?_
          refine v_ial (pc' := 33) dX8_isIn_32 rfl kp_row (Nat.zero_add _) rfl (by omega) ?_
          rw [e0]
          refine v_cV3i (pc' := 36) dX8_isIn_33 rfl cv_X8_51 kp_M (Nat.le_of_ble_eq_true rfl) rfl (m_valueOf hR (MF_mm hF) hM1 hM2 hx (by omega)) ?_
          refine v_lushr (pc' := 37) dX8_isIn_36 rfl ?_
          refine v_lconst (v := 1) (pc' := 38) dX8_isIn_37 rfl (by decide) ?_
          refine v_land (pc' := 39) dX8_isIn_38 rfl ?_
          refine v_lconst (v := 1) (pc' := 40) dX8_isIn_39 rfl (by decide) ?_
          refine v_lcmp (pc' := 41) dX8_isIn_40 rfl ?_
          refine v_if_ne (pc' := 44) (tgt := 48) dX8_isIn_41 rfl (by decide) (fun hy => ?_) (fun hy => ?_)
          · refine v_iconst (v := nI 0) (pc' := 49) dX8_isIn_48 rfl (by decide) ?_
            refine v_istore4 (pc' := 51) dX8_isIn_49 rfl (by decide) rfl ?_
            refine v_iinc5 (pc' := 54) dX8_isIn_51 rfl (by decide) rfl (inc_nI _) ?_
            refine v_goto (tgt := 6) dX8_isIn_54 (by decide) ?_
            have h0 : lush m (nI (vf M x f)) &&& 1 = 0 := (and1 _).resolve_right (fun q => hy (lcmp0.mpr q))
            rw [e, if_neg (show ¬ (fIs M x m f && decide (¬ lush m (nI (vf M x f)) &&& 1 = 0)) = true by rw [Bool.and_eq_true, decide_eq_true_eq]; exact fun q => q.2 h0)] at nxt
            exact nxt
          · have h0 : ¬ lush m (nI (vf M x f)) &&& 1 = 0 := by
              rw [lcmp0.mp hy]
              decide
            refine v_iconst (v := nI 1) (pc' := 45) dX8_isIn_44 rfl (by decide) ?_
            refine v_goto (tgt := 49) dX8_isIn_45 (by decide) ?_
            refine v_istore4 (pc' := 51) dX8_isIn_49 rfl (by decide) rfl ?_
            refine v_iinc5 (pc' := 54) dX8_isIn_51 rfl (by decide) rfl (inc_nI _) ?_
            refine v_goto (tgt := 6) dX8_isIn_54 (by decide) ?_
            rw [e, if_pos (show (fIs M x m f && decide (¬ lush m (nI (vf M x f)) &&& 1 = 0)) = true by rw [Bool.and_eq_true, decide_eq_true_eq]; exact ⟨hz, h0⟩)] at nxt
            exact nxt
  exact loop K 0 (by omega)
theorem m_find {c x sz : Nat} (hR : RS R) (hc : c < 5) (hz : r (7 + 110 * c) = nI sz) (hz2 : sz ≤ 16) : Ok l yX8_find cX8_find 5 (some .int) 1 0 0 [.ref 278, .int (nI c), .int (nI x)] (mm I r X) L R 287 (eqP (some (.int (oIx (fdx r c x sz)))) (mm I r X) L R 287) := by
  refine Ok.ofV [some (.ref 278), some (.int (nI c)), some (.int (nI x)), none, none] rfl (by decide) (Nat.le_of_ble_eq_true rfl) ?_
  refine v_iconst (v := -1) (pc' := 1) dX8_find_0 rfl (by decide) ?_
  refine v_istore_n3 (pc' := 2) dX8_find_1 rfl (by decide) rfl ?_
  refine v_iconst (v := nI 0) (pc' := 3) dX8_find_2 rfl (by decide) ?_
  refine v_istore4 (pc' := 5) dX8_find_3 rfl (by decide) rfl ?_
  have loop : ∀ (n k : Nat), k + n = sz → V l yX8_find cX8_find 5 (some .int) (rmd 1 0 0) (QM 0 0 (eqP (some (.int (oIx (fdx r c x sz)))) (mm I r X) L R 287)) (fun _ _ => True) 5 [some (.ref 278), some (.int (nI c)), some (.int (nI x)), some (.int (oIx (fdx r c x k))), some (.int (nI k))] [] (mm I r X) L R 287 0 0 := by
    intro n
    induction n with
    | zero =>
      intro k hk
      refine v_iload (pc' := 7) dX8_find_5 rfl rfl ?_
      refine v_aload_n (pc' := 8) dX8_find_7 rfl rfl ?_
      refine v_iload_n (pc' := 9) dX8_find_8 rfl rfl ?_
      refine v_iconst (v := nI 1) (pc' := 10) dX8_find_9 rfl (by decide) ?_
      refine v_cV2i (pc' := 13) dX8_find_10 rfl cv_X8_55 kp_M (Nat.le_of_ble_eq_true rfl) rfl (m_of (w := 1) (j := 7 + 110 * c) hR rfl (by omega)) ?_
      refine v_icmp_ge (pc' := 16) (tgt := 42) dX8_find_13 rfl (by decide) (fun hb => ?_) (fun hb => ?_)
      · refine v_iload_n (pc' := 43) dX8_find_42 rfl rfl ?_
        exact v_iret dX8_find_43 rfl (Nat.le_refl _) (Nat.le_refl _) ⟨by rw [show k = sz by omega], rfl, rfl, rfl, rfl⟩
      · exact absurd (by rw [hz]; exact nI_le (by omega) (by omega)) hb
    | succ n ih =>
      intro k hk
      have nxt := ih (k + 1) (by omega)
      refine v_iload (pc' := 7) dX8_find_5 rfl rfl ?_
      refine v_aload_n (pc' := 8) dX8_find_7 rfl rfl ?_
      refine v_iload_n (pc' := 9) dX8_find_8 rfl rfl ?_
      refine v_iconst (v := nI 1) (pc' := 10) dX8_find_9 rfl (by decide) ?_
      refine v_cV2i (pc' := 13) dX8_find_10 rfl cv_X8_55 kp_M (Nat.le_of_ble_eq_true rfl) rfl (m_of (w := 1) (j := 7 + 110 * c) hR rfl (by omega)) ?_
      refine v_icmp_ge (pc' := 16) (tgt := 42) dX8_find_13 rfl (by decide) (fun hb => ?_) (fun hb => ?_)
      · exact absurd (by rw [hz] at hb; exact hb) (nI_ge (by omega) (by omega))
      · refine v_aload_n (pc' := 17) dX8_find_16 rfl rfl ?_
        refine v_iload_n (pc' := 18) dX8_find_17 rfl rfl ?_
        refine v_iconst (v := nI 2) (pc' := 19) dX8_find_18 rfl (by decide) ?_
        refine v_iload (pc' := 21) dX8_find_19 rfl rfl ?_
        refine v_iadd (pc' := 22) dX8_find_21 rfl ?_
        refine v_cV2i (pc' := 25) dX8_find_22 rfl cv_X8_55 kp_M (Nat.le_of_ble_eq_true rfl) rfl (m_of (w := 2 + k) (j := 8 + 110 * c + k) hR (nI_add _ _) (by omega)) ?_
        refine v_iload_n (pc' := 26) dX8_find_25 rfl rfl ?_
        refine v_icmp_ne (pc' := 29) (tgt := 34) dX8_find_26 rfl (by decide) (fun hq => ?_) (fun hq => ?_)
        · refine v_iload_n (pc' := 35) dX8_find_34 rfl rfl ?_
          refine v_istore_n3 (pc' := 36) dX8_find_35 rfl (by decide) rfl ?_
          refine v_iinc4 (pc' := 39) dX8_find_36 rfl (by decide) rfl (inc_nI _) ?_
          refine v_goto (tgt := 5) dX8_find_39 (by decide) ?_
          rw [show fdx r c x (k + 1) = fdx r c x k from if_neg hq] at nxt
          exact nxt
        · refine v_iload (pc' := 31) dX8_find_29 rfl rfl ?_
          refine v_goto (tgt := 35) dX8_find_31 (by decide) ?_
          refine v_istore_n3 (pc' := 36) dX8_find_35 rfl (by decide) rfl ?_
          refine v_iinc4 (pc' := 39) dX8_find_36 rfl (by decide) rfl (inc_nI _) ?_
          refine v_goto (tgt := 5) dX8_find_39 (by decide) ?_
          rw [show fdx r c x (k + 1) = some k from if_pos hq] at nxt
          exact nxt
  exact loop sz 0 (by omega)
end B30
