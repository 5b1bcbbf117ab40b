/-! ===== DigestCachesModel: the walk ===== -/
abbrev mbit (v : Int32) (c : Nat) : Prop := v >>> (nI c &&& 31) &&& nI 1 = 0
def mtS (v : Int32) (b : Nat) : Int32 := v ||| nI 1 <<< (nI b &&& 31)
def mtV (ws : List Nat) : Int32 := ws.foldl mtS 0
theorem mt_tab : ((List.range 32).all fun t => (List.range 5).all fun b => decide (mtS (nI t) b = nI (t ||| 2 ^ b)) && decide (t ||| 2 ^ b < 32) && (List.range 5).all fun c => (decide (nI (t ||| 2 ^ b) >>> (nI c &&& 31) &&& nI 1 = 0) == (decide (nI t >>> (nI c &&& 31) &&& nI 1 = 0) && decide (c ≠ b)))) = true := by decide +kernel
theorem mt_step {t b : Nat} (ht : t < 32) (hb : b < 5) : mtS (nI t) b = nI (t ||| 2 ^ b) ∧ t ||| 2 ^ b < 32 ∧ ∀ c, c < 5 → (mbit (nI (t ||| 2 ^ b)) c ↔ (mbit (nI t) c ∧ c ≠ b)) := by
  have h := List.all_eq_true.mp (List.all_eq_true.mp mt_tab t (List.mem_range.mpr ht)) b (List.mem_range.mpr hb)
  rw [Bool.and_eq_true, Bool.and_eq_true] at h
  refine ⟨of_decide_eq_true h.1.1, of_decide_eq_true h.1.2, fun c hc => ?_⟩
  have h2 := List.all_eq_true.mp h.2 c (List.mem_range.mpr hc)
  rw [beq_iff_eq] at h2
  constructor
  · intro q
    rw [decide_eq_true q] at h2
    have := (Bool.and_eq_true _ _).mp h2.symm
    exact ⟨of_decide_eq_true this.1, of_decide_eq_true this.2⟩
  · intro q
    rw [decide_eq_true q.1, decide_eq_true q.2] at h2
    exact of_decide_eq_true h2
theorem mt_all : ∀ (ws : List Nat) (t : Nat), t < 32 → (∀ w ∈ ws, w < 5) → ∀ c, c < 5 → (mbit (ws.foldl mtS (nI t)) c ↔ (mbit (nI t) c ∧ c ∉ ws))
  | [], t, _, _, c, _ => ⟨fun h => ⟨h, fun q => by cases q⟩, fun h => h.1⟩
  | b :: ws, t, ht, hw, c, hc => by
    obtain ⟨h1, h2, h3⟩ := mt_step ht (hw b (List.mem_cons_self ..))
    have ih := mt_all ws (t ||| 2 ^ b) h2 (fun w q => hw w (List.mem_cons_of_mem _ q)) c hc
    rw [List.foldl_cons, h1, ih, h3 c hc]
    constructor
    · intro q
      exact ⟨q.1.1, fun z => (List.mem_cons.mp z).elim q.1.2 q.2⟩
    · intro q
      exact ⟨⟨q.1, fun z => q.2 (List.mem_cons.mpr (Or.inl z))⟩, fun z => q.2 (List.mem_cons.mpr (Or.inr z))⟩
theorem mt_0 : ∀ c, c < 5 → mbit (nI 0) c := by
  intro c hc
  have : ((List.range 5).all fun c => decide (nI 0 >>> (nI c &&& 31) &&& nI 1 = 0)) = true := by decide +kernel
  have h2 := List.all_eq_true.mp this c (List.mem_range.mpr hc)
  exact of_decide_eq_true h2
theorem mt_mem {ws : List Nat} (hw : ∀ w ∈ ws, w < 5) {c : Nat} (hc : c < 5) : mbit (mtV ws) c ↔ c ∉ ws := by
  have h := mt_all ws 0 (by decide) hw c hc
  exact h.trans ⟨fun q => q.2, fun q => ⟨mt_0 c hc, q⟩⟩
theorem mtV_push {ws : List Nat} {b : Nat} : mtV (ws ++ [b]) = mtV ws ||| nI 1 <<< (nI b &&& 31) := by
  unfold mtV
  rw [List.foldl_append]
  rfl
/-- the model's memory of a walk -/
def gN (ln fh : Nat) (mt : Int32) (w : Row) : Row := va_up (va_up (va_up w 1 (nI ln)) 2 (nI fh)) 3 mt
def gw (I : MI) (ws : List Nat) (fh : Nat) : MI := va_up (va_up I 21 (gN ws.length fh (mtV ws) (I 21))) 25 (wsA ws (I 25))
theorem gw_21 {I : MI} {ws : List Nat} {fh : Nat} : gw I ws fh 21 = gN ws.length fh (mtV ws) (I 21) := by
  unfold gw
  rw [va_up_ne _ _ (by decide), va_up_self]
theorem gw_25 {I : MI} {ws : List Nat} {fh : Nat} : gw I ws fh 25 = wsA ws (I 25) := va_up_self _ _ _
theorem gw_o {I : MI} {ws : List Nat} {fh u : Nat} (h1 : u ≠ 21) (h2 : u ≠ 25) : gw I ws fh u = I u := by
  unfold gw
  rw [va_up_ne _ _ h2, va_up_ne _ _ h1]
theorem gw_ext {I J : MI} {ws : List Nat} {fh : Nat} (h21 : J 21 = gN ws.length fh (mtV ws) (I 21)) (h25 : J 25 = wsA ws (I 25)) (ho : ∀ u, u ≠ 21 → u ≠ 25 → J u = I u) : J = gw I ws fh := by
  funext u
  by_cases h1 : u = 21
  · subst h1
    rw [gw_21, h21]
  · by_cases h2 : u = 25
    · subst h2
      rw [gw_25, h25]
    · rw [gw_o h1 h2, ho u h1 h2]
theorem MF_gw {I : MI} {ws : List Nat} {fh : Nat} (h : MF I) : MF (gw I ws fh) := fun f hf => by
  rw [gw_o (by decide) (by decide), gw_o (by decide) (by decide)]
  exact h f hf
section B33
variable {l : Launch} {I : MI} {L : ML} {R : MR} {r X : Row} {m Y : Msk}
theorem m_chanceOf {b : Int32} {M K : Nat} (hM1 : 0 < M) (hM2 : M ≤ 64) (hK2 : K ≤ 4) : Ok l yX8_chanceOf cX8_chanceOf 8 (some .int) 0 0 0 [.int b, .int (nI M), .int (nI K)] I L R 287 (eqP (some (.int (rCh b M K))) I L R 287) := by
  refine Ok.ofV [some (.int b), some (.int (nI M)), some (.int (nI K)), none, none, none, none, none] rfl (by decide) (Nat.le_of_ble_eq_true rfl) ?_
  refine v_ldc2 (pc' := 3) dX8_chanceOf_0 rfl kc_X8_110 ?_
  refine v_lstore_n3 (pc' := 4) dX8_chanceOf_3 rfl (by decide) rfl ?_
  refine v_lconst (v := 1) (pc' := 5) dX8_chanceOf_4 rfl (by decide) ?_
  refine v_lstore5 (pc' := 7) dX8_chanceOf_5 rfl (by decide) rfl ?_
  refine v_iconst (v := nI 0) (pc' := 8) dX8_chanceOf_7 rfl (by decide) ?_
  refine v_istore7 (pc' := 10) dX8_chanceOf_8 rfl (by decide) rfl ?_
  have loop : ∀ (n f : Nat), f + n = K → V l yX8_chanceOf cX8_chanceOf 8 (some .int) (rmd 0 0 0) (QM 0 0 (eqP (some (.int (rCh b M K))) I L R 287)) (fun _ _ => True) 10 [some (.int b), some (.int (nI M)), some (.int (nI K)), some (.long (fAb b f)), none, some (.long (fBe M f)), none, some (.int (nI f))] [] I L R 287 0 0 := by
    intro n
    induction n with
    | zero =>
      intro f hf
      have hfK : f = K := by omega
      subst hfK
      refine v_iload (pc' := 12) dX8_chanceOf_10 rfl rfl ?_
      refine v_iload_n (pc' := 13) dX8_chanceOf_12 rfl rfl ?_
      refine v_icmp_ge (pc' := 16) (tgt := 34) dX8_chanceOf_13 rfl (by decide) (fun hb => ?_) (fun hb => ?_)
      · refine v_lload_n (pc' := 35) dX8_chanceOf_34 rfl rfl ?_
        refine v_lload (pc' := 37) dX8_chanceOf_35 rfl rfl ?_
        refine v_ldiv (pc' := 38) dX8_chanceOf_37 rfl (fBe_pos hM1 hM2 hK2).2 ?_
        refine v_l2i (pc' := 39) dX8_chanceOf_38 rfl ?_
        exact v_iret dX8_chanceOf_39 rfl (Nat.le_refl _) (Nat.le_refl _) ⟨rfl, rfl, rfl, rfl, rfl⟩
      · exact absurd (nI_le (by omega) (by omega)) hb
    | succ n ih =>
      intro f hf
      refine v_iload (pc' := 12) dX8_chanceOf_10 rfl rfl ?_
      refine v_iload_n (pc' := 13) dX8_chanceOf_12 rfl rfl ?_
      refine v_icmp_ge (pc' := 16) (tgt := 34) dX8_chanceOf_13 rfl (by decide) (fun hb => ?_) (fun hb => ?_)
      · exact absurd hb (nI_ge (by omega) (by omega))
      · refine v_lload_n (pc' := 17) dX8_chanceOf_16 rfl rfl ?_
        refine v_iload_n (pc' := 18) dX8_chanceOf_17 rfl rfl ?_
        refine v_i2l (pc' := 19) dX8_chanceOf_18 rfl ?_
        refine v_lmul (pc' := 20) dX8_chanceOf_19 rfl ?_
        refine v_lstore_n3 (pc' := 21) dX8_chanceOf_20 rfl (by decide) rfl ?_
        refine v_lload (pc' := 23) dX8_chanceOf_21 rfl rfl ?_
        refine v_iload_n (pc' := 24) dX8_chanceOf_23 rfl rfl ?_
        refine v_i2l (pc' := 25) dX8_chanceOf_24 rfl ?_
        refine v_lmul (pc' := 26) dX8_chanceOf_25 rfl ?_
        refine v_lstore5 (pc' := 28) dX8_chanceOf_26 rfl (by decide) rfl ?_
        refine v_iinc7 (pc' := 31) dX8_chanceOf_28 rfl (by decide) rfl (inc_nI _) ?_
        refine v_goto (tgt := 10) dX8_chanceOf_31 (by decide) ?_
        exact ih (f + 1) (by omega)
  exact loop K 0 (by omega)
theorem m_isFresh {a b : Nat} (hR : RS R) (ha : a < 5) (hb5 : b < 5) : Ok l yX8_isFresh cX8_isFresh 3 (some .boolean) 1 0 0 [.ref 278, .int (nI a), .int (nI b)] (mm I r X) L R 287 (eqP (some (.int (if rFr r a b then nI 1 else nI 0))) (mm I r X) L R 287) := by
  refine Ok.ofV [some (.ref 278), some (.int (nI a)), some (.int (nI b))] rfl (by decide) (Nat.le_of_ble_eq_true rfl) ?_
  refine v_aload_n (pc' := 1) dX8_isFresh_0 rfl rfl ?_
  refine v_iload_n (pc' := 2) dX8_isFresh_1 rfl rfl ?_
  refine v_bipush (v := nI 100) (pc' := 4) dX8_isFresh_2 rfl (by decide) ?_
  refine v_iload_n (pc' := 5) dX8_isFresh_4 rfl rfl ?_
  refine v_iadd (pc' := 6) dX8_isFresh_5 rfl ?_
  refine v_cV2i (pc' := 9) dX8_isFresh_6 rfl cv_X8_55 kp_M (Nat.le_of_ble_eq_true rfl) rfl (m_of (w := 100 + b) (j := 106 + 110 * a + b) hR (nI_add _ _) (by omega)) ?_
  refine v_if_eq (pc' := 12) (tgt := 41) dX8_isFresh_9 rfl (by decide) (fun hb => ?_) (fun hb => ?_)
  · refine v_iconst (v := nI 0) (pc' := 42) dX8_isFresh_41 rfl (by decide) ?_
    exact v_zret dX8_isFresh_42 rfl rfl (Nat.le_refl _) (Nat.le_refl _) ⟨by rw [if_neg (fun q => q.1 hb)], rfl, rfl, rfl, rfl⟩
  · refine v_aload_n (pc' := 13) dX8_isFresh_12 rfl rfl ?_
    refine v_getQ (pc' := 16) dX8_isFresh_13 rfl gf_X8_7 kp_M rfl (rf_M_row hR) ?_
    refine v_iconst (v := nI 2) (pc' := 17) dX8_isFresh_16 rfl (by decide) ?_
    refine v_ial (pc' := 18) dX8_isFresh_17 rfl kp_row (Nat.zero_add _) rfl (by omega) ?_
    refine v_aload_n (pc' := 19) dX8_isFresh_18 rfl rfl ?_
    refine v_iload_n (pc' := 20) dX8_isFresh_19 rfl rfl ?_
    refine v_bipush (v := nI 105) (pc' := 22) dX8_isFresh_20 rfl (by decide) ?_
    refine v_iload_n (pc' := 23) dX8_isFresh_22 rfl rfl ?_
    refine v_iadd (pc' := 24) dX8_isFresh_23 rfl ?_
    refine v_cV2i (pc' := 27) dX8_isFresh_24 rfl cv_X8_55 kp_M (Nat.le_of_ble_eq_true rfl) rfl (m_of (w := 105 + b) (j := 111 + 110 * a + b) hR (nI_add _ _) (by omega)) ?_
    refine v_isub (pc' := 28) dX8_isFresh_27 rfl ?_
    refine v_aload_n (pc' := 29) dX8_isFresh_28 rfl rfl ?_
    refine v_getQ (pc' := 32) dX8_isFresh_29 rfl gf_X8_7 kp_M rfl (rf_M_row hR) ?_
    refine v_iconst (v := nI 3) (pc' := 33) dX8_isFresh_32 rfl (by decide) ?_
    refine v_ial (pc' := 34) dX8_isFresh_33 rfl kp_row (Nat.zero_add _) rfl (by omega) ?_
    refine v_icmp_gt (pc' := 37) (tgt := 41) dX8_isFresh_34 rfl (by decide) (fun hq => ?_) (fun hq => ?_)
    · rw [mm_at (by decide), mm_at (by decide)] at hq
      refine v_iconst (v := nI 0) (pc' := 42) dX8_isFresh_41 rfl (by decide) ?_
      exact v_zret dX8_isFresh_42 rfl rfl (Nat.le_refl _) (Nat.le_refl _) ⟨by rw [if_neg (fun q => absurd q.2 (Int32.not_le.mpr hq))], rfl, rfl, rfl, rfl⟩
    · rw [mm_at (by decide), mm_at (by decide)] at hq
      refine v_iconst (v := nI 1) (pc' := 38) dX8_isFresh_37 rfl (by decide) ?_
      refine v_goto (tgt := 42) dX8_isFresh_38 (by decide) ?_
      exact v_zret dX8_isFresh_42 rfl rfl (Nat.le_refl _) (Nat.le_refl _) ⟨by rw [if_pos ⟨hb, Int32.not_lt.mp hq⟩], rfl, rfl, rfl, rfl⟩
theorem ix5 {a b : Nat} : nI 5 + nI 5 * nI a + nI b = nI (5 + 5 * a + b) := by
  rw [pk_mul, nI_add, nI_add]
theorem m_isExpected {a b x : Nat} (hR : RS R) (hF : MF I) (ha : a < 5) (hb5 : b < 5) (hx : x < 1000) (hm : IM r) : Ok l yX8_isExpected cX8_isExpected 4 (some .boolean) 2 0 0 [.ref 278, .int (nI a), .int (nI b), .int (nI x)] (mm I r X) (mL L m Y) R 287 (eqP (some (.int (if rEx r m a b x then nI 1 else nI 0))) (mm I r X) (mL L m Y) R 287) := by
  obtain ⟨m1, m2, m3, m4, m5, m6⟩ := id hm
  refine Ok.ofV [some (.ref 278), some (.int (nI a)), some (.int (nI b)), some (.int (nI x))] rfl (by decide) (Nat.le_of_ble_eq_true rfl) ?_
  refine v_aload_n (pc' := 1) dX8_isExpected_0 rfl rfl ?_
  refine v_iload_n (pc' := 2) dX8_isExpected_1 rfl rfl ?_
  refine v_iload_n (pc' := 3) dX8_isExpected_2 rfl rfl ?_
  refine v_cV2i (pc' := 6) dX8_isExpected_3 rfl cv_X8_119 kp_M (Nat.le_of_ble_eq_true rfl) rfl (m_isFresh hR ha hb5) ?_
  refine v_if_eq (pc' := 9) (tgt := 33) dX8_isExpected_6 rfl (by decide) (fun hb => ?_) (fun hb => ?_)
  · refine v_iconst (v := nI 0) (pc' := 34) dX8_isExpected_33 rfl (by decide) ?_
    exact v_zret dX8_isExpected_34 rfl rfl (Nat.le_refl _) (Nat.le_refl _) ⟨by rw [if_neg (fun q => ite01.mp hb q.1)], rfl, rfl, rfl, rfl⟩
  · refine v_aload_n (pc' := 10) dX8_isExpected_9 rfl rfl ?_
    refine v_aload_n (pc' := 11) dX8_isExpected_10 rfl rfl ?_
    refine v_getQ (pc' := 14) dX8_isExpected_11 rfl gf_X8_13 kp_M rfl (rf_M_mask hR) ?_
    refine v_iconst (v := nI 5) (pc' := 15) dX8_isExpected_14 rfl (by decide) ?_
    refine v_iconst (v := nI 5) (pc' := 16) dX8_isExpected_15 rfl (by decide) ?_
    refine v_iload_n (pc' := 17) dX8_isExpected_16 rfl rfl ?_
    refine v_imul (pc' := 18) dX8_isExpected_17 rfl ?_
    refine v_iadd (pc' := 19) dX8_isExpected_18 rfl ?_
    refine v_iload_n (pc' := 20) dX8_isExpected_19 rfl rfl ?_
    refine v_iadd (pc' := 21) dX8_isExpected_20 rfl ?_
    refine v_lal (pc' := 22) dX8_isExpected_21 rfl kp_mask (Nat.zero_add _) ix5 (by omega) ?_
    rw [mL_at (by omega)]
    refine v_iload_n (pc' := 23) dX8_isExpected_22 rfl rfl ?_
    refine v_cV2i (pc' := 26) dX8_isExpected_23 rfl cv_X8_106 kp_M (Nat.le_of_ble_eq_true rfl) rfl (m_isIn hR hF m1 (by omega) m3 m4 m6 hx) ?_
    refine v_if_eq (pc' := 29) (tgt := 33) dX8_isExpected_26 rfl (by decide) (fun hq => ?_) (fun hq => ?_)
    · refine v_iconst (v := nI 0) (pc' := 34) dX8_isExpected_33 rfl (by decide) ?_
      exact v_zret dX8_isExpected_34 rfl rfl (Nat.le_refl _) (Nat.le_refl _) ⟨by rw [if_neg (fun q => ite01.mp hq q.2)], rfl, rfl, rfl, rfl⟩
    · refine v_iconst (v := nI 1) (pc' := 30) dX8_isExpected_29 rfl (by decide) ?_
      refine v_goto (tgt := 34) dX8_isExpected_30 (by decide) ?_
      exact v_zret dX8_isExpected_34 rfl rfl (Nat.le_refl _) (Nat.le_refl _) ⟨by rw [if_pos ⟨Classical.not_not.mp (fun z => hb (ite01.mpr z)), Classical.not_not.mp (fun z => hq (ite01.mpr z))⟩], rfl, rfl, rfl, rfl⟩
theorem m_next {ws : List Nat} {a x : Nat} (hR : RS R) (hF : MF I) (hmt : I 21 3 = mtV ws) (hw : ∀ w ∈ ws, w < 5) (ha : a < 5) (hx : x < 1000) (hm : IM r) : Ok l yX8_next cX8_next 6 (some .int) 3 0 0 [.ref 278, .int (nI a), .int (nI x)] (mm I r X) (mL L m Y) R 287 (eqP (some (.int (oIx (nx r m ws a x 5)))) (mm I r X) (mL L m Y) R 287) := by
  have hmt' : mm I r X 21 3 = mtV ws := by rw [mm_o (by decide)]; exact hmt
  refine Ok.ofV [some (.ref 278), some (.int (nI a)), some (.int (nI x)), none, none, none] rfl (by decide) (Nat.le_of_ble_eq_true rfl) ?_
  refine v_iconst (v := -1) (pc' := 1) dX8_next_0 rfl (by decide) ?_
  refine v_istore_n3 (pc' := 2) dX8_next_1 rfl (by decide) rfl ?_
  refine v_iconst (v := nI 0) (pc' := 3) dX8_next_2 rfl (by decide) ?_
  refine v_istore4 (pc' := 5) dX8_next_3 rfl (by decide) rfl ?_
  have loop : ∀ (n t : Nat) (w : Option Value), t + n = 5 → V l yX8_next cX8_next 6 (some .int) (rmd 3 0 0) (QM 0 0 (eqP (some (.int (oIx (nx r m ws a x 5)))) (mm I r X) (mL L m Y) R 287)) (fun _ _ => True) 5 [some (.ref 278), some (.int (nI a)), some (.int (nI x)), some (.int (oIx (nx r m ws a x t))), some (.int (nI t)), w] [] (mm I r X) (mL L m Y) R 287 0 0 := by
    intro n
    induction n with
    | zero =>
      intro t w ht
      refine v_iload (pc' := 7) dX8_next_5 rfl rfl ?_
      refine v_iconst (v := nI 5) (pc' := 8) dX8_next_7 rfl (by decide) ?_
      refine v_icmp_ge (pc' := 11) (tgt := 99) dX8_next_8 rfl (by decide) (fun hb => ?_) (fun hb => ?_)
      · refine v_iload_n (pc' := 100) dX8_next_99 rfl rfl ?_
        exact v_iret dX8_next_100 rfl (Nat.le_refl _) (Nat.le_refl _) ⟨by rw [show t = 5 by omega], rfl, rfl, rfl, rfl⟩
      · exact absurd (nI_le (by omega) (by omega)) hb
    | succ n ih =>
      intro t w ht
      have hto : t < 5 := by omega
      have nxt := ih (t + 1)
      have no : ¬ cand r m ws a x t → ∀ w : Option Value, V l yX8_next cX8_next 6 (some .int) (rmd 3 0 0) (QM 0 0 (eqP (some (.int (oIx (nx r m ws a x 5)))) (mm I r X) (mL L m Y) R 287)) (fun _ _ => True) 53 [some (.ref 278), some (.int (nI a)), some (.int (nI x)), some (.int (oIx (nx r m ws a x t))), some (.int (nI t)), w] [.int (nI 0)] (mm I r X) (mL L m Y) R 287 0 0 := by
        intro hn w
        refine v_istore5 (pc' := 55) dX8_next_53 rfl (by decide) rfl ?_
        refine v_iload (pc' := 57) dX8_next_55 rfl rfl ?_
        refine v_if_eq (pc' := 60) (tgt := 91) dX8_next_57 rfl (by decide) (fun hb => ?_) (fun hb => ?_)
        · refine v_iload_n (pc' := 92) dX8_next_91 rfl rfl ?_
          refine v_istore_n3 (pc' := 93) dX8_next_92 rfl (by decide) rfl ?_
          refine v_iinc4 (pc' := 96) dX8_next_93 rfl (by decide) rfl (inc_nI _) ?_
          refine v_goto (tgt := 5) dX8_next_96 (by decide) ?_
          have := nxt (some (.int (nI 0))) (by omega)
          rw [show nx r m ws a x (t + 1) = nx r m ws a x t from if_neg hn] at this
          exact this
        · exact absurd rfl hb
      refine v_iload (pc' := 7) dX8_next_5 rfl rfl ?_
      refine v_iconst (v := nI 5) (pc' := 8) dX8_next_7 rfl (by decide) ?_
      refine v_icmp_ge (pc' := 11) (tgt := 99) dX8_next_8 rfl (by decide) (fun hb => ?_) (fun hb => ?_)
      · exact absurd hb (nI_ge (by omega) (by omega))
      · refine v_aload_n (pc' := 12) dX8_next_11 rfl rfl ?_
        refine v_gI (o := 3) (pc' := 15) dX8_next_12 rfl gf_X8_130 kp_M rfl rfl ?_
        rw [hmt']
        refine v_iload (pc' := 17) dX8_next_15 rfl rfl ?_
        refine v_ishr (pc' := 18) dX8_next_17 rfl ?_
        refine v_iconst (v := nI 1) (pc' := 19) dX8_next_18 rfl (by decide) ?_
        refine v_iand (pc' := 20) dX8_next_19 rfl ?_
        refine v_if_ne (pc' := 23) (tgt := 52) dX8_next_20 rfl (by decide) (fun hq => ?_) (fun hq => ?_)
        · refine v_iconst (v := nI 0) (pc' := 53) dX8_next_52 rfl (by decide) ?_
          exact no (fun z => hq ((mt_mem hw hto).mpr z.1)) _
        · refine v_aload_n (pc' := 24) dX8_next_23 rfl rfl ?_
          refine v_iload_n (pc' := 25) dX8_next_24 rfl rfl ?_
          refine v_bipush (v := nI 90) (pc' := 27) dX8_next_25 rfl (by decide) ?_
          refine v_iload (pc' := 29) dX8_next_27 rfl rfl ?_
          refine v_iadd (pc' := 30) dX8_next_29 rfl ?_
          refine v_cV2i (pc' := 33) dX8_next_30 rfl cv_X8_55 kp_M (Nat.le_of_ble_eq_true rfl) rfl (m_of (w := 90 + t) (j := 96 + 110 * a + t) hR (nI_add _ _) (by omega)) ?_
          refine v_iconst (v := nI 1) (pc' := 34) dX8_next_33 rfl (by decide) ?_
          refine v_icmp_ne (pc' := 37) (tgt := 52) dX8_next_34 rfl (by decide) (fun hu => ?_) (fun hu => ?_)
          · refine v_iconst (v := nI 0) (pc' := 53) dX8_next_52 rfl (by decide) ?_
            exact no (fun z => hu z.2.1) _
          · refine v_aload_n (pc' := 38) dX8_next_37 rfl rfl ?_
            refine v_iload_n (pc' := 39) dX8_next_38 rfl rfl ?_
            refine v_iload (pc' := 41) dX8_next_39 rfl rfl ?_
            refine v_iload_n (pc' := 42) dX8_next_41 rfl rfl ?_
            refine v_cV3i (pc' := 45) dX8_next_42 rfl cv_X8_127 kp_M (Nat.le_of_ble_eq_true rfl) rfl (m_isExpected hR hF ha hto hx hm) ?_
            refine v_if_eq (pc' := 48) (tgt := 52) dX8_next_45 rfl (by decide) (fun he => ?_) (fun he => ?_)
            · refine v_iconst (v := nI 0) (pc' := 53) dX8_next_52 rfl (by decide) ?_
              exact no (fun z => ite01.mp he z.2.2) _
            · have hcand : cand r m ws a x t := ⟨(mt_mem hw hto).mp hq, hu, Classical.not_not.mp (fun z => he (ite01.mpr z))⟩
              have e : nx r m ws a x (t + 1) = (match nx r m ws a x t with | none => some t | some q => if r (101 + 110 * a + t) < r (101 + 110 * a + q) then some t else some q) := if_pos hcand
              refine v_iconst (v := nI 1) (pc' := 49) dX8_next_48 rfl (by decide) ?_
              refine v_goto (tgt := 53) dX8_next_49 (by decide) ?_
              refine v_istore5 (pc' := 55) dX8_next_53 rfl (by decide) rfl ?_
              refine v_iload (pc' := 57) dX8_next_55 rfl rfl ?_
              refine v_if_eq (pc' := 60) (tgt := 91) dX8_next_57 rfl (by decide) (fun hz => ?_) (fun hz => ?_)
              · exact absurd hz (by decide)
              · cases hn : nx r m ws a x t with
                | none =>
                  show V l yX8_next cX8_next 6 (some .int) (rmd 3 0 0) (QM 0 0 (eqP (some (.int (oIx (nx r m ws a x 5)))) (mm I r X) (mL L m Y) R 287)) (fun _ _ => True) 60 [some (.ref 278), some (.int (nI a)), some (.int (nI x)), some (.int (-1)), some (.int (nI t)), some (.int (nI 1))] [] (mm I r X) (mL L m Y) R 287 0 0
                  refine v_iload_n (pc' := 61) dX8_next_60 rfl rfl ?_
                  refine v_if_lt (pc' := 64) (tgt := 86) dX8_next_61 rfl (by decide) (fun hy => ?_) (fun hy => ?_)
                  · refine v_iload (pc' := 88) dX8_next_86 rfl rfl ?_
                    refine v_goto (tgt := 92) dX8_next_88 (by decide) ?_
                    refine v_istore_n3 (pc' := 93) dX8_next_92 rfl (by decide) rfl ?_
                    refine v_iinc4 (pc' := 96) dX8_next_93 rfl (by decide) rfl (inc_nI _) ?_
                    refine v_goto (tgt := 5) dX8_next_96 (by decide) ?_
                    have := nxt (some (.int (nI 1))) (by omega)
                    rw [e, hn] at this
                    exact this
                  · exact absurd (by decide) hy
                | some q =>
                  have hqt := (nx_lt hn).1
                  show V l yX8_next cX8_next 6 (some .int) (rmd 3 0 0) (QM 0 0 (eqP (some (.int (oIx (nx r m ws a x 5)))) (mm I r X) (mL L m Y) R 287)) (fun _ _ => True) 60 [some (.ref 278), some (.int (nI a)), some (.int (nI x)), some (.int (nI q)), some (.int (nI t)), some (.int (nI 1))] [] (mm I r X) (mL L m Y) R 287 0 0
                  refine v_iload_n (pc' := 61) dX8_next_60 rfl rfl ?_
                  refine v_if_lt (pc' := 64) (tgt := 86) dX8_next_61 rfl (by decide) (fun hy => ?_) (fun hy => ?_)
                  · exact absurd hy (nI_pos (by omega))
                  · refine v_aload_n (pc' := 65) dX8_next_64 rfl rfl ?_
                    refine v_iload_n (pc' := 66) dX8_next_65 rfl rfl ?_
                    refine v_bipush (v := nI 95) (pc' := 68) dX8_next_66 rfl (by decide) ?_
                    refine v_iload (pc' := 70) dX8_next_68 rfl rfl ?_
                    refine v_iadd (pc' := 71) dX8_next_70 rfl ?_
                    refine v_cV2i (pc' := 74) dX8_next_71 rfl cv_X8_55 kp_M (Nat.le_of_ble_eq_true rfl) rfl (m_of (w := 95 + t) (j := 101 + 110 * a + t) hR (nI_add _ _) (by omega)) ?_
                    refine v_aload_n (pc' := 75) dX8_next_74 rfl rfl ?_
                    refine v_iload_n (pc' := 76) dX8_next_75 rfl rfl ?_
                    refine v_bipush (v := nI 95) (pc' := 78) dX8_next_76 rfl (by decide) ?_
                    refine v_iload_n (pc' := 79) dX8_next_78 rfl rfl ?_
                    refine v_iadd (pc' := 80) dX8_next_79 rfl ?_
                    refine v_cV2i (pc' := 83) dX8_next_80 rfl cv_X8_55 kp_M (Nat.le_of_ble_eq_true rfl) rfl (m_of (w := 95 + q) (j := 101 + 110 * a + q) hR (nI_add _ _) (by omega)) ?_
                    refine v_icmp_ge (pc' := 86) (tgt := 91) dX8_next_83 rfl (by decide) (fun hx2 => ?_) (fun hx2 => ?_)
                    · refine v_iload_n (pc' := 92) dX8_next_91 rfl rfl ?_
                      refine v_istore_n3 (pc' := 93) dX8_next_92 rfl (by decide) rfl ?_
                      refine v_iinc4 (pc' := 96) dX8_next_93 rfl (by decide) rfl (inc_nI _) ?_
                      refine v_goto (tgt := 5) dX8_next_96 (by decide) ?_
                      have := nxt (some (.int (nI 1))) (by omega)
                      rw [e, hn] at this
                      simp only [if_neg (Int32.not_lt.mpr hx2)] at this
                      exact this
                    · refine v_iload (pc' := 88) dX8_next_86 rfl rfl ?_
                      refine v_goto (tgt := 92) dX8_next_88 (by decide) ?_
                      refine v_istore_n3 (pc' := 93) dX8_next_92 rfl (by decide) rfl ?_
                      refine v_iinc4 (pc' := 96) dX8_next_93 rfl (by decide) rfl (inc_nI _) ?_
                      refine v_goto (tgt := 5) dX8_next_96 (by decide) ?_
                      have := nxt (some (.int (nI 1))) (by omega)
                      rw [e, hn] at this
                      simp only [if_pos (Int32.not_le.mp hx2)] at this
                      exact this
  exact loop 5 0 _ (by omega)
theorem m_goes {c x lim : Nat} {TI : MI} {ta : Int32} (hR : RS R) (hF : MF I) (hc : c < 5) (hx : x < 1000) (hlim : lim ≤ 4) (hm : IM r) (hi : ∀ c, c < 5 → IS r c) (hTI : gw I (skW r m c x lim).1 (skW r m c x lim).2.2 = TI) (hta : nI (skW r m c x lim).2.1 = ta) : Ok l yX8_goes cX8_goes 5 (some .int) 4 0 0 [.ref 278, .int (nI c), .int (nI x), .int (nI lim)] (mm I r X) (mL L m Y) R 287 (eqP (some (.int ta)) (mm TI r X) (mL L m Y) R 287) := by
  have e0 : stI (stI (stI (stI (mm I r X) 21 3 (nI 1 <<< (nI c &&& 31))) 21 2 (nI 0)) 25 0 (nI c)) 21 1 (nI 1) = mm (gw I [c] 0) r X := by
    rw [mm_st2 (by decide), mm_st2 (by decide), mm_st2 (by decide), mm_st2 (by decide)]
    congr 1
    refine gw_ext ?_ ?_ (fun u h1 h2 => ?_)
    · unfold stI
      rw [va_up_self, va_up_ne _ _ (show (21 : Nat) ≠ 25 by decide), va_up_self, va_up_self]
      have : mtV [c] = nI 1 <<< (nI c &&& 31) := Int32.zero_or
      funext v
      unfold gN
      rw [this]
      unfold va_up
      simp only [List.length_singleton]
      repeat' split
      all_goals first | rfl | (exfalso; omega)
    · unfold stI
      rw [va_up_ne _ _ (show (25 : Nat) ≠ 21 by decide), va_up_self, va_up_ne _ _ (show (25 : Nat) ≠ 21 by decide), va_up_ne _ _ (show (25 : Nat) ≠ 21 by decide)]
      have := wsA_push (ws := []) (b := c) (w := I 25)
      rw [wsA_nil] at this
      exact this
    · rw [stI_r h1, stI_r h2, stI_r h1, stI_r h1]
  refine Ok.ofV [some (.ref 278), some (.int (nI c)), some (.int (nI x)), some (.int (nI lim)), none] rfl (by decide) (Nat.le_of_ble_eq_true rfl) ?_
  refine v_iload_n (pc' := 1) dX8_goes_0 rfl rfl ?_
  refine v_istore4 (pc' := 3) dX8_goes_1 rfl (by decide) rfl ?_
  refine v_aload_n (pc' := 4) dX8_goes_3 rfl rfl ?_
  refine v_iconst (v := nI 1) (pc' := 5) dX8_goes_4 rfl (by decide) ?_
  refine v_iload_n (pc' := 6) dX8_goes_5 rfl rfl ?_
  refine v_ishl (pc' := 7) dX8_goes_6 rfl ?_
  refine v_pI (o := 3) (pc' := 10) dX8_goes_7 rfl gf_X8_130 pf_X8_130 kp_M rfl rfl (Or.inl rfl) rfl rfl ?_
  refine v_aload_n (pc' := 11) dX8_goes_10 rfl rfl ?_
  refine v_iconst (v := nI 0) (pc' := 12) dX8_goes_11 rfl (by decide) ?_
  refine v_pI (o := 2) (pc' := 15) dX8_goes_12 rfl gf_X8_133 pf_X8_133 kp_M rfl rfl (Or.inl rfl) rfl rfl ?_
  refine v_aload_n (pc' := 16) dX8_goes_15 rfl rfl ?_
  refine v_getQ (pc' := 19) dX8_goes_16 rfl gf_X8_26 kp_M rfl (rf_M_went hR) ?_
  refine v_iconst (v := nI 0) (pc' := 20) dX8_goes_19 rfl (by decide) ?_
  refine v_iload_n (pc' := 21) dX8_goes_20 rfl rfl ?_
  refine v_ias (pc' := 22) dX8_goes_21 rfl kp_went (Nat.zero_add _) rfl (by omega) ?_
  refine v_aload_n (pc' := 23) dX8_goes_22 rfl rfl ?_
  refine v_iconst (v := nI 1) (pc' := 24) dX8_goes_23 rfl (by decide) ?_
  refine v_pI (o := 1) (pc' := 27) dX8_goes_24 rfl gf_X8_136 pf_X8_136 kp_M rfl rfl (Or.inl rfl) rfl rfl ?_
  rw [e0]
  generalize hZ : skW r m c x lim = Z at hTI hta
  have loop : ∀ (k : Nat) (ws : List Nat) (a fh : Nat), ws.length + k = lim + 2 → ws.length ≤ lim + 1 → 1 ≤ ws.length → (∀ w ∈ ws, w < 5) → a < 5 → Z = sk r m x lim k ws a fh → V l yX8_goes cX8_goes 5 (some .int) (rmd 4 0 0) (QM 0 0 (eqP (some (.int ta)) (mm TI r X) (mL L m Y) R 287)) (fun _ _ => True) 27 [some (.ref 278), some (.int (nI c)), some (.int (nI x)), some (.int (nI lim)), some (.int (nI a))] [] (mm (gw I ws fh) r X) (mL L m Y) R 287 0 0 := by
    intro k
    induction k with
    | zero =>
      intro ws a fh h1 h2
      omega
    | succ k ih =>
      intro ws a fh h1 h2 h3 hws ha hz
      have hlt : ∀ d, d < 5 → (oIx (fdx r d x (gS r d)) < 0 ↔ fdx r d x (gS r d) = none) := fun d hd => oIx_lt (n := gS r d) (fun k hk => (fdx_lt hk).1) (by have := (hi d hd).2.1; omega)
      have w1 : mm (gw I ws fh) r X 21 1 = nI ws.length := by rw [mm_o (by decide), gw_21]; rfl
      have w2 : mm (gw I ws fh) r X 21 2 = nI fh := by rw [mm_o (by decide), gw_21]; rfl
      have w3 : gw I ws fh 21 3 = mtV ws := by rw [gw_21]; rfl
      have fin5 : Z = (ws, 5, fh) → V l yX8_goes cX8_goes 5 (some .int) (rmd 4 0 0) (QM 0 0 (eqP (some (.int ta)) (mm TI r X) (mL L m Y) R 287)) (fun _ _ => True) 63 [some (.ref 278), some (.int (nI c)), some (.int (nI x)), some (.int (nI lim)), some (.int (nI a))] [.int (-1)] (mm (gw I ws fh) r X) (mL L m Y) R 287 0 0 := by
        intro hz5
        refine v_istore4 (pc' := 65) dX8_goes_63 rfl (by decide) rfl ?_
        refine v_iload (pc' := 67) dX8_goes_65 rfl rfl ?_
        refine v_if_lt (pc' := 70) (tgt := 27) dX8_goes_67 rfl (by decide) (fun hb => ?_) (fun hb => ?_)
        · refine v_iload (pc' := 29) dX8_goes_27 rfl rfl ?_
          refine v_if_lt (pc' := 32) (tgt := 131) dX8_goes_29 rfl (by decide) (fun hb2 => ?_) (fun hb2 => ?_)
          · refine v_iload (pc' := 133) dX8_goes_131 rfl rfl ?_
            refine v_if_ge (pc' := 136) (tgt := 140) dX8_goes_133 rfl (by decide) (fun hb3 => ?_) (fun hb3 => ?_)
            · exact absurd hb3 (by decide)
            · refine v_iconst (v := nI 5) (pc' := 137) dX8_goes_136 rfl (by decide) ?_
              refine v_goto (tgt := 142) dX8_goes_137 (by decide) ?_
              exact v_iret dX8_goes_142 rfl (Nat.le_refl _) (Nat.le_refl _) ⟨by rw [← hta, hz5], by rw [← hTI, hz5], rfl, rfl, rfl⟩
          · exact absurd (by decide) hb2
        · exact absurd (by decide) hb
      unfold sk at hz
      refine v_iload (pc' := 29) dX8_goes_27 rfl rfl ?_
      refine v_if_lt (pc' := 32) (tgt := 131) dX8_goes_29 rfl (by decide) (fun hb => ?_) (fun hb => ?_)
      · exact absurd hb (nI_pos (by omega))
      · refine v_aload_n (pc' := 33) dX8_goes_32 rfl rfl ?_
        refine v_iload (pc' := 35) dX8_goes_33 rfl rfl ?_
        refine v_iload_n (pc' := 36) dX8_goes_35 rfl rfl ?_
        refine v_cV2i (pc' := 39) dX8_goes_36 rfl cv_X8_68 kp_M (Nat.le_of_ble_eq_true rfl) rfl (m_find hR ha (hi a ha).1 (hi a ha).2.1) ?_
        refine v_if_ge (pc' := 42) (tgt := 131) dX8_goes_39 rfl (by decide) (fun hq => ?_) (fun hq => ?_)
        · have hh : hl r x a := fun z => absurd ((hlt a ha).mpr z) (Int32.not_lt.mpr hq)
          rw [if_pos hh] at hz
          refine v_iload (pc' := 133) dX8_goes_131 rfl rfl ?_
          refine v_if_ge (pc' := 136) (tgt := 140) dX8_goes_133 rfl (by decide) (fun hb3 => ?_) (fun hb3 => ?_)
          · refine v_iload (pc' := 142) dX8_goes_140 rfl rfl ?_
            exact v_iret dX8_goes_142 rfl (Nat.le_refl _) (Nat.le_refl _) ⟨by rw [← hta, hz], by rw [← hTI, hz], rfl, rfl, rfl⟩
          · exact absurd (nI_pos' (by omega)) hb3
        · have hh : ¬ hl r x a := fun z => z ((hlt a ha).mp (Int32.not_le.mp hq))
          rw [if_neg hh] at hz
          refine v_aload_n (pc' := 43) dX8_goes_42 rfl rfl ?_
          refine v_gI (o := 1) (pc' := 46) dX8_goes_43 rfl gf_X8_136 kp_M rfl rfl ?_
          rw [w1]
          refine v_iconst (v := nI 1) (pc' := 47) dX8_goes_46 rfl (by decide) ?_
          refine v_isub (pc' := 48) dX8_goes_47 rfl ?_
          refine v_iload_n (pc' := 49) dX8_goes_48 rfl rfl ?_
          refine v_icmp_ge (pc' := 52) (tgt := 62) dX8_goes_49 rfl (by decide) (fun hy => ?_) (fun hy => ?_)
          · rw [nI_sub h3] at hy
            have hy : ¬ ws.length - 1 < lim := fun z => absurd hy (nI_ge z (by omega))
            rw [if_neg hy] at hz
            refine v_iconst (v := -1) (pc' := 63) dX8_goes_62 rfl (by decide) ?_
            exact fin5 hz
          · rw [nI_sub h3] at hy
            have hy : ws.length - 1 < lim := (nI_ltI (by omega) (by omega)).mp (Int32.not_le.mp hy)
            rw [if_pos hy] at hz
            refine v_aload_n (pc' := 53) dX8_goes_52 rfl rfl ?_
            refine v_iload (pc' := 55) dX8_goes_53 rfl rfl ?_
            refine v_iload_n (pc' := 56) dX8_goes_55 rfl rfl ?_
            refine v_cV2i (pc' := 59) dX8_goes_56 rfl cv_X8_139 kp_M (Nat.le_of_ble_eq_true rfl) rfl (m_next hR (MF_gw hF) w3 hws ha hx hm) ?_
            refine v_goto (tgt := 63) dX8_goes_59 (by decide) ?_
            cases hn : nx r m ws a x 5 with
            | none =>
              rw [hn] at hz
              exact fin5 hz
            | some b =>
              rw [hn] at hz
              have hb5 := (nx_lt hn).1
              show V l yX8_goes cX8_goes 5 (some .int) (rmd 4 0 0) (QM 0 0 (eqP (some (.int ta)) (mm TI r X) (mL L m Y) R 287)) (fun _ _ => True) 63 [some (.ref 278), some (.int (nI c)), some (.int (nI x)), some (.int (nI lim)), some (.int (nI a))] [.int (nI b)] (mm (gw I ws fh) r X) (mL L m Y) R 287 0 0
              refine v_istore4 (pc' := 65) dX8_goes_63 rfl (by decide) rfl ?_
              refine v_iload (pc' := 67) dX8_goes_65 rfl rfl ?_
              refine v_if_lt (pc' := 70) (tgt := 27) dX8_goes_67 rfl (by decide) (fun hb3 => ?_) (fun hb3 => ?_)
              · exact absurd hb3 (nI_pos (by omega))
              · refine v_aload_n (pc' := 71) dX8_goes_70 rfl rfl ?_
                refine v_dup (pc' := 72) dX8_goes_71 rfl rfl ?_
                refine v_gI (o := 3) (pc' := 75) dX8_goes_72 rfl gf_X8_130 kp_M rfl rfl ?_
                rw [show mm (gw I ws fh) r X 21 3 = mtV ws by rw [mm_o (by decide)]; exact w3]
                refine v_iconst (v := nI 1) (pc' := 76) dX8_goes_75 rfl (by decide) ?_
                refine v_iload (pc' := 78) dX8_goes_76 rfl rfl ?_
                refine v_ishl (pc' := 79) dX8_goes_78 rfl ?_
                refine v_ior (pc' := 80) dX8_goes_79 rfl ?_
                refine v_pI (o := 3) (pc' := 83) dX8_goes_80 rfl gf_X8_130 pf_X8_130 kp_M rfl rfl (Or.inl rfl) rfl rfl ?_
                refine v_aload_n (pc' := 84) dX8_goes_83 rfl rfl ?_
                refine v_getQ (pc' := 87) dX8_goes_84 rfl gf_X8_26 kp_M rfl (rf_M_went hR) ?_
                refine v_aload_n (pc' := 88) dX8_goes_87 rfl rfl ?_
                refine v_gI (o := 1) (pc' := 91) dX8_goes_88 rfl gf_X8_136 kp_M rfl rfl ?_
                rw [show stI (mm (gw I ws fh) r X) 21 3 (mtV ws ||| nI 1 <<< (nI b &&& 31)) 21 1 = nI ws.length by rw [stI_ne (by decide)]; exact w1]
                refine v_iload (pc' := 93) dX8_goes_91 rfl rfl ?_
                refine v_ias (pc' := 94) dX8_goes_93 rfl kp_went (Nat.zero_add _) rfl (by omega) ?_
                refine v_aload_n (pc' := 95) dX8_goes_94 rfl rfl ?_
                refine v_dup (pc' := 96) dX8_goes_95 rfl rfl ?_
                refine v_gI (o := 1) (pc' := 99) dX8_goes_96 rfl gf_X8_136 kp_M rfl rfl ?_
                rw [show stI (stI (mm (gw I ws fh) r X) 21 3 (mtV ws ||| nI 1 <<< (nI b &&& 31))) 25 ws.length (nI b) 21 1 = nI ws.length by rw [stI_ne (by omega), stI_ne (by decide)]; exact w1]
                refine v_iconst (v := nI 1) (pc' := 100) dX8_goes_99 rfl (by decide) ?_
                refine v_iadd (pc' := 101) dX8_goes_100 rfl ?_
                refine v_pI (o := 1) (pc' := 104) dX8_goes_101 rfl gf_X8_136 pf_X8_136 kp_M rfl rfl (Or.inl rfl) rfl rfl ?_
                have e1 : stI (stI (stI (mm (gw I ws fh) r X) 21 3 (mtV ws ||| nI 1 <<< (nI b &&& 31))) 25 ws.length (nI b)) 21 1 (nI ws.length + nI 1) = mm (gw I (ws ++ [b]) fh) r X := by
                  rw [mm_st2 (by decide), mm_st2 (by decide), mm_st2 (by decide), nI_add]
                  congr 1
                  refine gw_ext ?_ ?_ (fun u h1 h2 => ?_)
                  · unfold stI
                    rw [va_up_self, va_up_ne _ _ (show (21 : Nat) ≠ 25 by decide), va_up_self, gw_21]
                    funext v
                    unfold gN
                    rw [mtV_push]
                    unfold va_up
                    simp only [List.length_append, List.length_singleton]
                    repeat' split
                    all_goals first | rfl | (exfalso; omega)
                  · unfold stI
                    rw [va_up_ne _ _ (show (25 : Nat) ≠ 21 by decide), va_up_self, va_up_ne _ _ (show (25 : Nat) ≠ 21 by decide), gw_25, wsA_push]
                  · rw [stI_r h1, stI_r h2, stI_r h1, gw_o h1 h2]
                rw [e1]
                have w2' : mm (gw I (ws ++ [b]) fh) r X 21 2 = nI fh := by rw [mm_o (by decide), gw_21]; rfl
                have e2 : ∀ fh', stI (mm (gw I (ws ++ [b]) fh) r X) 21 2 (nI fh') = mm (gw I (ws ++ [b]) fh') r X := by
                  intro fh'
                  rw [mm_st2 (by decide)]
                  congr 1
                  refine gw_ext ?_ ?_ (fun u h1 h2 => ?_)
                  · unfold stI
                    rw [va_up_self, gw_21]
                    funext v
                    unfold gN va_up
                    repeat' split
                    all_goals first | rfl | (exfalso; omega)
                  · rw [stI_r (by decide), gw_25]
                  · rw [stI_r h1, gw_o h1 h2]
                have go := fun fh' => ih (ws ++ [b]) b fh' (by rw [List.length_append, List.length_singleton]; omega) (by rw [List.length_append, List.length_singleton]; omega) (by rw [List.length_append, List.length_singleton]; omega) (fun w q => (List.mem_append.mp q).elim (hws w) (fun z => by rw [List.mem_singleton.mp z]; exact hb5)) hb5
                refine v_aload_n (pc' := 105) dX8_goes_104 rfl rfl ?_
                refine v_dup (pc' := 106) dX8_goes_105 rfl rfl ?_
                refine v_gI (o := 2) (pc' := 109) dX8_goes_106 rfl gf_X8_133 kp_M rfl rfl ?_
                rw [w2']
                refine v_aload_n (pc' := 110) dX8_goes_109 rfl rfl ?_
                refine v_iload (pc' := 112) dX8_goes_110 rfl rfl ?_
                refine v_iload_n (pc' := 113) dX8_goes_112 rfl rfl ?_
                refine v_cV2i (pc' := 116) dX8_goes_113 rfl cv_X8_68 kp_M (Nat.le_of_ble_eq_true rfl) rfl (m_find hR hb5 (hi b hb5).1 (hi b hb5).2.1) ?_
                refine v_if_ge (pc' := 119) (tgt := 123) dX8_goes_116 rfl (by decide) (fun hu => ?_) (fun hu => ?_)
                · have hu : hl r x b := fun z => absurd ((hlt b hb5).mpr z) (Int32.not_lt.mpr hu)
                  refine v_iconst (v := nI 0) (pc' := 124) dX8_goes_123 rfl (by decide) ?_
                  refine v_iadd (pc' := 125) dX8_goes_124 rfl ?_
                  refine v_pI (o := 2) (pc' := 128) dX8_goes_125 rfl gf_X8_133 pf_X8_133 kp_M rfl rfl (Or.inl rfl) rfl rfl ?_
                  refine v_goto (tgt := 27) dX8_goes_128 (by decide) ?_
                  rw [nI_add, e2]
                  exact go fh (by rw [hz]; simp only [if_pos hu])
                · have hu : ¬ hl r x b := fun z => z ((hlt b hb5).mp (Int32.not_le.mp hu))
                  refine v_iconst (v := nI 1) (pc' := 120) dX8_goes_119 rfl (by decide) ?_
                  refine v_goto (tgt := 124) dX8_goes_120 (by decide) ?_
                  refine v_iadd (pc' := 125) dX8_goes_124 rfl ?_
                  refine v_pI (o := 2) (pc' := 128) dX8_goes_125 rfl gf_X8_133 pf_X8_133 kp_M rfl rfl (Or.inl rfl) rfl rfl ?_
                  refine v_goto (tgt := 27) dX8_goes_128 (by decide) ?_
                  rw [nI_add, e2]
                  exact go (fh + 1) (by rw [hz]; simp only [if_neg hu])
  exact loop (lim + 1) [c] c 0 (by simp; omega) (by simp) (by simp) (fun w q => by rw [List.mem_singleton.mp q]; exact hc) hc (by rw [← hZ]; rfl)
end B33
