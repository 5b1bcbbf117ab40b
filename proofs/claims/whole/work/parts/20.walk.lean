/-! ===== the way of a request ===== -/
/-- a row of places that begins with ws -/
def wsA (ws : List Nat) (w : Row) : Row := fun i => if i < ws.length then nI (ws.getD i 0) else w i
theorem wsA_nil (w : Row) : wsA [] w = w := by
  funext i
  unfold wsA
  rw [if_neg (by simp)]
theorem wsA_push (ws : List Nat) (b : Nat) (w : Row) : va_up (wsA ws w) ws.length (nI b) = wsA (ws ++ [b]) w := by
  funext i
  unfold va_up wsA
  rw [List.length_append, List.length_singleton]
  by_cases h : i = ws.length
  · rw [if_pos h, if_pos (by omega), h]
    congr 1
    simp [List.getD_eq_getElem?_getD]
  · rw [if_neg h]
    by_cases h2 : i < ws.length
    · rw [if_pos h2, if_pos (by omega)]
      congr 1
      rw [List.getD_eq_getElem?_getD, List.getD_eq_getElem?_getD, List.getElem?_append_left h2]
    · rw [if_neg h2, if_neg (by omega)]
/-- whether a cache holds an object -/
abbrev hl (r : Row) (x c : Nat) : Prop := rFind c x r ≠ none
abbrev cand (r : Row) (m : Msk) (ws : List Nat) (a x t : Nat) : Prop := t ∉ ws ∧ r (96 + 110 * a + t) = nI 1 ∧ rEx r m a t x
/-- the next cache -/
def nx (r : Row) (m : Msk) (ws : List Nat) (a x : Nat) : Nat → Option Nat
  | 0 => none
  | t + 1 => if cand r m ws a x t then (match nx r m ws a x t with
      | none => some t
      | some q => if r (101 + 110 * a + t) < r (101 + 110 * a + q) then some t else some q) else nx r m ws a x t
theorem nx_lt {r : Row} {m : Msk} {ws : List Nat} {a x : Nat} : ∀ {t q : Nat}, nx r m ws a x t = some q → q < t ∧ q ∉ ws
  | 0, q, h => by cases h
  | t + 1, q, h => by
    unfold nx at h
    by_cases hc : cand r m ws a x t
    · rw [if_pos hc] at h
      cases hn : nx r m ws a x t with
      | none =>
        rw [hn] at h
        cases h
        exact ⟨Nat.lt_succ_self _, hc.1⟩
      | some p =>
        rw [hn] at h
        obtain ⟨h1, h2⟩ := nx_lt hn
        by_cases hd : r (101 + 110 * a + t) < r (101 + 110 * a + p)
        · simp only [hd, if_true] at h
          cases h
          exact ⟨Nat.lt_succ_self _, hc.1⟩
        · simp only [hd, if_false] at h
          cases h
          exact ⟨by omega, h2⟩
    · rw [if_neg hc] at h
      obtain ⟨h1, h2⟩ := nx_lt h
      exact ⟨by omega, h2⟩
/-- held elsewhere -/
def hE (r : Row) (ws : List Nat) (x : Nat) : Nat → Bool
  | 0 => false
  | d + 1 => hE r ws x d || decide (d ∉ ws ∧ hl r x d)
/-- the walk: the places, who serves, the false hits -/
def sk (r : Row) (m : Msk) (x lim : Nat) : Nat → List Nat → Nat → Nat → List Nat × Nat × Nat
  | 0, ws, _, fh => (ws, 5, fh)
  | k + 1, ws, a, fh => if hl r x a then (ws, a, fh) else if ws.length - 1 < lim then (match nx r m ws a x 5 with
      | none => (ws, 5, fh)
      | some b => sk r m x lim k (ws ++ [b]) b (if hl r x b then fh else fh + 1)) else (ws, 5, fh)
def skW (r : Row) (m : Msk) (c x lim : Nat) : List Nat × Nat × Nat := sk r m x lim (lim + 1) [c] c 0
def skM (r : Row) (m : Msk) (c x lim : Nat) : Nat := if (skW r m c x lim).2.1 = 5 ∧ hE r (skW r m c x lim).1 x 5 = true then 1 else 0
/-- the Walk object's numbers behind a walk -/
def wkN (ln sv fh fm : Nat) (w : Row) : Row := va_up (va_up (va_up (va_up w 0 (nI ln)) 2 (nI fh)) 1 (nI sv)) 3 (nI fm)
/-- distances are at most 99 -/
def ID (r : Row) (a : Nat) : Prop := ∀ t, t < 5 → r (101 + 110 * a + t) < nI 100
section B20
variable {l : Launch} {I : MI} {L : ML} {R : MR} {p q g gp : Nat}
theorem ok_enter {ln : Nat} {b : Int32} (kW : KP 287 p (6, g, 0, 0, 0)) (rW : R p 0 = some q ∧ q < 1000) (kWp : KP 287 q (9, gp, 0, 0, 5)) (hg : g ≠ gp) (hln : I g 0 = nI ln) (hl5 : ln < 5) : Ok l yX6_enter cX6_enter 2 none 0 0 0 [.ref p, .int b] I L R 287 (eqP (none) (stI (stI I gp ln b) g 0 (nI (ln + 1))) L R 287) := by
  refine Ok.ofV [some (.ref p), some (.int b)] rfl (by decide) (Nat.le_of_ble_eq_true rfl) ?_
  refine v_aload_n (pc' := 1) dX6_enter_0 rfl rfl ?_
  refine v_gI (o := 0) (pc' := 4) dX6_enter_1 rfl gf_X6_15 kW rfl rfl ?_
  refine v_iconst (v := nI 5) (pc' := 5) dX6_enter_4 rfl (by decide) ?_
  refine v_icmp_ge (pc' := 8) (tgt := 28) dX6_enter_5 rfl (by decide) (fun hb => ?_) (fun hb => ?_)
  · rw [hln] at hb
    exact absurd hb (nI_ge hl5 (by decide))
  · refine v_aload_n (pc' := 9) dX6_enter_8 rfl rfl ?_
    refine v_getQ (pc' := 12) dX6_enter_9 rfl gf_X6_9 kW rfl rW ?_
    refine v_aload_n (pc' := 13) dX6_enter_12 rfl rfl ?_
    refine v_gI (o := 0) (pc' := 16) dX6_enter_13 rfl gf_X6_15 kW rfl rfl ?_
    rw [hln]
    refine v_iload_n (pc' := 17) dX6_enter_16 rfl rfl ?_
    refine v_ias (pc' := 18) dX6_enter_17 rfl kWp (Nat.zero_add _) rfl hl5 ?_
    refine v_aload_n (pc' := 19) dX6_enter_18 rfl rfl ?_
    refine v_dup (pc' := 20) dX6_enter_19 rfl rfl ?_
    refine v_gI (o := 0) (pc' := 23) dX6_enter_20 rfl gf_X6_15 kW rfl rfl ?_
    rw [stI_ne (fun z => hg z.1), hln]
    refine v_iconst (v := nI 1) (pc' := 24) dX6_enter_23 rfl (by decide) ?_
    refine v_iadd (pc' := 25) dX6_enter_24 rfl ?_
    rw [nI_add]
    refine v_pI (o := 0) (pc' := 28) dX6_enter_25 rfl gf_X6_15 pf_X6_15 kW rfl rfl (Or.inl rfl) rfl rfl ?_
    exact v_vret dX6_enter_28 rfl (Nat.le_refl _) (Nat.le_refl _) ⟨rfl, rfl, rfl, rfl, rfl⟩
theorem ok_wasAt {ws : List Nat} {b : Nat} (kW : KP 287 p (6, g, 0, 0, 0)) (rW : R p 0 = some q ∧ q < 1000) (kWp : KP 287 q (9, gp, 0, 0, 5)) (hln : I g 0 = nI ws.length) (hl5 : ws.length ≤ 5) (hw : ∀ w ∈ ws, w < 5) (hb5 : b < 5) (hp : ∀ i, i < ws.length → I gp i = nI (ws.getD i 0)) : Ok l yX6_wasAt cX6_wasAt 3 (some .boolean) 0 0 0 [.ref p, .int (nI b)] I L R 287 (eqP (some (.int (if b ∈ ws then nI 1 else nI 0))) I L R 287) := by
  have hget : ∀ i, i < ws.length → ws.getD i 0 ∈ ws := fun i hi => by
    rw [List.getD_eq_getElem?_getD, List.getElem?_eq_getElem hi]
    simp
  refine Ok.ofV [some (.ref p), some (.int (nI b)), none] rfl (by decide) (Nat.le_of_ble_eq_true rfl) ?_
  refine v_iconst (v := nI 0) (pc' := 1) dX6_wasAt_0 rfl (by decide) ?_
  refine v_istore_n2 (pc' := 2) dX6_wasAt_1 rfl (by decide) rfl ?_
  have loop : ∀ (n i : Nat), i + n = ws.length → (∀ j, j < i → ws.getD j 0 ≠ b) → V l yX6_wasAt cX6_wasAt 3 (some .boolean) (rmd 0 0 0) (QM 0 0 (eqP (some (.int (if b ∈ ws then nI 1 else nI 0))) I L R 287)) (fun _ _ => True) 2 [some (.ref p), some (.int (nI b)), some (.int (nI i))] [] I L R 287 0 0 := by
    intro n
    induction n with
    | zero =>
      intro i hi hn
      refine v_iload_n (pc' := 3) dX6_wasAt_2 rfl rfl ?_
      refine v_aload_n (pc' := 4) dX6_wasAt_3 rfl rfl ?_
      refine v_gI (o := 0) (pc' := 7) dX6_wasAt_4 rfl gf_X6_15 kW rfl rfl ?_
      refine v_icmp_ge (pc' := 10) (tgt := 28) dX6_wasAt_7 rfl (by decide) (fun hb => ?_) (fun hb => ?_)
      · refine v_iconst (v := nI 0) (pc' := 29) dX6_wasAt_28 rfl (by decide) ?_
        exact v_zret dX6_wasAt_29 rfl rfl (Nat.le_refl _) (Nat.le_refl _) ⟨by
              rw [if_neg]
              intro hm
              obtain ⟨j, hj, e⟩ := List.getElem_of_mem hm
              exact hn j (by omega) (by rw [List.getD_eq_getElem?_getD, List.getElem?_eq_getElem hj]; exact e), rfl, rfl, rfl, rfl⟩
      · exact absurd (by rw [hln]; exact nI_le (by omega) (by omega)) hb
    | succ n ih =>
      intro i hi hn
      refine v_iload_n (pc' := 3) dX6_wasAt_2 rfl rfl ?_
      refine v_aload_n (pc' := 4) dX6_wasAt_3 rfl rfl ?_
      refine v_gI (o := 0) (pc' := 7) dX6_wasAt_4 rfl gf_X6_15 kW rfl rfl ?_
      refine v_icmp_ge (pc' := 10) (tgt := 28) dX6_wasAt_7 rfl (by decide) (fun hb => ?_) (fun hb => ?_)
      · exact absurd (by rw [hln] at hb; exact hb) (nI_ge (by omega) (by omega))
      · refine v_aload_n (pc' := 11) dX6_wasAt_10 rfl rfl ?_
        refine v_getQ (pc' := 14) dX6_wasAt_11 rfl gf_X6_9 kW rfl rW ?_
        refine v_iload_n (pc' := 15) dX6_wasAt_14 rfl rfl ?_
        refine v_ial (pc' := 16) dX6_wasAt_15 rfl kWp (Nat.zero_add _) rfl (by omega) ?_
        refine v_iload_n (pc' := 17) dX6_wasAt_16 rfl rfl ?_
        refine v_icmp_ne (pc' := 20) (tgt := 22) dX6_wasAt_17 rfl (by decide) (fun hq => ?_) (fun hq => ?_)
        · refine v_iinc2 (pc' := 25) dX6_wasAt_22 rfl (by decide) rfl (inc_nI _) ?_
          refine v_goto (tgt := 2) dX6_wasAt_25 (by decide) ?_
          refine ih (i + 1) (by omega) (fun j hj => ?_)
          by_cases hji : j = i
          · rw [hji]
            exact fun z => hq (by rw [hp i (by omega), z])
          · exact hn j (by omega)
        · rw [hp i (by omega)] at hq
          have := hw _ (hget i (by omega))
          have hq := (nI_eq (by omega) (by omega)).mp hq
          refine v_iconst (v := nI 1) (pc' := 21) dX6_wasAt_20 rfl (by decide) ?_
          exact v_zret dX6_wasAt_21 rfl rfl (Nat.le_refl _) (Nat.le_refl _) ⟨by rw [if_pos (by rw [← hq]; exact hget i (by omega))], rfl, rfl, rfl, rfl⟩
  exact loop ws.length 0 (by omega) (fun j hj => absurd hj (Nat.not_lt_zero j))
theorem ok_nextPlace {ws : List Nat} {a x : Nat} (hR : RS R) (kW : KP 287 p (6, g, 0, 0, 0)) (rW : R p 0 = some q ∧ q < 1000) (kWp : KP 287 q (9, gp, 0, 0, 5)) (hln : I g 0 = nI ws.length) (hl5 : ws.length ≤ 5) (hw : ∀ w ∈ ws, w < 5) (hp : ∀ i, i < ws.length → I gp i = nI (ws.getD i 0)) (ha : a < 5) (hx : x < 1000) (hm : IM (I 0)) (hd : ID (I 0) a) : Ok l yX6_nextPlace cX6_nextPlace 9 (some .int) 3 0 0 [.ref p, .ref (pb 0), .int (nI a), .int (nI x)] I L R 287 (eqP (some (.int (oIx (nx (I 0) (L 0) ws a x 5)))) I L R 287) := by
  have h05 : (0 : Nat) < 5 := by decide
  refine Ok.ofV [some (.ref p), some (.ref (pb 0)), some (.int (nI a)), some (.int (nI x)), none, none, none, none, none] rfl (by decide) (Nat.le_of_ble_eq_true rfl) ?_
  refine v_aload_n (pc' := 1) dX6_nextPlace_0 rfl rfl ?_
  refine v_getQ (pc' := 4) dX6_nextPlace_1 rfl gf_X6_32 (kp_T h05) rfl (rf_T_caches hR h05) ?_
  refine v_iload_n (pc' := 5) dX6_nextPlace_4 rfl rfl ?_
  refine v_aaloadQ (pc' := 6) dX6_nextPlace_5 rfl (kp_CA h05) rfl ha (rf_CA hR h05 ha) ?_
  refine v_astore4 (pc' := 8) dX6_nextPlace_6 rfl (by decide) rfl ?_
  refine v_iconst (v := -1) (pc' := 9) dX6_nextPlace_8 rfl (by decide) ?_
  refine v_istore5 (pc' := 11) dX6_nextPlace_9 rfl (by decide) rfl ?_
  refine v_bipush (v := nI 100) (pc' := 13) dX6_nextPlace_11 rfl (by decide) ?_
  refine v_istore6 (pc' := 15) dX6_nextPlace_13 rfl (by decide) rfl ?_
  refine v_iconst (v := nI 0) (pc' := 16) dX6_nextPlace_15 rfl (by decide) ?_
  refine v_istore7 (pc' := 18) dX6_nextPlace_16 rfl (by decide) rfl ?_
  have loop : ∀ (n t : Nat) (sm : Int32) (w : Option Value), t + n = 5 → sm = (match nx (I 0) (L 0) ws a x t with | none => nI 100 | some q => I 0 (101 + 110 * a + q)) → V l yX6_nextPlace cX6_nextPlace 9 (some .int) (rmd 3 0 0) (QM 0 0 (eqP (some (.int (oIx (nx (I 0) (L 0) ws a x 5)))) I L R 287)) (fun _ _ => True) 18 [some (.ref p), some (.ref (pb 0)), some (.int (nI a)), some (.int (nI x)), some (.ref (pq 0 a)), some (.int (oIx (nx (I 0) (L 0) ws a x t))), some (.int sm), some (.int (nI t)), w] [] I L R 287 0 0 := by
    intro n
    induction n with
    | zero =>
      intro t sm w ht hsm
      refine v_iload (pc' := 20) dX6_nextPlace_18 rfl rfl ?_
      refine v_iconst (v := nI 5) (pc' := 21) dX6_nextPlace_20 rfl (by decide) ?_
      refine v_icmp_ge (pc' := 24) (tgt := 101) dX6_nextPlace_21 rfl (by decide) (fun hb => ?_) (fun hb => ?_)
      · refine v_iload (pc' := 103) dX6_nextPlace_101 rfl rfl ?_
        exact v_iret dX6_nextPlace_103 rfl (Nat.le_refl _) (Nat.le_refl _) ⟨by rw [show t = 5 by omega], rfl, rfl, rfl, rfl⟩
      · exact absurd (nI_le (by omega) (by omega)) hb
    | succ n ih =>
      intro t sm w ht hsm
      have hto : t < 5 := by omega
      have keep : ¬ (cand (I 0) (L 0) ws a x t ∧ I 0 (101 + 110 * a + t) < sm) → nx (I 0) (L 0) ws a x (t + 1) = nx (I 0) (L 0) ws a x t := by
        intro h
        by_cases hc : cand (I 0) (L 0) ws a x t
        · have h2 : ¬ I 0 (101 + 110 * a + t) < sm := fun z => h ⟨hc, z⟩
          have e : nx (I 0) (L 0) ws a x (t + 1) = (match nx (I 0) (L 0) ws a x t with | none => some t | some q => if I 0 (101 + 110 * a + t) < I 0 (101 + 110 * a + q) then some t else some q) := if_pos hc
          rw [e]
          cases hn : nx (I 0) (L 0) ws a x t with
          | none =>
            rw [hn] at hsm
            exact absurd (by rw [hsm]; exact hd t hto) h2
          | some q =>
            rw [hn] at hsm
            rw [hsm] at h2
            exact if_neg h2
        · exact if_neg hc
      have next : cand (I 0) (L 0) ws a x t ∧ I 0 (101 + 110 * a + t) < sm → nx (I 0) (L 0) ws a x (t + 1) = some t := by
        intro h
        have e : nx (I 0) (L 0) ws a x (t + 1) = (match nx (I 0) (L 0) ws a x t with | none => some t | some q => if I 0 (101 + 110 * a + t) < I 0 (101 + 110 * a + q) then some t else some q) := if_pos h.1
        rw [e]
        cases hn : nx (I 0) (L 0) ws a x t with
        | none => rfl
        | some q =>
          rw [hn] at hsm
          have h2 := h.2
          rw [hsm] at h2
          exact if_pos h2
      have back : ∀ w : Option Value, ¬ (cand (I 0) (L 0) ws a x t ∧ I 0 (101 + 110 * a + t) < sm) → V l yX6_nextPlace cX6_nextPlace 9 (some .int) (rmd 3 0 0) (QM 0 0 (eqP (some (.int (oIx (nx (I 0) (L 0) ws a x 5)))) I L R 287)) (fun _ _ => True) 95 [some (.ref p), some (.ref (pb 0)), some (.int (nI a)), some (.int (nI x)), some (.ref (pq 0 a)), some (.int (oIx (nx (I 0) (L 0) ws a x t))), some (.int sm), some (.int (nI t)), w] [] I L R 287 0 0 := by
        intro w h
        refine v_iinc7 (pc' := 98) dX6_nextPlace_95 rfl (by decide) rfl (inc_nI _) ?_
        refine v_goto (tgt := 18) dX6_nextPlace_98 (by decide) ?_
        have := ih (t + 1) sm w (by omega) (by rw [keep h]; exact hsm)
        rw [keep h] at this
        exact this
      refine v_iload (pc' := 20) dX6_nextPlace_18 rfl rfl ?_
      refine v_iconst (v := nI 5) (pc' := 21) dX6_nextPlace_20 rfl (by decide) ?_
      refine v_icmp_ge (pc' := 24) (tgt := 101) dX6_nextPlace_21 rfl (by decide) (fun hb => ?_) (fun hb => ?_)
      · exact absurd hb (nI_ge (by omega) (by omega))
      · refine v_aload_n (pc' := 25) dX6_nextPlace_24 rfl rfl ?_
        refine v_iload (pc' := 27) dX6_nextPlace_25 rfl rfl ?_
        refine v_cV1i (pc' := 30) dX6_nextPlace_27 rfl cv_X6_52 kW (Nat.le_of_ble_eq_true rfl) rfl (ok_wasAt kW rW kWp hln hl5 hw hto hp) ?_
        refine v_if_ne (pc' := 33) (tgt := 49) dX6_nextPlace_30 rfl (by decide) (fun hq => ?_) (fun hq => ?_)
        · have hq := Classical.not_not.mp (fun z => hq (ite01.mpr z))
          refine v_iconst (v := nI 0) (pc' := 50) dX6_nextPlace_49 rfl (by decide) ?_
          refine v_istore8 (pc' := 52) dX6_nextPlace_50 rfl (by decide) rfl ?_
          refine v_iload (pc' := 54) dX6_nextPlace_52 rfl rfl ?_
          refine v_if_eq (pc' := 57) (tgt := 95) dX6_nextPlace_54 rfl (by decide) (fun hb => ?_) (fun hb => ?_)
          · exact back _ (fun z => z.1.1 hq)
          · exact absurd rfl hb
        · have hq := ite01.mp hq
          refine v_aload (pc' := 35) dX6_nextPlace_33 rfl rfl ?_
          refine v_getQ (pc' := 38) dX6_nextPlace_35 rfl gf_X6_55 (kp_C h05 ha) rfl (rf_C_links hR h05 ha) ?_
          refine v_iload (pc' := 40) dX6_nextPlace_38 rfl rfl ?_
          refine v_ial (pc' := 41) dX6_nextPlace_40 rfl (kp_links h05 ha) rfl rfl (by omega) ?_
          refine v_iconst (v := nI 1) (pc' := 42) dX6_nextPlace_41 rfl (by decide) ?_
          refine v_icmp_ne (pc' := 45) (tgt := 49) dX6_nextPlace_42 rfl (by decide) (fun hu => ?_) (fun hu => ?_)
          · refine v_iconst (v := nI 0) (pc' := 50) dX6_nextPlace_49 rfl (by decide) ?_
            refine v_istore8 (pc' := 52) dX6_nextPlace_50 rfl (by decide) rfl ?_
            refine v_iload (pc' := 54) dX6_nextPlace_52 rfl rfl ?_
            refine v_if_eq (pc' := 57) (tgt := 95) dX6_nextPlace_54 rfl (by decide) (fun hb => ?_) (fun hb => ?_)
            · exact back _ (fun z => hu z.1.2.1)
            · exact absurd rfl hb
          · refine v_iconst (v := nI 1) (pc' := 46) dX6_nextPlace_45 rfl (by decide) ?_
            refine v_goto (tgt := 50) dX6_nextPlace_46 (by decide) ?_
            refine v_istore8 (pc' := 52) dX6_nextPlace_50 rfl (by decide) rfl ?_
            refine v_iload (pc' := 54) dX6_nextPlace_52 rfl rfl ?_
            refine v_if_eq (pc' := 57) (tgt := 95) dX6_nextPlace_54 rfl (by decide) (fun hb => ?_) (fun hb => ?_)
            · exact absurd hb (by decide)
            · refine v_aload (pc' := 59) dX6_nextPlace_57 rfl rfl ?_
              refine v_getQ (pc' := 62) dX6_nextPlace_59 rfl gf_X6_58 (kp_C h05 ha) rfl (rf_C_distances hR h05 ha) ?_
              refine v_iload (pc' := 64) dX6_nextPlace_62 rfl rfl ?_
              refine v_ial (pc' := 65) dX6_nextPlace_64 rfl (kp_distances h05 ha) rfl rfl (by omega) ?_
              refine v_iload (pc' := 67) dX6_nextPlace_65 rfl rfl ?_
              refine v_icmp_ge (pc' := 70) (tgt := 95) dX6_nextPlace_67 rfl (by decide) (fun hs => ?_) (fun hs => ?_)
              · exact back _ (fun z => absurd z.2 (Int32.not_lt.mpr hs))
              · refine v_aload_n (pc' := 71) dX6_nextPlace_70 rfl rfl ?_
                refine v_iload_n (pc' := 72) dX6_nextPlace_71 rfl rfl ?_
                refine v_iload (pc' := 74) dX6_nextPlace_72 rfl rfl ?_
                refine v_iload_n (pc' := 75) dX6_nextPlace_74 rfl rfl ?_
                refine v_cV3i (pc' := 78) dX6_nextPlace_75 rfl cv_X6_61 (kp_T h05) (Nat.le_of_ble_eq_true rfl) rfl (ok_isExpected hR h05 ha hto hx hm) ?_
                refine v_if_eq (pc' := 81) (tgt := 95) dX6_nextPlace_78 rfl (by decide) (fun he => ?_) (fun he => ?_)
                · have he := ite01.mp he
                  exact back _ (fun z => he z.1.2.2)
                · have he := Classical.not_not.mp (fun z => he (ite01.mpr z))
                  have hall : cand (I 0) (L 0) ws a x t ∧ I 0 (101 + 110 * a + t) < sm := ⟨⟨hq, hu, he⟩, Int32.not_le.mp hs⟩
                  refine v_iload (pc' := 83) dX6_nextPlace_81 rfl rfl ?_
                  refine v_istore5 (pc' := 85) dX6_nextPlace_83 rfl (by decide) rfl ?_
                  refine v_aload (pc' := 87) dX6_nextPlace_85 rfl rfl ?_
                  refine v_getQ (pc' := 90) dX6_nextPlace_87 rfl gf_X6_58 (kp_C h05 ha) rfl (rf_C_distances hR h05 ha) ?_
                  refine v_iload (pc' := 92) dX6_nextPlace_90 rfl rfl ?_
                  refine v_ial (pc' := 93) dX6_nextPlace_92 rfl (kp_distances h05 ha) rfl rfl (by omega) ?_
                  refine v_istore6 (pc' := 95) dX6_nextPlace_93 rfl (by decide) rfl ?_
                  refine v_iinc7 (pc' := 98) dX6_nextPlace_95 rfl (by decide) rfl (inc_nI _) ?_
                  refine v_goto (tgt := 18) dX6_nextPlace_98 (by decide) ?_
                  have := ih (t + 1) (I 0 (101 + 110 * a + t)) (some (.int (nI 1))) (by omega) (by rw [next hall])
                  rw [next hall] at this
                  exact this
  exact loop 5 0 (nI 100) _ (by omega) rfl
theorem ok_isHeldElsewhere {ws : List Nat} {x : Nat} (hR : RS R) (kW : KP 287 p (6, g, 0, 0, 0)) (rW : R p 0 = some q ∧ q < 1000) (kWp : KP 287 q (9, gp, 0, 0, 5)) (hln : I g 0 = nI ws.length) (hl5 : ws.length ≤ 5) (hw : ∀ w ∈ ws, w < 5) (hp : ∀ i, i < ws.length → I gp i = nI (ws.getD i 0)) (hi : ∀ c, c < 5 → IS (I 0) c) : Ok l yX6_isHeldElsewhere cX6_isHeldElsewhere 4 (some .boolean) 2 0 0 [.ref p, .ref (pb 0), .int (nI x)] I L R 287 (eqP (some (.int (if hE (I 0) ws x 5 = true then nI 1 else nI 0))) I L R 287) := by
  have h05 : (0 : Nat) < 5 := by decide
  have mono : ∀ n t, hE (I 0) ws x t = true → hE (I 0) ws x (t + n) = true := by
    intro n t h
    induction n with
    | zero => exact h
    | succ n ih =>
      show (hE (I 0) ws x (t + n) || _) = true
      rw [ih, Bool.true_or]
  refine Ok.ofV [some (.ref p), some (.ref (pb 0)), some (.int (nI x)), none] rfl (by decide) (Nat.le_of_ble_eq_true rfl) ?_
  refine v_iconst (v := nI 0) (pc' := 1) dX6_isHeldElsewhere_0 rfl (by decide) ?_
  refine v_istore_n3 (pc' := 2) dX6_isHeldElsewhere_1 rfl (by decide) rfl ?_
  have loop : ∀ (n t : Nat), t + n = 5 → hE (I 0) ws x t = false → V l yX6_isHeldElsewhere cX6_isHeldElsewhere 4 (some .boolean) (rmd 2 0 0) (QM 0 0 (eqP (some (.int (if hE (I 0) ws x 5 = true then nI 1 else nI 0))) I L R 287)) (fun _ _ => True) 2 [some (.ref p), some (.ref (pb 0)), some (.int (nI x)), some (.int (nI t))] [] I L R 287 0 0 := by
    intro n
    induction n with
    | zero =>
      intro t ht hf
      refine v_iload_n (pc' := 3) dX6_isHeldElsewhere_2 rfl rfl ?_
      refine v_iconst (v := nI 5) (pc' := 4) dX6_isHeldElsewhere_3 rfl (by decide) ?_
      refine v_icmp_ge (pc' := 7) (tgt := 36) dX6_isHeldElsewhere_4 rfl (by decide) (fun hb => ?_) (fun hb => ?_)
      · refine v_iconst (v := nI 0) (pc' := 37) dX6_isHeldElsewhere_36 rfl (by decide) ?_
        exact v_zret dX6_isHeldElsewhere_37 rfl rfl (Nat.le_refl _) (Nat.le_refl _) ⟨by rw [if_neg (by rw [show t = 5 by omega] at hf; rw [hf]; decide)], rfl, rfl, rfl, rfl⟩
      · exact absurd (nI_le (by omega) (by omega)) hb
    | succ n ih =>
      intro t ht hf
      have hto : t < 5 := by omega
      have keep : ¬ (t ∉ ws ∧ hl (I 0) x t) → hE (I 0) ws x (t + 1) = false := by
        intro h
        show (hE (I 0) ws x t || decide (t ∉ ws ∧ hl (I 0) x t)) = false
        rw [hf, decide_eq_false h]
        rfl
      refine v_iload_n (pc' := 3) dX6_isHeldElsewhere_2 rfl rfl ?_
      refine v_iconst (v := nI 5) (pc' := 4) dX6_isHeldElsewhere_3 rfl (by decide) ?_
      refine v_icmp_ge (pc' := 7) (tgt := 36) dX6_isHeldElsewhere_4 rfl (by decide) (fun hb => ?_) (fun hb => ?_)
      · exact absurd hb (nI_ge (by omega) (by omega))
      · refine v_aload_n (pc' := 8) dX6_isHeldElsewhere_7 rfl rfl ?_
        refine v_iload_n (pc' := 9) dX6_isHeldElsewhere_8 rfl rfl ?_
        refine v_cV1i (pc' := 12) dX6_isHeldElsewhere_9 rfl cv_X6_52 kW (Nat.le_of_ble_eq_true rfl) rfl (ok_wasAt kW rW kWp hln hl5 hw hto hp) ?_
        refine v_if_ne (pc' := 15) (tgt := 30) dX6_isHeldElsewhere_12 rfl (by decide) (fun hq => ?_) (fun hq => ?_)
        · have hq := Classical.not_not.mp (fun z => hq (ite01.mpr z))
          refine v_iinc3 (pc' := 33) dX6_isHeldElsewhere_30 rfl (by decide) rfl (inc_nI _) ?_
          refine v_goto (tgt := 2) dX6_isHeldElsewhere_33 (by decide) ?_
          exact ih (t + 1) (by omega) (keep (fun z => z.1 hq))
        · have hq := ite01.mp hq
          obtain ⟨i1, i2, i3, i4⟩ := hi t hto
          refine v_aload_n (pc' := 16) dX6_isHeldElsewhere_15 rfl rfl ?_
          refine v_getQ (pc' := 19) dX6_isHeldElsewhere_16 rfl gf_X6_32 (kp_T h05) rfl (rf_T_caches hR h05) ?_
          refine v_iload_n (pc' := 20) dX6_isHeldElsewhere_19 rfl rfl ?_
          refine v_aaloadQ (pc' := 21) dX6_isHeldElsewhere_20 rfl (kp_CA h05) rfl hto (rf_CA hR h05 hto) ?_
          refine v_iload_n (pc' := 22) dX6_isHeldElsewhere_21 rfl rfl ?_
          refine v_cV1i (pc' := 25) dX6_isHeldElsewhere_22 rfl cv_X6_38 (kp_C h05 hto) (Nat.le_of_ble_eq_true rfl) rfl (ok_has hR h05 hto i1 i2 i4) ?_
          refine v_if_eq (pc' := 28) (tgt := 30) dX6_isHeldElsewhere_25 rfl (by decide) (fun hh => ?_) (fun hh => ?_)
          · have hh := ite01.mp hh
            refine v_iinc3 (pc' := 33) dX6_isHeldElsewhere_30 rfl (by decide) rfl (inc_nI _) ?_
            refine v_goto (tgt := 2) dX6_isHeldElsewhere_33 (by decide) ?_
            exact ih (t + 1) (by omega) (keep (fun z => hh z.2))
          · have hh := Classical.not_not.mp (fun z => hh (ite01.mpr z))
            refine v_iconst (v := nI 1) (pc' := 29) dX6_isHeldElsewhere_28 rfl (by decide) ?_
            exact v_zret dX6_isHeldElsewhere_29 rfl rfl (Nat.le_refl _) (Nat.le_refl _) ⟨by
                  rw [if_pos]
                  rw [show (5 : Nat) = t + 1 + (5 - (t + 1)) by omega]
                  refine mono _ _ ?_
                  show (hE (I 0) ws x t || decide (t ∉ ws ∧ hl (I 0) x t)) = true
                  rw [decide_eq_true (⟨hq, hh⟩ : t ∉ ws ∧ hl (I 0) x t), Bool.or_true], rfl, rfl, rfl, rfl⟩
  exact loop 5 0 (by omega) rfl
end B20
