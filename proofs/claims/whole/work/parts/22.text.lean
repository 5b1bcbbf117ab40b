/-! ===== Text ===== -/
abbrev PS : Type := Nat × Option Nat × Option Nat × List (Nat × Nat)
def exL (rq : List (Nat × Nat)) (d : Nat) : List (Nat × Nat) := rq.dropLast ++ [((rq.getLastD (0, 0)).1, 10 * (rq.getLastD (0, 0)).2 + d)]
/-- one byte is read: the state then, the fault -/
def pStep (v at_ : Nat) (s : PS) : PS × Option Nat :=
  if v = 32 then ((if s.1 = 3 then 4 else s.1, s.2), none)
  else if s.1 = 0 then (if 48 ≤ v ∧ v ≤ 52 then ((1, some (v - 48), s.2.2), none) else (s, some at_))
  else if s.1 = 1 then (if v = 58 then ((2, s.2), none) else (s, some at_))
  else if s.1 = 2 then (if 48 ≤ v ∧ v ≤ 57 then ((3, s.2.1, some at_, s.2.2.2 ++ [(s.2.1.getD 0, v - 48)]), none) else (s, some at_))
  else if s.1 = 3 ∧ 48 ≤ v ∧ v ≤ 57 then (if 3 ≤ at_ - s.2.2.1.getD 0 then (s, some (s.2.2.1.getD 0)) else ((3, s.2.1, s.2.2.1, exL s.2.2.2 (v - 48)), none))
  else if v = 44 then ((2, s.2), none) else if v = 59 then ((0, s.2), none) else (s, some at_)
def pRun (cd : Nat → Nat) : Nat → Nat → PS → PS × Option Nat
  | 0, _, s => (s, none)
  | n + 1, at_, s => match (pStep (cd at_) at_ s).2 with
    | some f => ((pStep (cd at_) at_ s).1, some f)
    | none => pRun cd n (at_ + 1) (pStep (cd at_) at_ s).1
def ov (o : Option Nat) (z : Int32) : Int32 := match o with
  | none => z
  | some k => nI k
def txR (s : PS) (w : Row) : Row := va_up (va_up (va_up (va_up w 1 (nI s.2.2.2.length)) 2 (nI s.1)) 3 (ov s.2.1 (w 3))) 4 (ov s.2.2.1 (w 4))
/-- the memory with the text's parser in state s -/
def pM (I : MI) (s : PS) : MI := va_up (va_up (va_up I 5 (txR s (I 5))) 7 (wsA (s.2.2.2.map (·.1)) (I 7))) 8 (wsA (s.2.2.2.map (·.2)) (I 8))
theorem pM_5 {I : MI} {s : PS} : pM I s 5 = txR s (I 5) := by
  unfold pM
  rw [va_up_ne _ _ (by decide), va_up_ne _ _ (by decide), va_up_self]
theorem pM_7 {I : MI} {s : PS} : pM I s 7 = wsA (s.2.2.2.map (·.1)) (I 7) := by
  unfold pM
  rw [va_up_ne _ _ (by decide), va_up_self]
theorem pM_8 {I : MI} {s : PS} : pM I s 8 = wsA (s.2.2.2.map (·.2)) (I 8) := va_up_self _ _ _
theorem pM_o {I : MI} {s : PS} {u : Nat} (h5 : u ≠ 5) (h7 : u ≠ 7) (h8 : u ≠ 8) : pM I s u = I u := by
  unfold pM
  rw [va_up_ne _ _ h8, va_up_ne _ _ h7, va_up_ne _ _ h5]
theorem pM_ext {I : MI} {s : PS} {J : MI} (h5 : J 5 = txR s (I 5)) (h7 : J 7 = wsA (s.2.2.2.map (·.1)) (I 7)) (h8 : J 8 = wsA (s.2.2.2.map (·.2)) (I 8)) (ho : ∀ u, u ≠ 5 → u ≠ 7 → u ≠ 8 → J u = I u) : J = pM I s := by
  funext u
  by_cases a : u = 5
  · rw [a, pM_5, h5]
  · by_cases b : u = 7
    · rw [b, pM_7, h7]
    · by_cases c : u = 8
      · rw [c, pM_8, h8]
      · rw [pM_o a b c, ho u a b c]
theorem stI_r {I : MI} {g k u : Nat} {v : Int32} (h : u ≠ g) : stI I g k v u = I u := funext fun _ => stI_ne (fun z => h z.1)
theorem stI_g {I : MI} {g k : Nat} {v : Int32} : stI I g k v g = va_up (I g) k v := va_up_self _ _ _
theorem pM_nx {I : MI} {s : PS} {k : Nat} : stI (pM I s) 5 2 (nI k) = pM I (k, s.2) := by
  refine pM_ext ?_ (by rw [stI_r (by decide), pM_7]) (by rw [stI_r (by decide), pM_8]) (fun u h5 h7 h8 => by rw [stI_r h5, pM_o h5 h7 h8])
  rw [stI_g, pM_5]
  funext j
  simp only [txR, va_up]
  repeat' split
  all_goals first | rfl | (exfalso; omega)
theorem pM_ca {I : MI} {s : PS} {k : Nat} : stI (pM I s) 5 3 (nI k) = pM I (s.1, some k, s.2.2) := by
  refine pM_ext ?_ (by rw [stI_r (by decide), pM_7]) (by rw [stI_r (by decide), pM_8]) (fun u h5 h7 h8 => by rw [stI_r h5, pM_o h5 h7 h8])
  rw [stI_g, pM_5]
  funext j
  simp only [txR, va_up, ov]
  repeat' split
  all_goals first | rfl | (exfalso; omega)
theorem pM_ns {I : MI} {s : PS} {k : Nat} : stI (pM I s) 5 4 (nI k) = pM I (s.1, s.2.1, some k, s.2.2.2) := by
  refine pM_ext ?_ (by rw [stI_r (by decide), pM_7]) (by rw [stI_r (by decide), pM_8]) (fun u h5 h7 h8 => by rw [stI_r h5, pM_o h5 h7 h8])
  rw [stI_g, pM_5]
  funext j
  simp only [txR, va_up, ov]
  repeat' split
  all_goals first | rfl | (exfalso; omega)
theorem pM_push {I : MI} {s : PS} {a b n : Nat} (hn : s.2.2.2.length = n) : stI (stI (stI (pM I s) 7 n (nI a)) 8 n (nI b)) 5 1 (nI (n + 1)) = pM I (s.1, s.2.1, s.2.2.1, s.2.2.2 ++ [(a, b)]) := by
  have h1 : (s.2.2.2.map (fun x => x.1)).length = n := by simpa using hn
  have h2 : (s.2.2.2.map (fun x => x.2)).length = n := by simpa using hn
  refine pM_ext ?_ ?_ ?_ (fun u h5 h7 h8 => by rw [stI_r h5, stI_r h8, stI_r h7, pM_o h5 h7 h8])
  · rw [stI_g, stI_r (by decide), stI_r (by decide), pM_5]
    funext j
    simp only [txR, va_up, List.length_append, List.length_singleton, hn]
    repeat' split
    all_goals first | rfl | (exfalso; omega)
  · rw [stI_r (by decide), stI_r (by decide), stI_g, pM_7, ← h1, wsA_push, List.map_append]
    rfl
  · rw [stI_r (by decide), stI_g, stI_r (by decide), pM_8, ← h2, wsA_push, List.map_append]
    rfl
theorem wsA_last (ws : List Nat) (v b : Nat) (w : Row) : va_up (wsA (ws ++ [b]) w) ws.length (nI v) = wsA (ws ++ [v]) w := by
  rw [← wsA_push, ← wsA_push, bx_uu]
theorem rq_split {rq : List (Nat × Nat)} (h : rq ≠ []) : rq = rq.dropLast ++ [rq.getLastD (0, 0)] := by
  rw [List.getLastD_eq_getLast?, List.getLast?_eq_some_getLast h]
  exact (List.dropLast_concat_getLast h).symm
theorem pM_ex {I : MI} {s : PS} {d : Nat} (h : s.2.2.2 ≠ []) : stI (pM I s) 8 (s.2.2.2.length - 1) (nI (10 * (s.2.2.2.getLastD (0, 0)).2 + d)) = pM I (s.1, s.2.1, s.2.2.1, exL s.2.2.2 d) := by
  obtain ⟨nx, oc, ok, rq⟩ := s
  have h : rq ≠ [] := h
  have hs := rq_split h
  generalize rq.dropLast = pre at hs
  generalize hq : rq.getLastD (0, 0) = q at hs
  have hex : exL rq d = pre ++ [(q.1, 10 * q.2 + d)] := by
    unfold exL
    rw [hq, hs, List.dropLast_concat]
  have hl : rq.length - 1 = pre.length := by rw [hs]; simp
  rw [hs] at hex
  show stI (pM I (nx, oc, ok, rq)) 8 (rq.length - 1) (nI (10 * q.2 + d)) = pM I (nx, oc, ok, exL rq d)
  rw [hl]
  refine pM_ext ?_ ?_ ?_ (fun u h5 h7 h8 => by rw [stI_r h8, pM_o h5 h7 h8])
  · rw [stI_r (by decide), pM_5]
    funext j
    simp only [txR, hex, hs, List.length_append, List.length_singleton]
  · rw [stI_r (by decide), pM_7]
    simp only [hex, hs, List.map_append, List.map_cons, List.map_nil]
  · rw [stI_g, pM_8]
    simp only [hex, hs, List.map_append, List.map_cons, List.map_nil]
    have e : pre.length = (pre.map (fun x : Nat × Nat => x.2)).length := by simp
    rw [e, wsA_last]
theorem pM_last {I : MI} {s : PS} (h : s.2.2.2 ≠ []) : pM I s 8 (s.2.2.2.length - 1) = nI (s.2.2.2.getLastD (0, 0)).2 := by
  obtain ⟨nx, oc, ok, rq⟩ := s
  have h : rq ≠ [] := h
  have hs := rq_split h
  generalize hq : rq.getLastD (0, 0) = q at hs
  show pM I (nx, oc, ok, rq) 8 (rq.length - 1) = nI q.2
  rw [pM_8]
  show wsA (rq.map (fun x => x.2)) (I 8) (rq.length - 1) = nI q.2
  unfold wsA
  have hl : rq.length ≠ 0 := by
    intro z
    exact h (List.length_eq_zero_iff.mp z)
  rw [if_pos (by simp; omega)]
  congr 1
  rw [List.getD_eq_getElem?_getD, List.getElem?_map]
  rw [show rq[rq.length - 1]? = some q by
    rw [← List.getLast?_eq_getElem?, ← hq, List.getLastD_eq_getLast?, List.getLast?_eq_some_getLast h]
    rfl]
  rfl
/-- what holds while the text is read -/
def PI (at_ : Nat) (s : PS) : Prop := s.1 ≤ 4 ∧ s.2.2.2.length ≤ at_ ∧ (1 ≤ s.1 → ∃ c, c < 5 ∧ s.2.1 = some c) ∧ (∀ q ∈ s.2.2.2, q.1 < 5 ∧ q.2 < 1000) ∧ (s.1 = 3 → ∃ k, s.2.2.1 = some k ∧ k < at_ ∧ at_ - k ≤ 3 ∧ s.2.2.2 ≠ [] ∧ (s.2.2.2.getLastD (0, 0)).2 < 10 ^ (at_ - k))
section B22
variable {l : Launch} {I : MI} {L : ML} {R : MR}
theorem ok_isDigit {v : Nat} (hv : v < 256) : Ok l yX5_isDigit cX5_isDigit 1 (some .boolean) 0 0 0 [.int (nI v)] I L R 287 (eqP (some (.int (if 48 ≤ v ∧ v ≤ 57 then nI 1 else nI 0))) I L R 287) := by
  refine Ok.ofV [some (.int (nI v))] rfl (by decide) (Nat.le_of_ble_eq_true rfl) ?_
  refine v_iload_n (pc' := 1) dX5_isDigit_0 rfl rfl ?_
  refine v_bipush (v := nI 48) (pc' := 3) dX5_isDigit_1 rfl (by decide) ?_
  refine v_icmp_lt (pc' := 6) (tgt := 16) dX5_isDigit_3 rfl (by decide) (fun hb => ?_) (fun hb => ?_)
  · have hb := (nI_ltI (by omega) (by omega)).mp hb
    refine v_iconst (v := nI 0) (pc' := 17) dX5_isDigit_16 rfl (by decide) ?_
    exact v_zret dX5_isDigit_17 rfl rfl (Nat.le_refl _) (Nat.le_refl _) ⟨by rw [if_neg (by omega)], rfl, rfl, rfl, rfl⟩
  · have hb : ¬ v < 48 := fun z => hb ((nI_ltI (by omega) (by omega)).mpr z)
    refine v_iload_n (pc' := 7) dX5_isDigit_6 rfl rfl ?_
    refine v_bipush (v := nI 57) (pc' := 9) dX5_isDigit_7 rfl (by decide) ?_
    refine v_icmp_gt (pc' := 12) (tgt := 16) dX5_isDigit_9 rfl (by decide) (fun hc => ?_) (fun hc => ?_)
    · have hc := (nI_ltI (by omega) (by omega)).mp hc
      refine v_iconst (v := nI 0) (pc' := 17) dX5_isDigit_16 rfl (by decide) ?_
      exact v_zret dX5_isDigit_17 rfl rfl (Nat.le_refl _) (Nat.le_refl _) ⟨by rw [if_neg (by omega)], rfl, rfl, rfl, rfl⟩
    · have hc : ¬ 57 < v := fun z => hc ((nI_ltI (by omega) (by omega)).mpr z)
      refine v_iconst (v := nI 1) (pc' := 13) dX5_isDigit_12 rfl (by decide) ?_
      refine v_goto (tgt := 17) dX5_isDigit_13 (by decide) ?_
      exact v_zret dX5_isDigit_17 rfl rfl (Nat.le_refl _) (Nat.le_refl _) ⟨by rw [if_pos (by omega)], rfl, rfl, rfl, rfl⟩
theorem ok_append {n : Nat} {v : Int32} (hR : RS R) (hn : I 5 0 = nI n) (hn2 : n < 100) : Ok l yX5_append cX5_append 2 (some .boolean) 0 0 0 [.ref 268, .int v] I L R 287 (eqP (some (.int (nI 1))) (stI (stI I 6 n v) 5 0 (nI (n + 1))) L R 287) := by
  refine Ok.ofV [some (.ref 268), some (.int v)] rfl (by decide) (Nat.le_of_ble_eq_true rfl) ?_
  refine v_aload_n (pc' := 1) dX5_append_0 rfl rfl ?_
  refine v_gI (o := 0) (pc' := 4) dX5_append_1 rfl gf_X5_15 kp_X rfl rfl ?_
  refine v_bipush (v := nI 100) (pc' := 6) dX5_append_4 rfl (by decide) ?_
  refine v_icmp_lt (pc' := 9) (tgt := 11) dX5_append_6 rfl (by decide) (fun hb => ?_) (fun hb => ?_)
  · refine v_aload_n (pc' := 12) dX5_append_11 rfl rfl ?_
    refine v_getQ (pc' := 15) dX5_append_12 rfl gf_X5_11 kp_X rfl (rf_X_codes hR) ?_
    refine v_aload_n (pc' := 16) dX5_append_15 rfl rfl ?_
    refine v_gI (o := 0) (pc' := 19) dX5_append_16 rfl gf_X5_15 kp_X rfl rfl ?_
    rw [hn]
    refine v_iload_n (pc' := 20) dX5_append_19 rfl rfl ?_
    refine v_ias (pc' := 21) dX5_append_20 rfl kp_codes (Nat.zero_add _) rfl hn2 ?_
    refine v_aload_n (pc' := 22) dX5_append_21 rfl rfl ?_
    refine v_dup (pc' := 23) dX5_append_22 rfl rfl ?_
    refine v_gI (o := 0) (pc' := 26) dX5_append_23 rfl gf_X5_15 kp_X rfl rfl ?_
    rw [stI_ne (by omega), hn]
    refine v_iconst (v := nI 1) (pc' := 27) dX5_append_26 rfl (by decide) ?_
    refine v_iadd (pc' := 28) dX5_append_27 rfl ?_
    rw [nI_add]
    refine v_pI (o := 0) (pc' := 31) dX5_append_28 rfl gf_X5_15 pf_X5_15 kp_X rfl rfl (Or.inl rfl) rfl rfl ?_
    refine v_iconst (v := nI 1) (pc' := 32) dX5_append_31 rfl (by decide) ?_
    exact v_zret dX5_append_32 rfl rfl (Nat.le_refl _) (Nat.le_refl _) ⟨rfl, rfl, rfl, rfl, rfl⟩
  · exact absurd (by rw [hn]; exact nI_lt hn2 (by decide)) hb
theorem ok_appendF {v : Int32} (hR : RS R) (hn : I 5 0 = nI 100) : Ok l yX5_append cX5_append 2 (some .boolean) 0 0 0 [.ref 268, .int v] I L R 287 (eqP (some (.int (nI 0))) I L R 287) := by
  refine Ok.ofV [some (.ref 268), some (.int v)] rfl (by decide) (Nat.le_of_ble_eq_true rfl) ?_
  refine v_aload_n (pc' := 1) dX5_append_0 rfl rfl ?_
  refine v_gI (o := 0) (pc' := 4) dX5_append_1 rfl gf_X5_15 kp_X rfl rfl ?_
  refine v_bipush (v := nI 100) (pc' := 6) dX5_append_4 rfl (by decide) ?_
  refine v_icmp_lt (pc' := 9) (tgt := 11) dX5_append_6 rfl (by decide) (fun hb => ?_) (fun hb => ?_)
  · rw [hn] at hb
    exact absurd hb (by decide)
  · refine v_iconst (v := nI 0) (pc' := 10) dX5_append_9 rfl (by decide) ?_
    exact v_zret dX5_append_10 rfl rfl (Nat.le_refl _) (Nat.le_refl _) ⟨rfl, rfl, rfl, rfl, rfl⟩
theorem ok_readMark {s : PS} {v at_ : Nat} (hR : RS R) (hv : v < 256) : Ok l yX5_readMark cX5_readMark 3 (some .int) 0 0 0 [.ref 268, .int (nI v), .int (nI at_)] (pM I s) L R 287 (eqP (some (.int (if v = 44 ∨ v = 59 then -1 else nI at_))) (pM I (if v = 44 then (2, s.2) else if v = 59 then (0, s.2) else s)) L R 287) := by
  refine Ok.ofV [some (.ref 268), some (.int (nI v)), some (.int (nI at_))] rfl (by decide) (Nat.le_of_ble_eq_true rfl) ?_
  refine v_iload_n (pc' := 1) dX5_readMark_0 rfl rfl ?_
  refine v_bipush (v := nI 44) (pc' := 3) dX5_readMark_1 rfl (by decide) ?_
  refine v_icmp_ne (pc' := 6) (tgt := 13) dX5_readMark_3 rfl (by decide) (fun hb => ?_) (fun hb => ?_)
  · have hb : ¬ v = 44 := fun z => hb (by rw [z])
    refine v_iload_n (pc' := 14) dX5_readMark_13 rfl rfl ?_
    refine v_bipush (v := nI 59) (pc' := 16) dX5_readMark_14 rfl (by decide) ?_
    refine v_icmp_ne (pc' := 19) (tgt := 26) dX5_readMark_16 rfl (by decide) (fun hc => ?_) (fun hc => ?_)
    · have hc : ¬ v = 59 := fun z => hc (by rw [z])
      refine v_iload_n (pc' := 27) dX5_readMark_26 rfl rfl ?_
      exact v_iret dX5_readMark_27 rfl (Nat.le_refl _) (Nat.le_refl _) ⟨by rw [if_neg (by omega)], by rw [if_neg hb, if_neg hc], rfl, rfl, rfl⟩
    · have hc := (nI_eq (by omega) (by omega)).mp hc
      refine v_aload_n (pc' := 20) dX5_readMark_19 rfl rfl ?_
      refine v_iconst (v := nI 0) (pc' := 21) dX5_readMark_20 rfl (by decide) ?_
      refine v_pI (o := 2) (pc' := 24) dX5_readMark_21 rfl gf_X5_28 pf_X5_28 kp_X rfl rfl (Or.inl rfl) rfl rfl ?_
      refine v_iconst (v := -1) (pc' := 25) dX5_readMark_24 rfl (by decide) ?_
      exact v_iret dX5_readMark_25 rfl (Nat.le_refl _) (Nat.le_refl _) ⟨by rw [if_pos (by omega)], by rw [if_neg hb, if_pos hc, pM_nx], rfl, rfl, rfl⟩
  · have hb := (nI_eq (by omega) (by omega)).mp hb
    refine v_aload_n (pc' := 7) dX5_readMark_6 rfl rfl ?_
    refine v_iconst (v := nI 2) (pc' := 8) dX5_readMark_7 rfl (by decide) ?_
    refine v_pI (o := 2) (pc' := 11) dX5_readMark_8 rfl gf_X5_28 pf_X5_28 kp_X rfl rfl (Or.inl rfl) rfl rfl ?_
    refine v_iconst (v := -1) (pc' := 12) dX5_readMark_11 rfl (by decide) ?_
    exact v_iret dX5_readMark_12 rfl (Nat.le_refl _) (Nat.le_refl _) ⟨by rw [if_pos (by omega)], by rw [if_pos hb, pM_nx], rfl, rfl, rfl⟩
theorem ok_readColon {s : PS} {v at_ : Nat} (hR : RS R) (hv : v < 256) : Ok l yX5_readColon cX5_readColon 3 (some .int) 0 0 0 [.ref 268, .int (nI v), .int (nI at_)] (pM I s) L R 287 (eqP (some (.int (if v = 58 then -1 else nI at_))) (pM I (if v = 58 then (2, s.2) else s)) L R 287) := by
  refine Ok.ofV [some (.ref 268), some (.int (nI v)), some (.int (nI at_))] rfl (by decide) (Nat.le_of_ble_eq_true rfl) ?_
  refine v_iload_n (pc' := 1) dX5_readColon_0 rfl rfl ?_
  refine v_bipush (v := nI 58) (pc' := 3) dX5_readColon_1 rfl (by decide) ?_
  refine v_icmp_eq (pc' := 6) (tgt := 8) dX5_readColon_3 rfl (by decide) (fun hb => ?_) (fun hb => ?_)
  · have hb := (nI_eq (by omega) (by omega)).mp hb
    refine v_aload_n (pc' := 9) dX5_readColon_8 rfl rfl ?_
    refine v_iconst (v := nI 2) (pc' := 10) dX5_readColon_9 rfl (by decide) ?_
    refine v_pI (o := 2) (pc' := 13) dX5_readColon_10 rfl gf_X5_28 pf_X5_28 kp_X rfl rfl (Or.inl rfl) rfl rfl ?_
    refine v_iconst (v := -1) (pc' := 14) dX5_readColon_13 rfl (by decide) ?_
    exact v_iret dX5_readColon_14 rfl (Nat.le_refl _) (Nat.le_refl _) ⟨by rw [if_pos hb], by rw [if_pos hb, pM_nx], rfl, rfl, rfl⟩
  · have hb : ¬ v = 58 := fun z => hb (by rw [z])
    refine v_iload_n (pc' := 7) dX5_readColon_6 rfl rfl ?_
    exact v_iret dX5_readColon_7 rfl (Nat.le_refl _) (Nat.le_refl _) ⟨by rw [if_neg hb], by rw [if_neg hb], rfl, rfl, rfl⟩
theorem ok_readCache {s : PS} {v at_ : Nat} (hR : RS R) (hv : v < 256) : Ok l yX5_readCache cX5_readCache 3 (some .int) 1 0 0 [.ref 268, .int (nI v), .int (nI at_)] (pM I s) L R 287 (eqP (some (.int (if 48 ≤ v ∧ v ≤ 52 then -1 else nI at_))) (pM I (if 48 ≤ v ∧ v ≤ 52 then (1, some (v - 48), s.2.2) else s)) L R 287) := by
  have hcond : (nI v - nI 48 < nI 0 ∨ nI 4 < nI v - nI 48) ↔ ¬ (48 ≤ v ∧ v ≤ 52) := by
    rw [Int32.lt_iff_toInt_lt, Int32.lt_iff_toInt_lt, pk_sub_toInt (by omega) (by decide), nI_toInt (by decide), nI_toInt (by decide)]
    omega
  refine Ok.ofV [some (.ref 268), some (.int (nI v)), some (.int (nI at_))] rfl (by decide) (Nat.le_of_ble_eq_true rfl) ?_
  refine v_iload_n (pc' := 1) dX5_readCache_0 rfl rfl ?_
  refine v_bipush (v := nI 48) (pc' := 3) dX5_readCache_1 rfl (by decide) ?_
  refine v_isub (pc' := 4) dX5_readCache_3 rfl ?_
  refine v_iconst (v := nI 0) (pc' := 5) dX5_readCache_4 rfl (by decide) ?_
  refine v_iconst (v := nI 4) (pc' := 6) dX5_readCache_5 rfl (by decide) ?_
  refine v_cN3i (pc' := 9) dX5_readCache_6 rfl cs_X5_60 (Nat.le_of_ble_eq_true rfl) rfl (ok_isOutside) ?_
  refine v_if_eq (pc' := 12) (tgt := 14) dX5_readCache_9 rfl (by decide) (fun hb => ?_) (fun hb => ?_)
  · have hb := ite01.mp hb
    have hv2 : 48 ≤ v ∧ v ≤ 52 := Classical.not_not.mp (fun z => hb (hcond.mpr z))
    refine v_aload_n (pc' := 15) dX5_readCache_14 rfl rfl ?_
    refine v_iload_n (pc' := 16) dX5_readCache_15 rfl rfl ?_
    refine v_bipush (v := nI 48) (pc' := 18) dX5_readCache_16 rfl (by decide) ?_
    refine v_isub (pc' := 19) dX5_readCache_18 rfl ?_
    rw [pk_sub hv2.1]
    refine v_pI (o := 3) (pc' := 22) dX5_readCache_19 rfl gf_X5_31 pf_X5_31 kp_X rfl rfl (Or.inl rfl) rfl rfl ?_
    refine v_aload_n (pc' := 23) dX5_readCache_22 rfl rfl ?_
    refine v_iconst (v := nI 1) (pc' := 24) dX5_readCache_23 rfl (by decide) ?_
    refine v_pI (o := 2) (pc' := 27) dX5_readCache_24 rfl gf_X5_28 pf_X5_28 kp_X rfl rfl (Or.inl rfl) rfl rfl ?_
    refine v_iconst (v := -1) (pc' := 28) dX5_readCache_27 rfl (by decide) ?_
    exact v_iret dX5_readCache_28 rfl (Nat.le_refl _) (Nat.le_refl _) ⟨by rw [if_pos hv2], by rw [if_pos hv2, pM_ca, pM_nx], rfl, rfl, rfl⟩
  · have hb := Classical.not_not.mp (fun z => hb (ite01.mpr z))
    have hv2 := hcond.mp hb
    refine v_iload_n (pc' := 13) dX5_readCache_12 rfl rfl ?_
    exact v_iret dX5_readCache_13 rfl (Nat.le_refl _) (Nat.le_refl _) ⟨by rw [if_neg hv2], by rw [if_neg hv2], rfl, rfl, rfl⟩
theorem pM_51 {s : PS} : pM I s 5 1 = nI s.2.2.2.length := by
  rw [pM_5]
  unfold txR
  rw [va_up_ne _ _ (by decide), va_up_ne _ _ (by decide), va_up_ne _ _ (by decide), va_up_self]
theorem pM_52 {s : PS} : pM I s 5 2 = nI s.1 := by
  rw [pM_5]
  unfold txR
  rw [va_up_ne _ _ (by decide), va_up_ne _ _ (by decide), va_up_self]
theorem pM_53 {s : PS} : pM I s 5 3 = ov s.2.1 (I 5 3) := by
  rw [pM_5]
  unfold txR
  rw [va_up_ne _ _ (by decide), va_up_self]
theorem pM_54 {s : PS} : pM I s 5 4 = ov s.2.2.1 (I 5 4) := by
  rw [pM_5]
  unfold txR
  rw [va_up_self]
theorem pM_50 {s : PS} : pM I s 5 0 = I 5 0 := by
  rw [pM_5]
  unfold txR
  rw [va_up_ne _ _ (by decide), va_up_ne _ _ (by decide), va_up_ne _ _ (by decide), va_up_ne _ _ (by decide)]
theorem ok_startNumber {s : PS} {v at_ c : Nat} (hR : RS R) (hv : 48 ≤ v ∧ v ≤ 57) (hc : s.2.1 = some c) (hl : s.2.2.2.length < 100) : Ok l yX5_startNumber cX5_startNumber 3 (some .int) 0 0 0 [.ref 268, .int (nI v), .int (nI at_)] (pM I s) L R 287 (eqP (some (.int (-1))) (pM I (3, s.2.1, some at_, s.2.2.2 ++ [(c, v - 48)])) L R 287) := by
  have e3 : pM I s 5 3 = nI c := by rw [pM_53, hc]; rfl
  refine Ok.ofV [some (.ref 268), some (.int (nI v)), some (.int (nI at_))] rfl (by decide) (Nat.le_of_ble_eq_true rfl) ?_
  refine v_aload_n (pc' := 1) dX5_startNumber_0 rfl rfl ?_
  refine v_gI (o := 1) (pc' := 4) dX5_startNumber_1 rfl gf_X5_25 kp_X rfl rfl ?_
  refine v_bipush (v := nI 100) (pc' := 6) dX5_startNumber_4 rfl (by decide) ?_
  refine v_icmp_lt (pc' := 9) (tgt := 11) dX5_startNumber_6 rfl (by decide) (fun hb => ?_) (fun hb => ?_)
  · refine v_aload_n (pc' := 12) dX5_startNumber_11 rfl rfl ?_
    refine v_getQ (pc' := 15) dX5_startNumber_12 rfl gf_X5_19 kp_X rfl (rf_X_askedCaches hR) ?_
    refine v_aload_n (pc' := 16) dX5_startNumber_15 rfl rfl ?_
    refine v_gI (o := 1) (pc' := 19) dX5_startNumber_16 rfl gf_X5_25 kp_X rfl rfl ?_
    rw [pM_51]
    refine v_aload_n (pc' := 20) dX5_startNumber_19 rfl rfl ?_
    refine v_gI (o := 3) (pc' := 23) dX5_startNumber_20 rfl gf_X5_31 kp_X rfl rfl ?_
    rw [e3]
    refine v_ias (pc' := 24) dX5_startNumber_23 rfl kp_askedCaches (Nat.zero_add _) rfl hl ?_
    refine v_aload_n (pc' := 25) dX5_startNumber_24 rfl rfl ?_
    refine v_getQ (pc' := 28) dX5_startNumber_25 rfl gf_X5_22 kp_X rfl (rf_X_askedObjects hR) ?_
    refine v_aload_n (pc' := 29) dX5_startNumber_28 rfl rfl ?_
    refine v_gI (o := 1) (pc' := 32) dX5_startNumber_29 rfl gf_X5_25 kp_X rfl rfl ?_
    rw [stI_ne (by omega), pM_51]
    refine v_iload_n (pc' := 33) dX5_startNumber_32 rfl rfl ?_
    refine v_bipush (v := nI 48) (pc' := 35) dX5_startNumber_33 rfl (by decide) ?_
    refine v_isub (pc' := 36) dX5_startNumber_35 rfl ?_
    rw [pk_sub hv.1]
    refine v_ias (pc' := 37) dX5_startNumber_36 rfl kp_askedObjects (Nat.zero_add _) rfl hl ?_
    refine v_aload_n (pc' := 38) dX5_startNumber_37 rfl rfl ?_
    refine v_dup (pc' := 39) dX5_startNumber_38 rfl rfl ?_
    refine v_gI (o := 1) (pc' := 42) dX5_startNumber_39 rfl gf_X5_25 kp_X rfl rfl ?_
    rw [stI_ne (by omega), stI_ne (by omega), pM_51]
    refine v_iconst (v := nI 1) (pc' := 43) dX5_startNumber_42 rfl (by decide) ?_
    refine v_iadd (pc' := 44) dX5_startNumber_43 rfl ?_
    rw [nI_add]
    refine v_pI (o := 1) (pc' := 47) dX5_startNumber_44 rfl gf_X5_25 pf_X5_25 kp_X rfl rfl (Or.inl rfl) rfl rfl ?_
    rw [pM_push rfl]
    refine v_aload_n (pc' := 48) dX5_startNumber_47 rfl rfl ?_
    refine v_iload_n (pc' := 49) dX5_startNumber_48 rfl rfl ?_
    refine v_pI (o := 4) (pc' := 52) dX5_startNumber_49 rfl gf_X5_34 pf_X5_34 kp_X rfl rfl (Or.inl rfl) rfl rfl ?_
    refine v_aload_n (pc' := 53) dX5_startNumber_52 rfl rfl ?_
    refine v_iconst (v := nI 3) (pc' := 54) dX5_startNumber_53 rfl (by decide) ?_
    refine v_pI (o := 2) (pc' := 57) dX5_startNumber_54 rfl gf_X5_28 pf_X5_28 kp_X rfl rfl (Or.inl rfl) rfl rfl ?_
    refine v_iconst (v := -1) (pc' := 58) dX5_startNumber_57 rfl (by decide) ?_
    exact v_iret dX5_startNumber_58 rfl (Nat.le_refl _) (Nat.le_refl _) ⟨rfl, by rw [pM_ns, pM_nx], rfl, rfl, rfl⟩
  · exact absurd (by rw [pM_51]; exact nI_lt hl (by decide)) hb
theorem ok_extendNumber {s : PS} {v at_ k : Nat} (hR : RS R) (hv : 48 ≤ v ∧ v ≤ 57) (hk : s.2.2.1 = some k) (hka : k ≤ at_) (hat : at_ < 100) (hl : s.2.2.2.length ≤ 100) (hne : s.2.2.2 ≠ []) : Ok l yX5_extendNumber cX5_extendNumber 3 (some .int) 0 0 0 [.ref 268, .int (nI v), .int (nI at_)] (pM I s) L R 287 (eqP (some (.int (if 3 ≤ at_ - k then nI k else -1))) (pM I (if 3 ≤ at_ - k then s else (s.1, s.2.1, s.2.2.1, exL s.2.2.2 (v - 48)))) L R 287) := by
  have e4 : pM I s 5 4 = nI k := by rw [pM_54, hk]; rfl
  have hl1 : 1 ≤ s.2.2.2.length := by
    rcases Nat.eq_zero_or_pos s.2.2.2.length with z | z
    · exact absurd (List.length_eq_zero_iff.mp z) hne
    · exact z
  refine Ok.ofV [some (.ref 268), some (.int (nI v)), some (.int (nI at_))] rfl (by decide) (Nat.le_of_ble_eq_true rfl) ?_
  refine v_iload_n (pc' := 1) dX5_extendNumber_0 rfl rfl ?_
  refine v_aload_n (pc' := 2) dX5_extendNumber_1 rfl rfl ?_
  refine v_gI (o := 4) (pc' := 5) dX5_extendNumber_2 rfl gf_X5_34 kp_X rfl rfl ?_
  rw [e4]
  refine v_isub (pc' := 6) dX5_extendNumber_5 rfl ?_
  refine v_iconst (v := nI 3) (pc' := 7) dX5_extendNumber_6 rfl (by decide) ?_
  refine v_icmp_ge (pc' := 10) (tgt := 18) dX5_extendNumber_7 rfl (by decide) (fun hb => ?_) (fun hb => ?_)
  · rw [pk_sub hka] at hb
    have hb := (nI_leI (by omega) (by omega)).mp hb
    refine v_aload_n (pc' := 19) dX5_extendNumber_18 rfl rfl ?_
    refine v_gI (o := 4) (pc' := 22) dX5_extendNumber_19 rfl gf_X5_34 kp_X rfl rfl ?_
    rw [e4]
    exact v_iret dX5_extendNumber_22 rfl (Nat.le_refl _) (Nat.le_refl _) ⟨by rw [if_pos hb], by rw [if_pos hb], rfl, rfl, rfl⟩
  · rw [pk_sub hka] at hb
    have hb : ¬ 3 ≤ at_ - k := fun z => hb ((nI_leI (by omega) (by omega)).mpr z)
    refine v_aload_n (pc' := 11) dX5_extendNumber_10 rfl rfl ?_
    refine v_gI (o := 1) (pc' := 14) dX5_extendNumber_11 rfl gf_X5_25 kp_X rfl rfl ?_
    refine v_iconst (v := nI 1) (pc' := 15) dX5_extendNumber_14 rfl (by decide) ?_
    refine v_icmp_ge (pc' := 18) (tgt := 23) dX5_extendNumber_15 rfl (by decide) (fun hc => ?_) (fun hc => ?_)
    · refine v_aload_n (pc' := 24) dX5_extendNumber_23 rfl rfl ?_
      refine v_getQ (pc' := 27) dX5_extendNumber_24 rfl gf_X5_22 kp_X rfl (rf_X_askedObjects hR) ?_
      refine v_aload_n (pc' := 28) dX5_extendNumber_27 rfl rfl ?_
      refine v_gI (o := 1) (pc' := 31) dX5_extendNumber_28 rfl gf_X5_25 kp_X rfl rfl ?_
      refine v_iconst (v := nI 1) (pc' := 32) dX5_extendNumber_31 rfl (by decide) ?_
      refine v_isub (pc' := 33) dX5_extendNumber_32 rfl ?_
      refine v_bipush (v := nI 10) (pc' := 35) dX5_extendNumber_33 rfl (by decide) ?_
      refine v_aload_n (pc' := 36) dX5_extendNumber_35 rfl rfl ?_
      refine v_getQ (pc' := 39) dX5_extendNumber_36 rfl gf_X5_22 kp_X rfl (rf_X_askedObjects hR) ?_
      refine v_aload_n (pc' := 40) dX5_extendNumber_39 rfl rfl ?_
      refine v_gI (o := 1) (pc' := 43) dX5_extendNumber_40 rfl gf_X5_25 kp_X rfl rfl ?_
      refine v_iconst (v := nI 1) (pc' := 44) dX5_extendNumber_43 rfl (by decide) ?_
      refine v_isub (pc' := 45) dX5_extendNumber_44 rfl ?_
      rw [pM_51, pk_sub hl1]
      refine v_ial (pc' := 46) dX5_extendNumber_45 rfl kp_askedObjects (Nat.zero_add _) rfl (by omega) ?_
      rw [pM_last hne]
      refine v_imul (pc' := 47) dX5_extendNumber_46 rfl ?_
      refine v_iload_n (pc' := 48) dX5_extendNumber_47 rfl rfl ?_
      refine v_iadd (pc' := 49) dX5_extendNumber_48 rfl ?_
      refine v_bipush (v := nI 48) (pc' := 51) dX5_extendNumber_49 rfl (by decide) ?_
      refine v_isub (pc' := 52) dX5_extendNumber_51 rfl ?_
      rw [pk_mul, nI_add, pk_sub (by omega), show 10 * (s.2.2.2.getLastD (0, 0)).2 + v - 48 = 10 * (s.2.2.2.getLastD (0, 0)).2 + (v - 48) by omega]
      refine v_ias (pc' := 53) dX5_extendNumber_52 rfl kp_askedObjects (Nat.zero_add _) rfl (by omega) ?_
      refine v_iconst (v := -1) (pc' := 54) dX5_extendNumber_53 rfl (by decide) ?_
      exact v_iret dX5_extendNumber_54 rfl (Nat.le_refl _) (Nat.le_refl _) ⟨by rw [if_neg hb], by rw [if_neg hb, pM_ex hne], rfl, rfl, rfl⟩
    · exact absurd (by rw [pM_51]; exact nI_le hl1 (by omega)) hc
end B22
