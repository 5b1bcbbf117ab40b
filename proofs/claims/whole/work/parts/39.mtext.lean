/-! ===== the text, as the model reads it ===== -/
/-- how many spaces, how many digits stand here -/
def ns (cd : Nat → Nat) : Nat → Nat → Nat
  | 0, _ => 0
  | k + 1, p => if cd p = 32 then ns cd k (p + 1) + 1 else 0
def nd (cd : Nat → Nat) : Nat → Nat → Nat
  | 0, _ => 0
  | k + 1, p => if 48 ≤ cd p ∧ cd p ≤ 57 then nd cd k (p + 1) + 1 else 0
def dv (cd : Nat → Nat) (p : Nat) : Nat → Nat
  | 0 => 0
  | j + 1 => if j < 4 then 10 * dv cd p j + (cd (p + j) - 48) else dv cd p j
theorem ns_le {cd : Nat → Nat} : ∀ (k p : Nat), ns cd k p ≤ k
  | 0, _ => Nat.le_refl _
  | k + 1, p => by
    unfold ns
    have := ns_le (cd := cd) k (p + 1)
    split <;> omega
theorem nd_le {cd : Nat → Nat} : ∀ (k p : Nat), nd cd k p ≤ k
  | 0, _ => Nat.le_refl _
  | k + 1, p => by
    unfold nd
    have := nd_le (cd := cd) k (p + 1)
    split <;> omega
theorem ns_stop {cd : Nat → Nat} : ∀ (k p : Nat), ns cd k p < k → cd (p + ns cd k p) ≠ 32
  | 0, _, h => absurd h (Nat.not_lt_zero _)
  | k + 1, p, h => by
    unfold ns at h ⊢
    by_cases c : cd p = 32
    · rw [if_pos c] at h ⊢
      have := ns_stop (cd := cd) k (p + 1) (by omega)
      rw [show p + (ns cd k (p + 1) + 1) = p + 1 + ns cd k (p + 1) by omega]
      exact this
    · rw [if_neg c]
      exact c
theorem nd_stop {cd : Nat → Nat} : ∀ (k p : Nat), nd cd k p < k → ¬ (48 ≤ cd (p + nd cd k p) ∧ cd (p + nd cd k p) ≤ 57)
  | 0, _, h => absurd h (Nat.not_lt_zero _)
  | k + 1, p, h => by
    unfold nd at h ⊢
    by_cases c : 48 ≤ cd p ∧ cd p ≤ 57
    · rw [if_pos c] at h ⊢
      have := nd_stop (cd := cd) k (p + 1) (by omega)
      rw [show p + (nd cd k (p + 1) + 1) = p + 1 + nd cd k (p + 1) by omega]
      exact this
    · rw [if_neg c]
      exact c
theorem nd_in {cd : Nat → Nat} : ∀ (k p j : Nat), j < nd cd k p → 48 ≤ cd (p + j) ∧ cd (p + j) ≤ 57
  | 0, _, _, h => absurd h (Nat.not_lt_zero _)
  | k + 1, p, j, h => by
    unfold nd at h
    by_cases c : 48 ≤ cd p ∧ cd p ≤ 57
    · rw [if_pos c] at h
      cases j with
      | zero => exact c
      | succ j =>
        have := nd_in (cd := cd) k (p + 1) j (by omega)
        rw [show p + (j + 1) = p + 1 + j by omega]
        exact this
    · rw [if_neg c] at h
      exact absurd h (Nat.not_lt_zero _)
theorem ns_0 {cd : Nat → Nat} {k p : Nat} (h : 0 < k → cd p ≠ 32) : ns cd k p = 0 := by
  cases k with
  | zero => rfl
  | succ k => exact if_neg (h (by omega))
theorem pRun_s {cd : Nat → Nat} {k p : Nat} {s t : PS} (h : pStep (cd p) p s = (t, none)) : pRun cd (k + 1) p s = pRun cd k (p + 1) t := by
  show (match (pStep (cd p) p s).2 with | some f => ((pStep (cd p) p s).1, some f) | none => pRun cd k (p + 1) (pStep (cd p) p s).1) = _
  rw [h]
theorem pRun_f {cd : Nat → Nat} {k p f : Nat} {s t : PS} (h : pStep (cd p) p s = (t, some f)) : pRun cd (k + 1) p s = (t, some f) := by
  show (match (pStep (cd p) p s).2 with | some f => ((pStep (cd p) p s).1, some f) | none => pRun cd k (p + 1) (pStep (cd p) p s).1) = _
  rw [h]
theorem pRun_ns {cd : Nat → Nat} : ∀ (k p : Nat) (s : PS), s.1 ≠ 3 → pRun cd k p s = pRun cd (k - ns cd k p) (p + ns cd k p) s
  | 0, _, _, _ => rfl
  | k + 1, p, s, h => by
    unfold ns
    by_cases c : cd p = 32
    · rw [if_pos c]
      have e : pStep (cd p) p s = (s, none) := by
        unfold pStep
        rw [if_pos c, if_neg h]
      rw [pRun_s e, pRun_ns k (p + 1) s h, show k + 1 - (ns cd k (p + 1) + 1) = k - ns cd k (p + 1) by omega, show p + (ns cd k (p + 1) + 1) = p + 1 + ns cd k (p + 1) by omega]
    · rw [if_neg c]
      rfl
theorem pRun_ns3 {cd : Nat → Nat} {k p : Nat} {s : PS} (h : s.1 = 3) : pRun cd k p s = pRun cd (k - ns cd k p) (p + ns cd k p) (if ns cd k p = 0 then s else (4, s.2)) := by
  cases k with
  | zero => rfl
  | succ k =>
    by_cases c : cd p = 32
    · have e1 : ns cd (k + 1) p = ns cd k (p + 1) + 1 := if_pos c
      have e : pStep (cd p) p s = ((4, s.2), none) := by
        unfold pStep
        rw [if_pos c, if_pos h]
      rw [e1, if_neg (by omega), pRun_s e, pRun_ns k (p + 1) (4, s.2) (by show (4 : Nat) ≠ 3; omega), show k + 1 - (ns cd k (p + 1) + 1) = k - ns cd k (p + 1) by omega, show p + (ns cd k (p + 1) + 1) = p + 1 + ns cd k (p + 1) by omega]
    · have e1 : ns cd (k + 1) p = 0 := if_neg c
      rw [e1, if_pos rfl]
      rfl
theorem exL_push {rq : List (Nat × Nat)} {c v d : Nat} : exL (rq ++ [(c, v)]) d = rq ++ [(c, 10 * v + d)] := by
  unfold exL
  rw [List.dropLast_concat, List.getLastD_concat]
/-- digits are read -/
theorem pRun_dg {cd : Nat → Nat} {k p c : Nat} {oc ok : Option Nat} {rq : List (Nat × Nat)} (hoc : oc = some c) : ∀ j, 1 ≤ j → j ≤ nd cd k p → j ≤ 3 → pRun cd k p (2, oc, ok, rq) = pRun cd (k - j) (p + j) (3, oc, some p, rq ++ [(c, dv cd p j)])
  | 0, h, _, _ => absurd h (by omega)
  | j + 1, _, h, h3 => by
    have hd := nd_in (cd := cd) k p j (by omega)
    have hk := nd_le (cd := cd) k p
    by_cases hj : j = 0
    · subst hj
      obtain ⟨k', rfl⟩ : ∃ k', k = k' + 1 := ⟨k - 1, by omega⟩
      have e : pStep (cd p) p (2, oc, ok, rq) = ((3, oc, some p, rq ++ [(c, dv cd p 1)]), none) := by
        have hd' : 48 ≤ cd p ∧ cd p ≤ 57 := hd
        unfold pStep
        rw [if_neg (by omega)]
        simp only
        rw [if_neg (by omega), if_neg (by omega), if_pos (by trivial), if_pos hd', hoc]
        have e1 : dv cd p 1 = cd p - 48 := by
          have : dv cd p 1 = 10 * dv cd p 0 + (cd (p + 0) - 48) := if_pos (by decide)
          rw [this, show dv cd p 0 = 0 from rfl, Nat.mul_zero, Nat.zero_add, Nat.add_zero]
        rw [e1]
        rfl
      exact pRun_s e
    · have ih := pRun_dg (cd := cd) (k := k) (p := p) (ok := ok) (rq := rq) hoc j (by omega) (by omega) (by omega)
      rw [ih]
      obtain ⟨k', hk'⟩ : ∃ k', k - j = k' + 1 := ⟨k - j - 1, by omega⟩
      have e : pStep (cd (p + j)) (p + j) (3, oc, some p, rq ++ [(c, dv cd p j)]) = ((3, oc, some p, rq ++ [(c, dv cd p (j + 1))]), none) := by
        unfold pStep
        rw [if_neg (by omega)]
        simp only
        rw [if_neg (by omega), if_neg (by omega), if_neg (by omega), if_pos ⟨by trivial, hd⟩]
        simp only [Option.getD_some]
        rw [if_neg (by omega), exL_push]
        have : dv cd p (j + 1) = 10 * dv cd p j + (cd (p + j) - 48) := if_pos (by omega)
        rw [this]
      rw [hk', pRun_s e, show k - (j + 1) = k' by omega]
      rfl
theorem pRun_dgF {cd : Nat → Nat} {k p c : Nat} {oc ok : Option Nat} {rq : List (Nat × Nat)} (hoc : oc = some c) (h : 3 < nd cd k p) : ∃ t, pRun cd k p (2, oc, ok, rq) = (t, some p) := by
  have hd := nd_in (cd := cd) k p 3 h
  have hk := nd_le (cd := cd) k p
  rw [pRun_dg hoc 3 (by omega) (by omega) (by omega)]
  obtain ⟨k', hk'⟩ : ∃ k', k - 3 = k' + 1 := ⟨k - 3 - 1, by omega⟩
  rw [hk']
  refine ⟨_, pRun_f (t := (3, oc, some p, rq ++ [(c, dv cd p 3)])) ?_⟩
  unfold pStep
  rw [if_neg (by omega)]
  simp only
  rw [if_neg (by omega), if_neg (by omega), if_neg (by omega), if_pos ⟨by trivial, hd⟩]
  simp only [Option.getD_some]
  rw [if_pos (by omega)]
theorem dv_lt {cd : Nat → Nat} {p : Nat} : ∀ j, (∀ i, i < j → 48 ≤ cd (p + i) ∧ cd (p + i) ≤ 57) → dv cd p j < 10 ^ (min j 4)
  | 0, _ => by
    show 0 < 1
    omega
  | j + 1, h => by
    have ih := dv_lt (cd := cd) (p := p) j (fun i hi => h i (by omega))
    have hj := h j (by omega)
    unfold dv
    by_cases c : j < 4
    · rw [if_pos c, show min (j + 1) 4 = j + 1 by omega, Nat.pow_succ]
      rw [show min j 4 = j by omega] at ih
      omega
    · rw [if_neg c, show min (j + 1) 4 = 4 by omega]
      rw [show min j 4 = 4 by omega] at ih
      exact ih
/-- answers of the text -/
theorem aPar_f {t : PS} {f n : Nat} : aPar (t, some f) n = nI f := rfl
theorem aPar_e {s : PS} {n : Nat} (h : s.1 ≠ 3) (h4 : s.1 ≠ 4) : aPar (s, none) n = nI n := by
  show (if s.1 = 3 ∨ s.1 = 4 then (-1 : Int32) else nI n) = nI n
  rw [if_neg (fun z => z.elim h h4)]
theorem aPar_o {s : PS} {n : Nat} (h : s.1 = 3 ∨ s.1 = 4) : aPar (s, none) n = -1 := if_pos h
/-- the fault where a byte cannot stand -/
theorem flt0 {cd : Nat → Nat} {k p n : Nat} {s : PS} (hn : p + k = n) (h0 : s.1 = 0) (hs : 0 < k → cd p ≠ 32) (h : ¬ (0 < k ∧ 48 ≤ cd p ∧ cd p ≤ 52)) : aPar (pRun cd k p s) n = nI p := by
  cases k with
  | zero =>
    rw [show pRun cd 0 p s = (s, none) from rfl, aPar_e (by omega) (by omega), ← hn]
    rfl
  | succ k =>
    have e : pStep (cd p) p s = (s, some p) := by
      unfold pStep
      rw [if_neg (hs (by omega)), if_pos h0, if_neg (fun z => h ⟨by omega, z⟩)]
    rw [pRun_f e]
    rfl
theorem flt1 {cd : Nat → Nat} {k p n : Nat} {s : PS} (hn : p + k = n) (h0 : s.1 = 1) (hs : 0 < k → cd p ≠ 32) (h : ¬ (0 < k ∧ cd p = 58)) : aPar (pRun cd k p s) n = nI p := by
  cases k with
  | zero =>
    rw [show pRun cd 0 p s = (s, none) from rfl, aPar_e (by omega) (by omega), ← hn]
    rfl
  | succ k =>
    have e : pStep (cd p) p s = (s, some p) := by
      unfold pStep
      rw [if_neg (hs (by omega)), if_neg (by omega), if_pos h0, if_neg (fun z => h ⟨by omega, z⟩)]
    rw [pRun_f e]
    rfl
theorem flt2 {cd : Nat → Nat} {k p n : Nat} {s : PS} (hn : p + k = n) (h0 : s.1 = 2) (hs : 0 < k → cd p ≠ 32) (h : nd cd k p = 0) : aPar (pRun cd k p s) n = nI p := by
  cases k with
  | zero =>
    rw [show pRun cd 0 p s = (s, none) from rfl, aPar_e (by omega) (by omega), ← hn]
    rfl
  | succ k =>
    have hd : ¬ (48 ≤ cd p ∧ cd p ≤ 57) := fun z => by
      unfold nd at h
      rw [if_pos z] at h
      omega
    have e : pStep (cd p) p s = (s, some p) := by
      unfold pStep
      rw [if_neg (hs (by omega)), if_neg (by omega), if_neg (by omega), if_pos h0, if_neg hd]
    rw [pRun_f e]
    rfl
theorem st01 {cd : Nat → Nat} {k p : Nat} {s : PS} (h0 : s.1 = 0) (h : 48 ≤ cd p ∧ cd p ≤ 52) : pRun cd (k + 1) p s = pRun cd k (p + 1) (1, some (cd p - 48), s.2.2) := by
  refine pRun_s ?_
  unfold pStep
  rw [if_neg (by omega), if_pos h0, if_pos h]
theorem st12 {cd : Nat → Nat} {k p : Nat} {s : PS} (h0 : s.1 = 1) (h : cd p = 58) : pRun cd (k + 1) p s = pRun cd k (p + 1) (2, s.2) := by
  refine pRun_s ?_
  unfold pStep
  rw [if_neg (by omega), if_neg (by omega), if_pos h0, if_pos h]
theorem stM {cd : Nat → Nat} {k p : Nat} {s : PS} (h0 : s.1 = 3 ∨ s.1 = 4) (h : cd p = 44) : pRun cd (k + 1) p s = pRun cd k (p + 1) (2, s.2) := by
  refine pRun_s ?_
  unfold pStep
  rw [if_neg (by omega), if_neg (by omega), if_neg (by omega), if_neg (by omega), if_neg (by omega), if_pos h]
theorem stN {cd : Nat → Nat} {k p : Nat} {s : PS} (h0 : s.1 = 3 ∨ s.1 = 4) (h : cd p = 59) : pRun cd (k + 1) p s = pRun cd k (p + 1) (0, s.2) := by
  refine pRun_s ?_
  unfold pStep
  rw [if_neg (by omega), if_neg (by omega), if_neg (by omega), if_neg (by omega), if_neg (by omega), if_neg (by omega), if_pos h]
theorem flt4 {cd : Nat → Nat} {k p : Nat} {s : PS} (h0 : s.1 = 3 ∨ s.1 = 4) (h1 : cd p ≠ 32) (h2 : cd p ≠ 44) (h3 : cd p ≠ 59) (h4 : ¬ (s.1 = 3 ∧ 48 ≤ cd p ∧ cd p ≤ 57)) : pRun cd (k + 1) p s = (s, some p) := by
  refine pRun_f ?_
  unfold pStep
  rw [if_neg h1, if_neg (by omega), if_neg (by omega), if_neg (by omega), if_neg h4, if_neg h2, if_neg h3]
