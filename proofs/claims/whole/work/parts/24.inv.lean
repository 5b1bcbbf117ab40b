/-! ===== what every state keeps ===== -/
def Inv (r : Row) : Prop := IM r ∧ (∀ c, c < 5 → IC r c) ∧ (∀ c, c < 5 → ID r c) ∧ (r 4 = nI 0 ∨ r 4 = nI 1) ∧ ∃ q, q ≤ 4 ∧ r 5 = nI q
theorem ID_of {r r' : Row} {c : Nat} (h : ID r c) (e : ∀ j, 101 + 110 * c ≤ j → j < 106 + 110 * c → r' j = r j) : ID r' c := fun t ht => by
  rw [e _ (by omega) (by omega)]
  exact h t ht
/-- only cache c has changed -/
theorem Inv_c {r r' : Row} {c : Nat} (h : Inv r) (hc : c < 5) (hn : IC r' c) (e : ∀ j, j < 6 + 110 * c ∨ 88 + 110 * c ≤ j → r' j = r j) : Inv r' := by
  obtain ⟨h1, h2, h3, h4, q, h5, h6⟩ := h
  refine ⟨IM_of h1 (e 0 (by omega)) (e 1 (by omega)), fun d hd => ?_, fun d hd => ID_of (h3 d hd) (fun j a b => e j (by omega)), by rw [e 4 (by omega)]; exact h4, q, h5, by rw [e 5 (by omega)]; exact h6⟩
  by_cases hdc : d = c
  · rw [hdc]; exact hn
  · exact IC_of (h2 d hd) (fun j a b => e j (by omega))
/-- no object, no capacity, no size, no distance has changed -/
theorem Inv_o {r r' : Row} (h : Inv r) (e : ∀ j, j < 6 → j ≠ 2 → j ≠ 3 → r' j = r j) (e2 : ∀ c, c < 5 → ∀ j, 6 + 110 * c ≤ j → j < 24 + 110 * c → r' j = r j) (e3 : ∀ c, c < 5 → ∀ j, 101 + 110 * c ≤ j → j < 106 + 110 * c → r' j = r j) : Inv r' := by
  obtain ⟨h1, h2, h3, h4, q, h5, h6⟩ := h
  exact ⟨IM_of h1 (e 0 (by omega) (by omega) (by omega)) (e 1 (by omega) (by omega) (by omega)), fun d hd => IC_of (h2 d hd) (e2 d hd), fun d hd => ID_of (h3 d hd) (e3 d hd), by rw [e 4 (by omega) (by omega) (by omega)]; exact h4, q, h5, by rw [e 5 (by omega) (by omega) (by omega)]; exact h6⟩
theorem rRem_IC {c idx : Nat} {r : Row} (hm : IM r) (hi : IC r c) (hx : idx < gS r c) : IC (rRem c idx r) c := by
  obtain ⟨h1, h2, h3, h4, h5⟩ := hi
  obtain ⟨q1, q2⟩ := rRem_IS hm h1 hx
  have eC : gC (rRem c idx r) c = gC r c := by unfold gC; rw [rRem_out hm (by omega) h1.2.1]
  exact ⟨q1, by rw [eC, rRem_out hm (by omega) h1.2.1]; exact h2, by omega, by omega, by omega⟩
theorem rRem_Inv {c idx : Nat} {r : Row} (h : Inv r) (hc : c < 5) (hx : idx < gS r c) : Inv (rRem c idx r) :=
  Inv_c h hc (rRem_IC h.1 (h.2.1 c hc) hx) (fun j hj => rRem_out h.1 (by omega) (h.2.1 c hc).1.2.1)
theorem rPutF_ob {c idx x i : Nat} {r : Row} : rPutF c idx x r (8 + 110 * c + i) = if i = 0 then nI x else if i ≤ idx then r (8 + 110 * c + (i - 1)) else r (8 + 110 * c + i) := by
  unfold rPutF
  by_cases h0 : i = 0
  · rw [if_pos (by omega), if_pos h0]
  · rw [if_neg (by omega), if_neg h0]
    by_cases h1 : i ≤ idx
    · rw [if_pos (by omega), if_pos h1]
      congr 1
      omega
    · rw [if_neg (by omega), if_neg h1]
theorem rPutF_IC {c k x : Nat} {r : Row} (hi : IC r c) (hk : k < gS r c) (hx : x < 1000) (e : r (8 + 110 * c + k) = nI x) : IC (rPutF c k x r) c := by
  obtain ⟨⟨i1, i2, i3, i4⟩, h2, h3, h4, h5⟩ := hi
  have eS : gS (rPutF c k x r) c = gS r c := by unfold gS; rw [rPutF_out (by omega)]
  have eC : gC (rPutF c k x r) c = gC r c := by unfold gC; rw [rPutF_out (by omega)]
  have key : ∀ i, i < gS r c → rPutF c k x r (8 + 110 * c + i) = r (8 + 110 * c + (if i = 0 then k else if i ≤ k then i - 1 else i)) := by
    intro i hi
    rw [rPutF_ob]
    by_cases h0 : i = 0
    · rw [if_pos h0, if_pos h0, e]
    · rw [if_neg h0, if_neg h0]
      by_cases h1 : i ≤ k
      · rw [if_pos h1, if_pos h1]
      · rw [if_neg h1, if_neg h1]
  have hb : ∀ i, i < gS r c → (if i = 0 then k else if i ≤ k then i - 1 else i) < gS r c := by
    intro i hi
    repeat' split
    all_goals omega
  refine ⟨⟨by rw [eS, rPutF_out (by omega)]; exact i1, by omega, fun i hi => ?_, fun i j hi hj h => ?_⟩, by rw [eC, rPutF_out (by omega)]; exact h2, by omega, by omega, by omega⟩
  · rw [eS] at hi
    have eO : gO (rPutF c k x r) c i = gO r c (if i = 0 then k else if i ≤ k then i - 1 else i) := by unfold gO; rw [key i hi]
    rw [eO, key i hi]
    exact i3 _ (hb i hi)
  · rw [eS] at hi hj
    rw [key i hi, key j hj] at h
    have := i4 _ _ (hb i hi) (hb j hj) h
    repeat' split at this
    all_goals omega
theorem rTk_IC {c x : Nat} {r : Row} (hm : IM r) (hi : IS r c) (hx : x < 1000) (h2 : r (6 + 110 * c) = nI (gC r c)) (h3 : gS r c < gC r c) (h5 : gC r c ≤ 16) (hn : ∀ k, k < gS r c → r (8 + 110 * c + k) ≠ nI x) : IC (rTk c x r) c := by
  obtain ⟨i1, i2, i3, i4⟩ := hi
  generalize hr' : va_up (rPutF c (gS r c) x r) (7 + 110 * c) (nI (gS r c + 1)) = r'
  have e' : ∀ j, j < 7 + 110 * c ∨ 24 + 110 * c ≤ j → r' j = r j := fun j hj => by rw [← hr', va_up_ne _ _ (by omega), rPutF_out (by omega)]
  have hm' : IM r' := IM_of hm (e' 0 (by omega)) (e' 1 (by omega))
  have eq : rTk c x r = rIn c x r' := by unfold rTk; rw [hr']
  have et : ∀ j, j < 24 + 110 * c → rTk c x r j = r' j := fun j hj => by rw [eq, rIn_out hm' (by omega)]
  have esz : r' (7 + 110 * c) = nI (gS r c + 1) := by rw [← hr', va_up_self]
  have eo : ∀ i, i < 16 → r' (8 + 110 * c + i) = rPutF c (gS r c) x r (8 + 110 * c + i) := fun i hi => by rw [← hr', va_up_ne _ _ (by omega)]
  have eS : gS (rTk c x r) c = gS r c + 1 := nn_at (by rw [et _ (by omega)]; exact esz) (by omega)
  have eC : gC (rTk c x r) c = gC r c := by unfold gC; rw [et _ (by omega), e' _ (by omega)]
  have key : ∀ i, i < gS r c + 1 → rTk c x r (8 + 110 * c + i) = if i = 0 then nI x else r (8 + 110 * c + (i - 1)) := by
    intro i hi
    rw [et _ (by omega), eo i (by omega), rPutF_ob]
    by_cases h0 : i = 0
    · rw [if_pos h0, if_pos h0]
    · rw [if_neg h0, if_neg h0, if_pos (by omega)]
  refine ⟨⟨by rw [eS, et _ (by omega)]; exact esz, by omega, fun i hi => ?_, fun i j hi hj h => ?_⟩, by rw [eC, et _ (by omega), e' _ (by omega)]; exact h2, by omega, by omega, by omega⟩
  · rw [eS] at hi
    by_cases h0 : i = 0
    · have eO : gO (rTk c x r) c i = x := nn_at (by rw [key i hi, if_pos h0]) (by omega)
      rw [eO, key i hi, if_pos h0]
      exact ⟨rfl, hx⟩
    · have eO : gO (rTk c x r) c i = gO r c (i - 1) := by unfold gO; rw [key i hi, if_neg h0]
      rw [eO, key i hi, if_neg h0]
      exact i3 (i - 1) (by omega)
  · rw [eS] at hi hj
    rw [key i hi, key j hj] at h
    by_cases a : i = 0 <;> by_cases b : j = 0
    · omega
    · rw [if_pos a, if_neg b] at h
      exact absurd h.symm (hn (j - 1) (by omega))
    · rw [if_neg a, if_pos b] at h
      exact absurd h (hn (i - 1) (by omega))
    · rw [if_neg a, if_neg b] at h
      have := i4 _ _ (by omega) (by omega) h
      omega
theorem rTake_IC {c x : Nat} {r : Row} (hm : IM r) (hi : IC r c) (hx : x < 1000) : IC (rTake c x r) c := by
  unfold rTake
  cases hf : rFind c x r with
  | some k =>
    obtain ⟨h1, h2⟩ := fdx_lt hf
    exact rPutF_IC hi h1 hx h2
  | none =>
    have hno := fdx_no.mp hf
    obtain ⟨q1, q2⟩ := rDrop_IS hm hi
    have eC : gC (rDrop c r) c = gC r c := by unfold gC; rw [rDrop_out hm hi (by omega)]
    refine rTk_IC (rDrop_IM hm hi) q1 hx (by rw [eC, rDrop_out hm hi (by omega)]; exact hi.2.1) (by omega) (by rw [eC]; exact hi.2.2.2.2) (fun k hk => ?_)
    unfold rDrop at hk ⊢
    split at hk
    · rename_i h
      rw [if_pos h]
      exact hno k hk
    · rename_i h
      rw [if_neg h]
      have h16 := hi.1.2.1
      obtain ⟨z1, z2⟩ := rRem_IS (idx := gS r c - 1) hm hi.1 (by have := hi.2.2.2.1; omega)
      rw [z2] at hk
      rw [rRem_ob hm (by omega), rSh_out (by omega)]
      exact hno k (by omega)
theorem rTake_Inv {c x : Nat} {r : Row} (h : Inv r) (hc : c < 5) (hx : x < 1000) : Inv (rTake c x r) :=
  Inv_c h hc (rTake_IC h.1 (h.2.1 c hc) hx) (fun j hj => rTake_out h.1 (h.2.1 c hc) (by omega))
theorem rLm_IS {c : Nat} : ∀ (n : Nat) {r : Row}, IM r → IS r c → n ≤ gS r c → IM (rLm c n r) ∧ IS (rLm c n r) c ∧ gS (rLm c n r) c = gS r c - n ∧ ∀ j, j < 7 + 110 * c ∨ 88 + 110 * c ≤ j → rLm c n r j = r j
  | 0, r, hm, hi, _ => ⟨hm, hi, rfl, fun _ _ => rfl⟩
  | n + 1, r, hm, hi, hn => by
    obtain ⟨q1, q2⟩ := rRem_IS (idx := gS r c - 1) hm hi (by omega)
    obtain ⟨z1, z2, z3, z4⟩ := rLm_IS n (rRem_IM (idx := gS r c - 1) hm hi.2.1) q1 (by omega)
    exact ⟨z1, z2, by show gS (rLm c n _) c = _; omega, fun j hj => by show rLm c n _ j = _; rw [z4 j hj, rRem_out hm hj hi.2.1]⟩
theorem rLim_Inv {c cap : Nat} {r : Row} (h : Inv r) (hc : c < 5) (h1 : 1 ≤ cap) (h2 : cap ≤ 16) : Inv (rLim c cap r) := by
  obtain ⟨hm, hi, -⟩ := id h
  obtain ⟨his, -⟩ := hi c hc
  generalize hr' : va_up r (6 + 110 * c) (nI cap) = r'
  have e1 : ∀ j, j ≠ 6 + 110 * c → r' j = r j := fun j hj => by rw [← hr']; exact va_up_ne _ _ hj
  have ec : r' (6 + 110 * c) = nI cap := by rw [← hr', va_up_self]
  have eS : gS r' c = gS r c := by unfold gS; rw [e1 _ (by omega)]
  have hm' : IM r' := IM_of hm (e1 _ (by omega)) (e1 _ (by omega))
  have hi' : IS r' c := by
    obtain ⟨i1, i2, i3, i4⟩ := his
    refine ⟨by rw [eS, e1 _ (by omega)]; exact i1, by omega, fun i hi => ?_, fun i j hi hj hh => ?_⟩
    · rw [eS] at hi
      have eO : gO r' c i = gO r c i := by unfold gO; rw [e1 _ (by omega)]
      rw [eO, e1 _ (by omega)]
      exact i3 i hi
    · rw [eS] at hi hj
      rw [e1 _ (by omega), e1 _ (by omega)] at hh
      exact i4 i j hi hj hh
  obtain ⟨z1, z2, z3, z4⟩ := rLm_IS (gS r c - cap) hm' hi' (by omega)
  have eq : rLim c cap r = rLm c (gS r c - cap) r' := by unfold rLim; rw [hr']
  rw [eq]
  have eC : gC (rLm c (gS r c - cap) r') c = cap := nn_at (by rw [z4 _ (by omega)]; exact ec) (by omega)
  exact Inv_c h hc ⟨z2, by rw [eC, z4 _ (by omega)]; exact ec, by omega, by omega, by omega⟩ (fun j hj => by rw [z4 j (by omega), e1 j (by omega)])
theorem rNew_Inv {c : Nat} {r : Row} (h : Inv r) (hc : c < 5) : Inv (rNew c r) :=
  Inv_c h hc (IC_of (h.2.1 c hc) (fun j h1 h2 => rNew_out h.1 (by omega))) (fun j hj => rNew_out h.1 (by omega))
def rFil (M K : Nat) (r : Row) : Row := rRs 5 (va_up (va_up r 0 (nI M)) 1 (nI K))
theorem fil_IM {M K : Nat} {r : Row} (h1 : 8 ≤ M) (h2 : M ≤ 64) (h3 : 1 ≤ K) (h4 : K ≤ 4) : IM (va_up (va_up r 0 (nI M)) 1 (nI K)) := by
  generalize hr : va_up (va_up r 0 (nI M)) 1 (nI K) = r'
  have e0 : r' 0 = nI M := by rw [← hr, va_up_ne _ _ (by decide), va_up_self]
  have e1 : r' 1 = nI K := by rw [← hr, va_up_self]
  have g0 : gM r' = M := nn_at e0 (by omega)
  have g1 : gK r' = K := nn_at e1 (by omega)
  exact ⟨by rw [g0]; exact e0, by omega, by omega, by rw [g1]; exact e1, by omega, by omega⟩
theorem rRs_blk {r : Row} (hm : IM r) : ∀ (c : Nat) (d j : Nat), (6 + 110 * d ≤ j ∧ j < 24 + 110 * d) ∨ (89 + 110 * d ≤ j ∧ j < 106 + 110 * d) ∨ j < 6 → rRs c r j = r j
  | 0, _, _, _ => rfl
  | c + 1, d, j, h => by
    show rFg c (rNew c (rRs c r)) j = r j
    have hm2 := (rRs_out hm c).1
    rw [← rRs_blk hm c d j h, ← rNew_out (c := c) hm2 (j := j) (by omega)]
    unfold rFg
    rw [fillF_out (by omega), fillF_out (by omega), va_up_ne _ _ (by omega)]
theorem rFil_Inv {M K : Nat} {r : Row} (h : Inv r) (h1 : 8 ≤ M) (h2 : M ≤ 64) (h3 : 1 ≤ K) (h4 : K ≤ 4) : Inv (rFil M K r) := by
  have hm := fil_IM (r := r) h1 h2 h3 h4
  obtain ⟨z1, z2⟩ := rRs_out hm 5
  obtain ⟨a1, a2, a3, a4, q, a5, a6⟩ := h
  have eb : ∀ d j, (6 + 110 * d ≤ j ∧ j < 24 + 110 * d) ∨ (89 + 110 * d ≤ j ∧ j < 106 + 110 * d) → rFil M K r j = r j := fun d j hj => by
    unfold rFil
    rw [rRs_blk hm 5 d j (by omega), va_up_ne _ _ (by omega), va_up_ne _ _ (by omega)]
  have e4 : ∀ j, 2 ≤ j → j < 6 → rFil M K r j = r j := fun j h1 h2 => by
    unfold rFil
    rw [z2 j (by omega), va_up_ne _ _ (by omega), va_up_ne _ _ (by omega)]
  exact ⟨z1, fun d hd => IC_of (a2 d hd) (fun j b1 b2 => eb d j (by omega)), fun d hd => ID_of (a3 d hd) (fun j b1 b2 => eb d j (by omega)), by rw [e4 4 (by omega) (by omega)]; exact a4, q, a5, by rw [e4 5 (by omega) (by omega)]; exact a6⟩
theorem rPq_out {f j : Nat} {r : Row} {m : Msk} (hj : j ≠ 88 + 110 * f) (h : ∀ t, t < 5 → j ≠ 106 + 110 * t + f ∧ j ≠ 111 + 110 * t + f) : (rPq f r m).1 j = r j := by
  unfold rPq
  rw [pbS_ne h 5 (Nat.le_refl _)]
  exact va_up_ne _ _ hj
theorem rPub_out {f j : Nat} {r : Row} {m : Msk} (hj : j ≠ 88 + 110 * f) (hj2 : j ≠ 95 + 110 * f) (h : ∀ t, t < 5 → j ≠ 106 + 110 * t + f ∧ j ≠ 111 + 110 * t + f) : rPub f r m j = r j := by
  unfold rPub
  rw [va_up_ne _ _ (by omega), rPq_out hj h]
theorem rPub_Inv {f : Nat} {r : Row} {m : Msk} (h : Inv r) (hf : f < 5) : Inv (rPub f r m) :=
  Inv_o h (fun j a b c => rPub_out (by omega) (by omega) (fun t ht => by omega)) (fun d hd j a b => rPub_out (by omega) (by omega) (fun t ht => by omega)) (fun d hd j a b => rPub_out (by omega) (by omega) (fun t ht => by omega))
theorem rTl_Inv {c by_ : Nat} {fh fm hp : Int32} {r : Row} (h : Inv r) (hc : c < 5) : Inv (rTl c by_ fh fm hp r) :=
  Inv_o h (fun j a b d => rTl_out (by omega)) (fun d hd j a b => rTl_out (by omega)) (fun d hd j a b => rTl_out (by omega))
theorem rSet_Inv {c x by_ : Nat} {fh fm hp : Int32} {r : Row} (h : Inv r) (hc : c < 5) (hx : x < 1000) : Inv (rSet c x by_ fh fm hp r) := by
  have h4 := rTl_Inv (by_ := by_) (fh := fh) (fm := fm) (hp := hp) h hc
  unfold rSet
  generalize rTl c by_ fh fm hp r = r4 at h4 ⊢
  have h5 : Inv (if by_ < 5 then rTake by_ x r4 else r4) := by
    split
    · exact rTake_Inv h4 (by assumption) hx
    · exact h4
  simp only
  generalize (if by_ < 5 then rTake by_ x r4 else r4) = r5 at h5 ⊢
  split
  · exact rTake_Inv h5 hc hx
  · exact h5
/-- what a request changes -/
def rReq (c x lim : Nat) (r : Row) (m : Msk) : Row := rSet c x (skW r m c x lim).2.1 (nI (skW r m c x lim).2.2) (nI (skM r m c x lim)) (nI (skW r m c x lim).1.length - nI 1) r
theorem rReq_Inv {c x lim : Nat} {r : Row} {m : Msk} (h : Inv r) (hc : c < 5) (hx : x < 1000) : Inv (rReq c x lim r m) := rSet_Inv h hc hx
theorem nar4 {r : Row} (h : Inv r) : narrow .boolean (.int (r 4)) = .int (r 4) := by
  rcases h.2.2.2.1 with e | e <;> rw [e] <;> rfl
