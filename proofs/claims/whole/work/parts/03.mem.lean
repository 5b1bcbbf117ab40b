/-! ===== the memory of the system: places in the order of their making, their kinds, regions of ints and longs ===== -/
abbrev MI : Type := Nat → Nat → Int32
abbrev ML : Type := Nat → Nat → Int64
abbrev MR : Type := Nat → Nat → Option Nat
abbrev KD : Type := Nat × Nat × Nat × Nat × Nat
def pb (s : Nat) : Nat := if s = 0 then 1 else 3 + 53 * s
/-- the place of cache c of state s -/
def pq (s c : Nat) : Nat := pb s + (3 + 10 * c)
def kdS (s o : Nat) : KD :=
  if o = 0 then (4, s, 0, 0, 0) else if o = 1 then (3, s, 0, 0, 0) else if o = 2 then (11, s, 0, 0, 5) else
  if (o - 3) % 10 = 0 then (0, s, 6 + 110 * ((o - 3) / 10), (o - 3) / 10, 0) else
  if (o - 3) % 10 = 1 then (9, s, 8 + 110 * ((o - 3) / 10), 0, 16) else
  if (o - 3) % 10 = 2 then (9, s, 89 + 110 * ((o - 3) / 10), 0, 7) else
  if (o - 3) % 10 = 3 then (10, s, 5 + 5 * ((o - 3) / 10), 0, 5) else
  if (o - 3) % 10 = 4 then (9, s, 106 + 110 * ((o - 3) / 10), 0, 5) else
  if (o - 3) % 10 = 5 then (9, s, 111 + 110 * ((o - 3) / 10), 0, 5) else
  if (o - 3) % 10 = 6 then (9, s, 96 + 110 * ((o - 3) / 10), 0, 5) else
  if (o - 3) % 10 = 7 then (9, s, 101 + 110 * ((o - 3) / 10), 0, 5) else
  if (o - 3) % 10 = 8 then (1, s, 0, 0, 0) else (9, s, 24 + 110 * ((o - 3) / 10), 0, 64)
/-- the kind of a place: (kind, region, base, base among the longs, length); kinds 0 to 8: objects of vwCl; 9 int[], 10 long[], 11 Cache[], 12 State[] -/
def kd (p : Nat) : KD :=
  if p = 0 then (7, 0, 0, 0, 0) else if p < 54 then kdS 0 (p - 1) else if p = 54 then (2, 15, 0, 0, 0) else if p = 55 then (12, 0, 0, 0, 4) else
  if p < 268 then kdS ((p - 56) / 53 + 1) ((p - 56) % 53) else
  if p = 268 then (5, 5, 0, 0, 0) else if p = 269 then (9, 6, 0, 0, 100) else if p = 270 then (9, 7, 0, 0, 100) else if p = 271 then (9, 8, 0, 0, 100) else
  if p = 272 then (6, 9, 0, 0, 0) else if p = 273 then (9, 10, 0, 0, 5) else if p = 274 then (6, 11, 0, 0, 0) else if p = 275 then (9, 12, 0, 0, 5) else
  if p = 276 then (3, 13, 0, 0, 0) else if p = 277 then (9, 14, 0, 0, 64) else
  if p = 278 then (8, 21, 0, 0, 0) else if p = 279 then (9, 20, 0, 0, 2780) else if p = 280 then (10, 20, 0, 0, 150) else if p = 281 then (9, 22, 0, 0, 4) else if p = 282 then (9, 23, 0, 0, 4) else
  if p = 283 then (9, 24, 0, 0, 64) else if p = 284 then (9, 25, 0, 0, 5) else if p = 285 then (9, 26, 0, 0, 5) else if p = 286 then (9, 27, 0, 0, 100) else (99, 0, 0, 0, 0)
def nf (t : Nat) : Nat := if t = 0 then 13 else if t < 4 then 2 else if t = 4 then 6 else if t = 5 then 8 else if t = 6 then 5 else if t = 7 then 7 else 16
/-- a field: (0 int, 1 long, 2 reference; its offset) -/
def fty (t j : Nat) : Nat × Nat :=
  if t = 0 then (if j = 3 then (0, 1) else if j = 4 then (0, 0) else if j = 5 then (0, 82) else if j = 6 then (1, 0) else (2, 0))
  else if t = 2 then (if j = 1 then (0, 0) else (2, 0))
  else if t = 3 then (0, j)
  else if t = 4 then (if j < 2 then (2, 0) else (0, j))
  else if t = 5 then (if j = 1 then (0, 0) else if j = 4 then (0, 1) else if j = 5 then (0, 2) else if j = 6 then (0, 3) else if j = 7 then (0, 4) else (2, 0))
  else if t = 6 then (if j = 0 then (2, 0) else (0, j - 1))
  else if t = 8 then (if j = 2 then (0, 0) else if j = 7 then (0, 1) else if j = 8 then (0, 2) else if j = 9 then (0, 3) else if j = 12 then (0, 4) else if j = 13 then (0, 5) else if j = 14 then (0, 6) else if j = 15 then (1, 0) else (2, 0))
  else (2, 0)
/-- whose an int of a region is, whose a long is -/
def oI (g k : Nat) : Nat :=
  if g < 5 then (if k < 2 then pb g + 1 else if k < 6 then pb g else
    if (k - 6) % 110 < 2 then pq g ((k - 6) / 110) else if (k - 6) % 110 < 18 then pq g ((k - 6) / 110) + 1 else if (k - 6) % 110 < 82 then pq g ((k - 6) / 110) + 9 else
    if (k - 6) % 110 = 82 then pq g ((k - 6) / 110) else if (k - 6) % 110 < 90 then pq g ((k - 6) / 110) + 2 else if (k - 6) % 110 < 95 then pq g ((k - 6) / 110) + 6 else
    if (k - 6) % 110 < 100 then pq g ((k - 6) / 110) + 7 else if (k - 6) % 110 < 105 then pq g ((k - 6) / 110) + 4 else pq g ((k - 6) / 110) + 5)
  else if g = 15 then 54 else if g < 15 then 263 + g else if g = 20 then 279 else if g = 21 then 278 else 259 + g
def oL (g k : Nat) : Nat :=
  if g < 5 then (if k < 5 then pq g k else pq g ((k - 5) / 5) + 3) else if g = 20 then 280 else 278
def okP (p : Nat) : Bool :=
  if (kd p).1 < 9 then (List.range (nf (kd p).1)).all (fun j => if (fty (kd p).1 j).1 = 0 then oI (kd p).2.1 ((kd p).2.2.1 + (fty (kd p).1 j).2) == p else if (fty (kd p).1 j).1 = 1 then oL (kd p).2.1 ((kd p).2.2.2.1 + (fty (kd p).1 j).2) == p else true)
  else if (kd p).1 = 9 then (List.range (kd p).2.2.2.2).all (fun j => oI (kd p).2.1 ((kd p).2.2.1 + j) == p)
  else if (kd p).1 = 10 then (List.range (kd p).2.2.2.2).all (fun j => oL (kd p).2.1 ((kd p).2.2.1 + j) == p) else true
set_option maxRecDepth 100000 in
theorem okP_all : (List.range 287).all okP = true := by decide +kernel
theorem okP_of (p : Nat) : okP p = true := by
  by_cases h : p < 287
  · exact List.all_eq_true.mp okP_all p (List.mem_range.mpr h)
  · have e : kd p = (99, 0, 0, 0, 0) := by
      unfold kd
      repeat (rw [if_neg (by omega)])
    unfold okP
    rw [e]
    rfl
theorem fty_injB : (List.range 9).all (fun t => (List.range (nf t)).all fun a => (List.range (nf t)).all fun b => !(((fty t a).1 == (fty t b).1) && ((fty t a).1 != 2) && ((fty t a).2 == (fty t b).2)) || a == b) = true := by decide +kernel
theorem fty_inj : ∀ t, t < 9 → ∀ a, a < nf t → ∀ b, b < nf t → (fty t a).1 = (fty t b).1 → (fty t a).1 < 2 → (fty t a).2 = (fty t b).2 → a = b := by
  intro t ht a ha b hb h1 h2 h3
  have h := List.all_eq_true.mp (List.all_eq_true.mp (List.all_eq_true.mp fty_injB t (List.mem_range.mpr ht)) a (List.mem_range.mpr ha)) b (List.mem_range.mpr hb)
  have h4 : (fty t b).1 ≠ 2 := by omega
  simpa [h1, h3, h4] using h

/-! ===== the world of the places ===== -/
def rA (adl : List Nat) (r : Option Nat) : Option Nat := r.map (fun k => adl.getD k 0)
def fvl (adl : List Nat) (I : MI) (L : ML) (R : MR) (p : Nat) (K : KD) (j : Nat) : Value :=
  if (fty K.1 j).1 = 0 then .int (I K.2.1 (K.2.2.1 + (fty K.1 j).2)) else if (fty K.1 j).1 = 1 then .long (L K.2.1 (K.2.2.2.1 + (fty K.1 j).2)) else va_rf (rA adl (R p j))
def celK (cy : Nat → ClassId) (adl : List Nat) (I : MI) (L : ML) (R : MR) (p : Nat) (K : KD) : va_E :=
  if K.1 < 9 then .inr (K.1, (List.range (nf K.1)).map (fvl adl I L R p K))
  else if K.1 = 9 then .inl (cy 0, K.2.2.2.2, .inl (fun j => if j < K.2.2.2.2 then I K.2.1 (K.2.2.1 + j) else 0))
  else if K.1 = 10 then .inl (cy 1, K.2.2.2.2, .inr (.inl (fun j => if j < K.2.2.2.2 then L K.2.1 (K.2.2.1 + j) else 0)))
  else if K.1 = 11 then .inl (cy 2, K.2.2.2.2, .inr (.inr (.inr (.inr (fun j => rA adl (R p j))))))
  else if K.1 = 12 then .inl (cy 3, K.2.2.2.2, .inr (.inr (.inr (.inr (fun j => rA adl (R p j))))))
  else .inl (cy 0, 0, .inl (fun _ => 0))
def wsO (cy : Nat → ClassId) (adl : List Nat) (I : MI) (L : ML) (R : MR) : va_W := (List.range adl.length).map (fun p => (adl.getD p 0, celK cy adl I L R p (kd p)))
theorem wsO_get {cy : Nat → ClassId} {adl : List Nat} {I : MI} {L : ML} {R : MR} {p : Nat} (h : p < adl.length) : (wsO cy adl I L R)[p]? = some (adl.getD p 0, celK cy adl I L R p (kd p)) := by
  simp [wsO, h]
theorem wsO_ext {cy : Nat → ClassId} {adl : List Nat} {I I' : MI} {L L' : ML} {R R' : MR} {p : Nat} (h : p < adl.length) {e : va_E} (he : e = celK cy adl I' L' R' p (kd p)) (ho : ∀ q, q ≠ p → celK cy adl I' L' R' q (kd q) = celK cy adl I L R q (kd q)) :
    (wsO cy adl I L R).set p (adl.getD p 0, e) = wsO cy adl I' L' R' := by
  apply List.ext_getElem?
  intro q
  by_cases hq : q < adl.length
  · by_cases hqp : q = p
    · subst hqp
      rw [List.getElem?_set_self (by simpa [wsO] using hq), wsO_get hq, he]
    · rw [List.getElem?_set_ne (Ne.symm hqp), wsO_get hq, wsO_get hq, ho q hqp]
  · have h1 : ((wsO cy adl I L R).set p (adl.getD p 0, e)).length = adl.length := by simp [wsO]
    have h2 : (wsO cy adl I' L' R').length = adl.length := by simp [wsO]
    rw [List.getElem?_eq_none (by omega), List.getElem?_eq_none (by omega)]
/-- one int of a region is written: only its owner's cell changes -/
def stI (I : MI) (g k : Nat) (v : Int32) : MI := va_up I g (va_up (I g) k v)
def stL (L : ML) (g k : Nat) (v : Int64) : ML := va_up L g (va_up (L g) k v)
def stR (R : MR) (g k : Nat) (v : Option Nat) : MR := va_up R g (va_up (R g) k v)
theorem stI_self (I : MI) (g k : Nat) (v : Int32) : stI I g k v g k = v := by simp [stI, va_up]
theorem stI_ne {I : MI} {g k g' k' : Nat} {v : Int32} (h : ¬ (g' = g ∧ k' = k)) : stI I g k v g' k' = I g' k' := by
  by_cases hg : g' = g
  · subst hg
    have hk : k' ≠ k := fun q => h ⟨rfl, q⟩
    simp [stI, va_up, hk]
  · simp [stI, va_up, hg]
theorem stL_self (I : ML) (g k : Nat) (v : Int64) : stL I g k v g k = v := by simp [stL, va_up]
theorem stL_ne {I : ML} {g k g' k' : Nat} {v : Int64} (h : ¬ (g' = g ∧ k' = k)) : stL I g k v g' k' = I g' k' := by
  by_cases hg : g' = g
  · subst hg
    have hk : k' ≠ k := fun q => h ⟨rfl, q⟩
    simp [stL, va_up, hk]
  · simp [stL, va_up, hg]
theorem stR_self (I : MR) (g k : Nat) (v : Option Nat) : stR I g k v g k = v := by simp [stR, va_up]
theorem stR_ne {I : MR} {g k g' k' : Nat} {v : Option Nat} (h : ¬ (g' = g ∧ k' = k)) : stR I g k v g' k' = I g' k' := by
  by_cases hg : g' = g
  · subst hg
    have hk : k' ≠ k := fun q => h ⟨rfl, q⟩
    simp [stR, va_up, hk]
  · simp [stR, va_up, hg]
theorem own_f {p j : Nat} (ht : (kd p).1 < 9) (hj : j < nf (kd p).1) (h0 : (fty (kd p).1 j).1 = 0) : oI (kd p).2.1 ((kd p).2.2.1 + (fty (kd p).1 j).2) = p := by
  have h := okP_of p
  unfold okP at h
  rw [if_pos ht] at h
  have h1 := List.all_eq_true.mp h j (List.mem_range.mpr hj)
  simpa [h0] using h1
theorem own_fl {p j : Nat} (ht : (kd p).1 < 9) (hj : j < nf (kd p).1) (h0 : (fty (kd p).1 j).1 = 1) : oL (kd p).2.1 ((kd p).2.2.2.1 + (fty (kd p).1 j).2) = p := by
  have h := okP_of p
  unfold okP at h
  rw [if_pos ht] at h
  have h1 := List.all_eq_true.mp h j (List.mem_range.mpr hj)
  simpa [h0] using h1
theorem own_a {p j : Nat} (ht : (kd p).1 = 9) (hj : j < (kd p).2.2.2.2) : oI (kd p).2.1 ((kd p).2.2.1 + j) = p := by
  have h := okP_of p
  unfold okP at h
  rw [if_neg (by omega), if_pos ht] at h
  have h1 := List.all_eq_true.mp h j (List.mem_range.mpr hj)
  simpa using h1
theorem own_al {p j : Nat} (ht : (kd p).1 = 10) (hj : j < (kd p).2.2.2.2) : oL (kd p).2.1 ((kd p).2.2.1 + j) = p := by
  have h := okP_of p
  unfold okP at h
  rw [if_neg (by omega), if_neg (by omega), if_pos ht] at h
  have h1 := List.all_eq_true.mp h j (List.mem_range.mpr hj)
  simpa using h1
/-- a memory that differs from another in places of p alone: the other cells are as they were -/
theorem cel_other {cy : Nat → ClassId} {adl : List Nat} {I I' : MI} {L L' : ML} {R R' : MR} {p q : Nat} (hq : q ≠ p) (hI : ∀ g k, oI g k ≠ p → I' g k = I g k) (hL : ∀ g k, oL g k ≠ p → L' g k = L g k) (hR : ∀ r k, r ≠ p → R' r k = R r k) :
    celK cy adl I' L' R' q (kd q) = celK cy adl I L R q (kd q) := by
  unfold celK
  by_cases h9 : (kd q).1 < 9
  · rw [if_pos h9, if_pos h9]
    congr 2
    apply List.map_congr_left
    intro j hj
    have hj := List.mem_range.mp hj
    unfold fvl
    by_cases a : (fty (kd q).1 j).1 = 0
    · rw [if_pos a, if_pos a, hI _ _ (by rw [own_f h9 hj a]; exact hq)]
    · rw [if_neg a, if_neg a]
      by_cases b : (fty (kd q).1 j).1 = 1
      · rw [if_pos b, if_pos b, hL _ _ (by rw [own_fl h9 hj b]; exact hq)]
      · rw [if_neg b, if_neg b, hR _ _ hq]
  · rw [if_neg h9, if_neg h9]
    by_cases a : (kd q).1 = 9
    · rw [if_pos a, if_pos a]
      congr 4
      funext j
      by_cases hj : j < (kd q).2.2.2.2
      · rw [if_pos hj, if_pos hj, hI _ _ (by rw [own_a a hj]; exact hq)]
      · rw [if_neg hj, if_neg hj]
    · rw [if_neg a, if_neg a]
      by_cases b : (kd q).1 = 10
      · rw [if_pos b, if_pos b]
        congr 5
        funext j
        by_cases hj : j < (kd q).2.2.2.2
        · rw [if_pos hj, if_pos hj, hL _ _ (by rw [own_al b hj]; exact hq)]
        · rw [if_neg hj, if_neg hj]
      · rw [if_neg b, if_neg b]
        have e : (fun j => rA adl (R' q j)) = (fun j => rA adl (R q j)) := funext fun j => by rw [hR _ _ hq]
        rw [e]
theorem celK_obj {cy : Nat → ClassId} {adl : List Nat} {I : MI} {L : ML} {R : MR} {p t g b lb n : Nat} (ht : t < 9) : celK cy adl I L R p (t, g, b, lb, n) = .inr (t, (List.range (nf t)).map (fvl adl I L R p (t, g, b, lb, n))) := by
  unfold celK
  rw [if_pos ht]
theorem celK_i {cy : Nat → ClassId} {adl : List Nat} {I : MI} {L : ML} {R : MR} {p g b lb n : Nat} : celK cy adl I L R p (9, g, b, lb, n) = .inl (cy 0, n, .inl (fun j => if j < n then I g (b + j) else 0)) := rfl
theorem celK_l {cy : Nat → ClassId} {adl : List Nat} {I : MI} {L : ML} {R : MR} {p g b lb n : Nat} : celK cy adl I L R p (10, g, b, lb, n) = .inl (cy 1, n, .inr (.inl (fun j => if j < n then L g (b + j) else 0))) := rfl
theorem celK_q {cy : Nat → ClassId} {adl : List Nat} {I : MI} {L : ML} {R : MR} {p g b lb n : Nat} : celK cy adl I L R p (11, g, b, lb, n) = .inl (cy 2, n, .inr (.inr (.inr (.inr (fun j => rA adl (R p j)))))) := rfl
theorem celK_z {cy : Nat → ClassId} {adl : List Nat} {I : MI} {L : ML} {R : MR} {p g b lb n : Nat} : celK cy adl I L R p (12, g, b, lb, n) = .inl (cy 3, n, .inr (.inr (.inr (.inr (fun j => rA adl (R p j)))))) := rfl
theorem fvl_get {adl : List Nat} {I : MI} {L : ML} {R : MR} {p j : Nat} {K : KD} (hj : j < nf K.1) : ((List.range (nf K.1)).map (fvl adl I L R p K))[j]? = some (fvl adl I L R p K j) := by
  simp [hj]
theorem range_set {N j : Nat} {f g : Nat → Value} {v : Value} (hj : j < N) (hv : g j = v) (ho : ∀ i, i < N → i ≠ j → g i = f i) : ((List.range N).map f).set j v = (List.range N).map g := by
  apply List.ext_getElem?
  intro q
  by_cases hq : q < N
  · by_cases hqp : q = j
    · subst hqp
      rw [List.getElem?_set_self (by simpa using hq)]
      simp [hq, hv]
    · rw [List.getElem?_set_ne (Ne.symm hqp)]
      simp [hq, ho q hq hqp]
  · rw [List.getElem?_eq_none (by simp; omega), List.getElem?_eq_none (by simp; omega)]
