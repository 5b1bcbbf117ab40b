/-! ===== what the row of a state means: words for both sides ===== -/
def nn (v : Int32) : Nat := v.toNatClampNeg
theorem nn_nI {k : Nat} (h : k < 2 ^ 31) : nn (nI k) = k := nI_clamp h
abbrev Row : Type := Nat → Int32
abbrev Msk : Type := Nat → Int64
def gM (r : Row) : Nat := nn (r 0)
def gK (r : Row) : Nat := nn (r 1)
def gC (r : Row) (c : Nat) : Nat := nn (r (6 + 110 * c))
def gS (r : Row) (c : Nat) : Nat := nn (r (7 + 110 * c))
def gO (r : Row) (c i : Nat) : Nat := nn (r (8 + 110 * c + i))
/-- one counter more, unless it is 7; one less, unless it is 0 or 7 -/
def cIn1 (c v : Nat) (r : Row) : Row := if r (24 + 110 * c + v) < nI 7 then va_up r (24 + 110 * c + v) (r (24 + 110 * c + v) + nI 1) else r
def cOut1 (c v : Nat) (r : Row) : Row := if 0 < r (24 + 110 * c + v) ∧ r (24 + 110 * c + v) < nI 7 then va_up r (24 + 110 * c + v) (r (24 + 110 * c + v) - nI 1) else r
def fIn (M c x : Nat) : Nat → Row → Row
  | 0, r => r
  | f + 1, r => cIn1 c (vf M x f) (fIn M c x f r)
def fOut (M c x : Nat) : Nat → Row → Row
  | 0, r => r
  | f + 1, r => cOut1 c (vf M x f) (fOut M c x f r)
theorem cIn1_ne {c v j : Nat} {r : Row} (h : j ≠ 24 + 110 * c + v) : cIn1 c v r j = r j := by
  unfold cIn1
  split
  · exact va_up_ne _ _ h
  · rfl
theorem cOut1_ne {c v j : Nat} {r : Row} (h : j ≠ 24 + 110 * c + v) : cOut1 c v r j = r j := by
  unfold cOut1
  split
  · exact va_up_ne _ _ h
  · rfl
theorem fIn_ne {M c x j : Nat} {r : Row} (hM : 0 < M) (hM2 : M ≤ 64) (h : j < 24 + 110 * c ∨ 88 + 110 * c ≤ j) : ∀ f, fIn M c x f r j = r j
  | 0 => rfl
  | f + 1 => by
    have hv := vf_lt (x := x) (f := f) hM
    show cIn1 c (vf M x f) (fIn M c x f r) j = r j
    rw [cIn1_ne (by omega), fIn_ne hM hM2 h f]
theorem fOut_ne {M c x j : Nat} {r : Row} (hM : 0 < M) (hM2 : M ≤ 64) (h : j < 24 + 110 * c ∨ 88 + 110 * c ≤ j) : ∀ f, fOut M c x f r j = r j
  | 0 => rfl
  | f + 1 => by
    have hv := vf_lt (x := x) (f := f) hM
    show cOut1 c (vf M x f) (fOut M c x f r) j = r j
    rw [cOut1_ne (by omega), fOut_ne hM hM2 h f]
def rIn (c x : Nat) (r : Row) : Row := fIn (gM r) c x (gK r) r
def rOut (c x : Nat) (r : Row) : Row := fOut (gM r) c x (gK r) r
def fillF {α : Type} (r : Nat → α) (b n : Nat) (v : α) : Nat → α := fun j => if b ≤ j ∧ j < b + n then v else r j
theorem fillF_0 {α : Type} (r : Nat → α) (b : Nat) (v : α) : fillF r b 0 v = r := by
  funext j
  unfold fillF
  rw [if_neg (by omega)]
theorem fillF_succ {α : Type} (r : Nat → α) (b n : Nat) (v : α) : va_up (fillF r b n v) (b + n) v = fillF r b (n + 1) v := by
  funext j
  unfold va_up fillF
  by_cases h : j = b + n
  · rw [if_pos h, if_pos (by omega)]
  · rw [if_neg h]
    by_cases h2 : b ≤ j ∧ j < b + n
    · rw [if_pos h2, if_pos (by omega)]
    · rw [if_neg h2, if_neg (by omega)]
theorem fillF_out {α : Type} {r : Nat → α} {b n j : Nat} {v : α} (h : j < b ∨ b + n ≤ j) : fillF r b n v j = r j := by
  unfold fillF
  rw [if_neg (by omega)]
theorem fillF_in {α : Type} {r : Nat → α} {b n j : Nat} {v : α} (h : b ≤ j) (h2 : j < b + n) : fillF r b n v j = v := by
  unfold fillF
  rw [if_pos ⟨h, h2⟩]
/-- the objects 0 to n - 1 counted in -/
def fNew (M K c : Nat) : Nat → Row → Row
  | 0, r => r
  | i + 1, r => fIn M c (gO r c i) K (fNew M K c i r)
theorem fNew_ne {M K c j : Nat} {r : Row} (hM : 0 < M) (hM2 : M ≤ 64) (h : j < 24 + 110 * c ∨ 88 + 110 * c ≤ j) : ∀ i, fNew M K c i r j = r j
  | 0 => rfl
  | i + 1 => by
    show fIn M c (gO r c i) K (fNew M K c i r) j = r j
    rw [fIn_ne hM hM2 h, fNew_ne hM hM2 h i]
def rNew (c : Nat) (r : Row) : Row := fNew (gM r) (gK r) c (gS r c) (fillF r (24 + 110 * c) 64 0)
/-- the bits of the filter -/
def fBt (r : Row) (c : Nat) : Nat → Int64
  | 0 => 0
  | k + 1 => if 0 < r (24 + 110 * c + k) then fBt r c k ||| lshf 1 (nI k) else fBt r c k
def rBits (c : Nat) (r : Row) : Int64 := fBt r c (gM r)
/-- an object is in a mask -/
def fIs (M x : Nat) (m : Int64) : Nat → Bool
  | 0 => true
  | f + 1 => fIs M x m f && decide (¬ lush m (nI (vf M x f)) &&& 1 = 0)
def rIs (x : Nat) (m : Int64) (r : Row) : Bool := fIs (gM r) x m (gK r)
/-- the number of bits -/
def pcn (m : Int64) : Nat → Int32
  | 0 => nI 0
  | k + 1 => pcn m k + (lush m (nI k) &&& 1).toInt32
/-- where an object is held -/
def fdx (r : Row) (c x : Nat) : Nat → Option Nat
  | 0 => none
  | k + 1 => if r (8 + 110 * c + k) = nI x then some k else fdx r c x k
def rFind (c x : Nat) (r : Row) : Option Nat := fdx r c x (gS r c)
def oIx : Option Nat → Int32
  | none => -1
  | some k => nI k
theorem fdx_lt {r : Row} {c x : Nat} : ∀ {n k : Nat}, fdx r c x n = some k → k < n ∧ r (8 + 110 * c + k) = nI x
  | 0, k, h => by cases h
  | n + 1, k, h => by
    unfold fdx at h
    by_cases e : r (8 + 110 * c + n) = nI x
    · rw [if_pos e] at h
      cases h
      exact ⟨Nat.lt_succ_self _, e⟩
    · rw [if_neg e] at h
      obtain ⟨h1, h2⟩ := fdx_lt h
      exact ⟨by omega, h2⟩
theorem fdx_no {r : Row} {c x : Nat} : ∀ {n : Nat}, fdx r c x n = none ↔ ∀ k, k < n → r (8 + 110 * c + k) ≠ nI x
  | 0 => ⟨fun _ k hk => absurd hk (Nat.not_lt_zero k), fun _ => rfl⟩
  | n + 1 => by
    unfold fdx
    by_cases e : r (8 + 110 * c + n) = nI x
    · rw [if_pos e]
      exact ⟨fun h => (by cases h), fun h => absurd e (h n (Nat.lt_succ_self n))⟩
    · rw [if_neg e, fdx_no]
      constructor
      · intro h k hk
        by_cases hkn : k = n
        · rw [hkn]; exact e
        · exact h k (by omega)
      · intro h k hk
        exact h k (by omega)
/-- the objects of cache c are objects, each once -/
def Dst (r : Row) (c n : Nat) : Prop := ∀ i j, i < n → j < n → r (8 + 110 * c + i) = r (8 + 110 * c + j) → i = j
theorem fdx_eq {r : Row} {c x n k : Nat} (hd : Dst r c n) (hk : k < n) (e : r (8 + 110 * c + k) = nI x) : fdx r c x n = some k := by
  cases h : fdx r c x n with
  | none => exact absurd e (fdx_no.mp h k hk)
  | some i =>
    obtain ⟨h1, h2⟩ := fdx_lt h
    rw [hd i k h1 hk (h2.trans e.symm)]
/-- the object comes before the objects 0 to idx - 1, which move back by one -/
def rPutF (c idx x : Nat) (r : Row) : Row := fun j => if j = 8 + 110 * c then nI x else if 8 + 110 * c < j ∧ j ≤ 8 + 110 * c + idx then r (j - 1) else r j
/-- the objects behind idx move before by one -/
def rSh (c idx sz : Nat) (r : Row) : Row := fun j => if 8 + 110 * c + idx ≤ j ∧ j + 1 < 8 + 110 * c + sz then r (j + 1) else r j
def rRem (c idx : Nat) (r : Row) : Row := rOut c (gO r c idx) (va_up (rSh c idx (gS r c) r) (7 + 110 * c) (nI (gS r c - 1)))
/-- an object is stored, or used -/
def rTk (c x : Nat) (r : Row) : Row := rIn c x (va_up (rPutF c (gS r c) x r) (7 + 110 * c) (nI (gS r c + 1)))
def rDrop (c : Nat) (r : Row) : Row := if gS r c < gC r c then r else rRem c (gS r c - 1) r
def rTake (c x : Nat) (r : Row) : Row := match rFind c x r with
  | some k => rPutF c k x r
  | none => rTk c x (rDrop c r)
def aTake (c x : Nat) (r : Row) : Int32 := match rFind c x r with
  | some _ => -1
  | none => if gS r c < gC r c then -1 else nI (gO r c (gS r c - 1))
theorem lcmp0 {a b : Int64} : lg_cmp a b = 0 ↔ a = b := by
  unfold lg_cmp
  by_cases h : a = b
  · subst h
    simp [Int64.lt_irrefl]
  · rw [if_neg h]
    refine ⟨fun q => ?_, fun q => absurd q h⟩
    by_cases h1 : a > b
    · rw [if_pos h1] at q
      exact absurd q (by decide)
    · rw [if_neg h1] at q
      exact absurd q (by decide)
