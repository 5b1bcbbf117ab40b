/-! ===== the bits of a long ===== -/
theorem and1 (a : Int64) : a &&& 1 = 0 ∨ a &&& 1 = 1 := by
  rcases Nat.mod_two_eq_zero_or_one a.toBitVec.toNat with h | h
  · left
    apply Int64.toBitVec_inj.mp
    apply BitVec.eq_of_toNat_eq
    show a.toBitVec.toNat &&& 1 = 0
    rw [Nat.and_one_is_mod, h]
  · right
    apply Int64.toBitVec_inj.mp
    apply BitVec.eq_of_toNat_eq
    show a.toBitVec.toNat &&& 1 = 1
    rw [Nat.and_one_is_mod, h]
def bc1 (m : Int64) : Int64 := m - (lush m (nI 1) &&& 6148914691236517205)
def bc2 (m : Int64) : Int64 := (m &&& 3689348814741910323) + (lush m (nI 2) &&& 3689348814741910323)
def bc3 (m : Int64) : Int64 := (m + lush m (nI 4)) &&& 1085102592571150095
def bc4 (m : Int64) : Int64 := m + lush m (nI 8)
def bc5 (m : Int64) : Int64 := m + lush m (nI 16)
def bc6 (m : Int64) : Int64 := m + lush m (nI 32)
def lnat (x : Int64) : Nat := x.toBitVec.toNat
theorem lnat_lt (x : Int64) : lnat x < 2 ^ 64 := x.toBitVec.isLt
theorem lnat_add (a b : Int64) : lnat (a + b) = (lnat a + lnat b) % 2 ^ 64 := by
  unfold lnat
  rw [Int64.toBitVec_add, BitVec.toNat_add]
theorem lnat_sub {a b : Int64} (h : lnat b ≤ lnat a) : lnat (a - b) = lnat a - lnat b := by
  have ha := lnat_lt a
  unfold lnat at *
  rw [Int64.toBitVec_sub, BitVec.toNat_sub]
  omega
theorem lnat_and (a b : Int64) : lnat (a &&& b) = lnat a &&& lnat b := by
  unfold lnat
  rw [Int64.toBitVec_and, BitVec.toNat_and]
theorem cnt_tab : ((List.range 64).all fun k => decide (((nI k).toInt64.toUInt64 &&& Int64.toUInt64 63).toNat = k)) = true := by decide +kernel
theorem lnat_lush (a : Int64) {k : Nat} (hk : k < 64) : lnat (lush a (nI k)) = lnat a >>> k := by
  have h := of_decide_eq_true (List.all_eq_true.mp cnt_tab k (List.mem_range.mpr hk))
  show (a.toUInt64 >>> ((nI k).toInt64.toUInt64 &&& Int64.toUInt64 63)).toNat = a.toUInt64.toNat >>> k
  rw [UInt64.toNat_shiftRight, h, Nat.mod_eq_of_lt hk]
/-- bytes -/
def bval : List Nat → Nat
  | [] => 0
  | b :: t => b + 256 * bval t
theorem and_split {a b : Nat} (A B : Nat) (ha : a < 256) (hb : b < 256) : (a + 256 * A) &&& (b + 256 * B) = (a &&& b) + 256 * (A &&& B) := by
  have hab : a &&& b < 256 := Nat.lt_of_le_of_lt Nat.and_le_left ha
  have h1 : ((a + 256 * A) &&& (b + 256 * B)) % 2 ^ 8 = a &&& b := by
    rw [Nat.and_mod_two_pow]
    congr 1 <;> omega
  have h2 : ((a + 256 * A) &&& (b + 256 * B)) / 2 ^ 8 = A &&& B := by
    rw [Nat.and_div_two_pow]
    congr 1 <;> omega
  have h3 := Nat.div_add_mod ((a + 256 * A) &&& (b + 256 * B)) (2 ^ 8)
  rw [h1, h2] at h3
  omega
def mk8 (c : Nat) : Nat → Nat
  | 0 => 0
  | k + 1 => c + 256 * mk8 c k
theorem b_tab1 : ((List.range 256).all fun b => (List.range 2).all fun t => decide ((b / 2 + 128 * t) &&& 0x55 = (b / 2) &&& 0x55)) = true := by decide +kernel
theorem b_tab2 : ((List.range 256).all fun b => (List.range 4).all fun t => decide ((b / 4 + 64 * t) &&& 0x33 = (b / 4) &&& 0x33)) = true := by decide +kernel
def t1 (b : Nat) : Nat := b - ((b / 2) &&& 0x55)
def t2 (b : Nat) : Nat := (b &&& 0x33) + ((b / 4) &&& 0x33)
def pc8 (b : Nat) : Nat := b % 2 + b / 2 % 2 + b / 4 % 2 + b / 8 % 2 + b / 16 % 2 + b / 32 % 2 + b / 64 % 2 + b / 128 % 2
theorem t_tab : ((List.range 256).all fun b => decide ((b / 2) &&& 0x55 ≤ b) && decide (t1 b < 256) && decide (t2 (t1 b) / 16 ≤ 4) && decide (t2 (t1 b) % 16 ≤ 4) && decide (t2 (t1 b) / 16 + t2 (t1 b) % 16 = pc8 b) && decide (pc8 b ≤ 8)) = true := by decide +kernel
theorem t_of {b : Nat} (hb : b < 256) : (b / 2) &&& 0x55 ≤ b ∧ t1 b < 256 ∧ t2 (t1 b) / 16 ≤ 4 ∧ t2 (t1 b) % 16 ≤ 4 ∧ t2 (t1 b) / 16 + t2 (t1 b) % 16 = pc8 b ∧ pc8 b ≤ 8 := by
  have h := List.all_eq_true.mp t_tab b (List.mem_range.mpr hb)
  simp only [Bool.and_eq_true, decide_eq_true_eq] at h
  obtain ⟨⟨⟨⟨⟨h1, h2⟩, h3⟩, h4⟩, h5⟩, h6⟩ := h
  exact ⟨h1, h2, h3, h4, h5, h6⟩
def by8 (l : List Nat) : Prop := ∀ b ∈ l, b < 256
theorem by8_c {b : Nat} {l : List Nat} (h : by8 (b :: l)) : b < 256 ∧ by8 l := ⟨h b (List.mem_cons_self ..), fun x hx => h x (List.mem_cons_of_mem _ hx)⟩
theorem bv_and {c : Nat} (hc : c < 256) : ∀ {l : List Nat}, by8 l → bval l &&& mk8 c l.length = bval (l.map (· &&& c))
  | [], _ => by simp [bval]
  | b :: l, h => by
    obtain ⟨h1, h2⟩ := by8_c h
    show (b + 256 * bval l) &&& (c + 256 * mk8 c l.length) = (b &&& c) + 256 * bval (l.map (· &&& c))
    rw [and_split _ _ h1 hc, bv_and hc h2]
theorem bv_sh1 : ∀ {l : List Nat}, by8 l → (bval l >>> 1) &&& mk8 0x55 l.length = bval (l.map (fun b => (b / 2) &&& 0x55))
  | [], _ => by simp [bval]
  | b :: l, h => by
    obtain ⟨h1, h2⟩ := by8_c h
    have e : (b + 256 * bval l) >>> 1 = (b / 2 + 128 * (bval l % 2)) + 256 * (bval l >>> 1) := by
      rw [Nat.shiftRight_eq_div_pow, Nat.shiftRight_eq_div_pow]
      omega
    show ((b + 256 * bval l) >>> 1) &&& (0x55 + 256 * mk8 0x55 l.length) = ((b / 2) &&& 0x55) + 256 * bval (l.map (fun b => (b / 2) &&& 0x55))
    have ht := of_decide_eq_true (List.all_eq_true.mp (List.all_eq_true.mp b_tab1 b (List.mem_range.mpr h1)) (bval l % 2) (List.mem_range.mpr (by omega)))
    rw [e, and_split _ _ (by omega) (by decide), ht, bv_sh1 h2]
theorem bv_sh2 : ∀ {l : List Nat}, by8 l → (bval l >>> 2) &&& mk8 0x33 l.length = bval (l.map (fun b => (b / 4) &&& 0x33))
  | [], _ => by simp [bval]
  | b :: l, h => by
    obtain ⟨h1, h2⟩ := by8_c h
    have e : (b + 256 * bval l) >>> 2 = (b / 4 + 64 * (bval l % 4)) + 256 * (bval l >>> 2) := by
      rw [Nat.shiftRight_eq_div_pow, Nat.shiftRight_eq_div_pow]
      omega
    show ((b + 256 * bval l) >>> 2) &&& (0x33 + 256 * mk8 0x33 l.length) = ((b / 4) &&& 0x33) + 256 * bval (l.map (fun b => (b / 4) &&& 0x33))
    have ht := of_decide_eq_true (List.all_eq_true.mp (List.all_eq_true.mp b_tab2 b (List.mem_range.mpr h1)) (bval l % 4) (List.mem_range.mpr (by omega)))
    rw [e, and_split _ _ (by omega) (by decide), ht, bv_sh2 h2]
theorem bv_sub {f : Nat → Nat} : ∀ {l : List Nat}, (∀ b ∈ l, f b ≤ b) → bval (l.map f) ≤ bval l ∧ bval l - bval (l.map f) = bval (l.map (fun b => b - f b))
  | [], _ => ⟨Nat.le_refl _, rfl⟩
  | b :: l, h => by
    have h1 := h b (List.mem_cons_self ..)
    obtain ⟨i1, i2⟩ := bv_sub (f := f) (l := l) (fun x hx => h x (List.mem_cons_of_mem _ hx))
    show f b + 256 * bval (l.map f) ≤ b + 256 * bval l ∧ b + 256 * bval l - (f b + 256 * bval (l.map f)) = (b - f b) + 256 * bval (l.map (fun b => b - f b))
    omega
theorem bv_add {f g : Nat → Nat} : ∀ {l : List Nat}, bval (l.map f) + bval (l.map g) = bval (l.map (fun b => f b + g b))
  | [] => rfl
  | b :: l => by
    have i := bv_add (f := f) (g := g) (l := l)
    show (f b + 256 * bval (l.map f)) + (g b + 256 * bval (l.map g)) = (f b + g b) + 256 * bval (l.map (fun b => f b + g b))
    omega
theorem bv_lt : ∀ {l : List Nat}, by8 l → bval l < 256 ^ l.length
  | [], _ => by decide
  | b :: l, h => by
    obtain ⟨h1, h2⟩ := by8_c h
    have i := bv_lt h2
    show b + 256 * bval l < 256 ^ (l.length + 1)
    rw [Nat.pow_succ]
    omega
/-- nibbles of at most 4 are added -/
theorem bv_nib : ∀ {l : List Nat}, by8 l → (∀ b ∈ l, b / 16 ≤ 4 ∧ b % 16 ≤ 4) → (bval l + bval l >>> 4) &&& mk8 15 l.length = bval (l.map (fun b => b / 16 + b % 16)) ∧ bval l + bval l >>> 4 < 256 ^ l.length ∧ (l ≠ [] → bval l % 16 ≤ 4)
  | [], _, _ => ⟨by simp [bval], by simp [bval], fun h => absurd rfl h⟩
  | b :: l, h, hn => by
    obtain ⟨h1, h2⟩ := by8_c h
    have hb := hn b (List.mem_cons_self ..)
    obtain ⟨i1, i2, i3⟩ := bv_nib h2 (fun x hx => hn x (List.mem_cons_of_mem _ hx))
    have hv : bval l % 16 ≤ 4 := by
      cases l with
      | nil => decide
      | cons a t => exact i3 (by simp)
    have e : (b + 256 * bval l) + (b + 256 * bval l) >>> 4 = (b + b / 16 + 16 * (bval l % 16)) + 256 * (bval l + bval l >>> 4) := by
      rw [Nat.shiftRight_eq_div_pow, Nat.shiftRight_eq_div_pow]
      omega
    have e15 : ∀ x, x &&& 15 = x % 16 := fun x => Nat.and_two_pow_sub_one_eq_mod x 4
    refine ⟨?_, ?_, fun _ => ?_⟩
    · show ((b + 256 * bval l) + (b + 256 * bval l) >>> 4) &&& (15 + 256 * mk8 15 l.length) = (b / 16 + b % 16) + 256 * bval (l.map (fun b => b / 16 + b % 16))
      rw [e, and_split _ _ (by omega) (by decide), i1, e15]
      omega
    · show (b + 256 * bval l) + (b + 256 * bval l) >>> 4 < 256 ^ (l.length + 1)
      rw [e, Nat.pow_succ]
      omega
    · show (b + 256 * bval l) % 16 ≤ 4
      omega
/-- the sum of the bits -/
def sbt (M : Nat) : Nat → Nat
  | 0 => 0
  | k + 1 => sbt M k + (M >>> k) % 2
theorem sbt_up {b V : Nat} (hb : b < 256) : ∀ k, sbt (b + 256 * V) (8 + k) = pc8 b + sbt V k
  | 0 => by
    show 0 + (b + 256 * V) >>> 0 % 2 + (b + 256 * V) >>> 1 % 2 + (b + 256 * V) >>> 2 % 2 + (b + 256 * V) >>> 3 % 2 + (b + 256 * V) >>> 4 % 2 + (b + 256 * V) >>> 5 % 2 + (b + 256 * V) >>> 6 % 2 + (b + 256 * V) >>> 7 % 2 = pc8 b + 0
    have g : ∀ i, i < 8 → (b + 256 * V) >>> i % 2 = b / 2 ^ i % 2 := by
      intro i hi
      rw [Nat.shiftRight_eq_div_pow]
      rcases (show i = 0 ∨ i = 1 ∨ i = 2 ∨ i = 3 ∨ i = 4 ∨ i = 5 ∨ i = 6 ∨ i = 7 by omega) with rfl | rfl | rfl | rfl | rfl | rfl | rfl | rfl
      all_goals omega
    rw [g 0 (by decide), g 1 (by decide), g 2 (by decide), g 3 (by decide), g 4 (by decide), g 5 (by decide), g 6 (by decide), g 7 (by decide)]
    unfold pc8
    rw [Nat.zero_add, Nat.pow_zero, Nat.div_one]
    rfl
  | k + 1 => by
    show sbt (b + 256 * V) (8 + k) + (b + 256 * V) >>> (8 + k) % 2 = pc8 b + (sbt V k + V >>> k % 2)
    rw [sbt_up hb k, Nat.shiftRight_add, show (b + 256 * V) >>> 8 = V by rw [Nat.shiftRight_eq_div_pow]; omega]
    omega
def psum : List Nat → Nat
  | [] => 0
  | b :: l => pc8 b + psum l
theorem sbt_bv : ∀ {l : List Nat}, by8 l → sbt (bval l) (8 * l.length) = psum l
  | [], _ => rfl
  | b :: l, h => by
    obtain ⟨h1, h2⟩ := by8_c h
    show sbt (b + 256 * bval l) (8 * (l.length + 1)) = pc8 b + psum l
    rw [show 8 * (l.length + 1) = 8 + 8 * l.length by omega, sbt_up h1, sbt_bv h2]
theorem pcn_sbt (m : Int64) : ∀ k, k ≤ 64 → pcn m k = nI (sbt (lnat m) k)
  | 0, _ => rfl
  | k + 1, hk => by
    have e : (lush m (nI k) &&& 1).toInt32 = nI ((lnat m >>> k) % 2) := by
      have h1 : lnat (lush m (nI k) &&& 1) = (lnat m >>> k) % 2 := by
        rw [lnat_and, lnat_lush m (by omega)]
        exact Nat.and_one_is_mod _
      rcases and1 (lush m (nI k)) with h | h
      · rw [h] at h1 ⊢
        rw [← h1]
        rfl
      · rw [h] at h1 ⊢
        rw [← h1]
        rfl
    show pcn m k + (lush m (nI k) &&& 1).toInt32 = nI (sbt (lnat m) k + (lnat m >>> k) % 2)
    rw [pcn_sbt m k (by omega), e, nI_add]
/-- a number's bytes -/
def bys (M : Nat) : Nat → List Nat
  | 0 => []
  | k + 1 => M % 256 :: bys (M / 256) k
theorem bys_val : ∀ (k M : Nat), M < 256 ^ k → bval (bys M k) = M
  | 0, M, h => by
    have : M = 0 := by simpa using h
    rw [this]
    rfl
  | k + 1, M, h => by
    show M % 256 + 256 * bval (bys (M / 256) k) = M
    rw [bys_val k (M / 256) (by rw [Nat.pow_succ] at h; omega)]
    omega
theorem bys_8 : ∀ (k M : Nat), by8 (bys M k)
  | 0, M => fun b hb => by cases hb
  | k + 1, M => fun b hb => by
    rcases List.mem_cons.mp hb with rfl | h
    · exact Nat.mod_lt _ (by decide)
    · exact bys_8 k (M / 256) b h
theorem bys_len : ∀ (k M : Nat), (bys M k).length = k
  | 0, _ => rfl
  | k + 1, M => by
    show (bys (M / 256) k).length + 1 = k + 1
    rw [bys_len k]
theorem bc_3 (m : Int64) : ∃ l : List Nat, by8 l ∧ l.length = 8 ∧ sbt (lnat m) 64 = psum l ∧ lnat (bc3 (bc2 (bc1 m))) = bval (l.map pc8) := by
  have hb := bys_8 8 (lnat m)
  have hl := bys_len 8 (lnat m)
  have hv := bys_val 8 (lnat m) (lnat_lt m)
  have hp : sbt (lnat m) 64 = psum (bys (lnat m) 8) := by
    have := sbt_bv hb
    rw [hl, hv, show 8 * 8 = 64 from rfl] at this
    exact this
  generalize bys (lnat m) 8 = l at hb hl hv hp
  refine ⟨l, hb, hl, hp, ?_⟩
  have c5 : lnat (6148914691236517205 : Int64) = mk8 0x55 8 := by decide +kernel
  have c3 : lnat (3689348814741910323 : Int64) = mk8 0x33 8 := by decide +kernel
  have c1 : lnat (1085102592571150095 : Int64) = mk8 15 8 := by decide +kernel
  -- the pairs
  have s1 : lnat (bc1 m) = bval (l.map t1) := by
    have e1 : lnat (lush m (nI 1) &&& 6148914691236517205) = bval (l.map (fun b => (b / 2) &&& 0x55)) := by
      rw [lnat_and, lnat_lush m (by decide), c5, ← hv, ← hl]
      exact bv_sh1 hb
    obtain ⟨i1, i2⟩ := bv_sub (f := fun b => (b / 2) &&& 0x55) (l := l) (fun b h => (t_of (hb b h)).1)
    unfold bc1
    rw [lnat_sub (by rw [e1, ← hv]; exact i1), e1, ← hv, i2]
    rfl
  have b1 : by8 (l.map t1) := fun x hx => by
    obtain ⟨b, h1, rfl⟩ := List.mem_map.mp hx
    exact (t_of (hb b h1)).2.1
  have l1 : (l.map t1).length = 8 := by rw [List.length_map, hl]
  -- the nibbles
  have nb : ∀ b ∈ l, t2 (t1 b) / 16 ≤ 4 ∧ t2 (t1 b) % 16 ≤ 4 := fun b h => ⟨(t_of (hb b h)).2.2.1, (t_of (hb b h)).2.2.2.1⟩
  have b2 : by8 (l.map (fun b => t2 (t1 b))) := fun x hx => by
    obtain ⟨b, h1, rfl⟩ := List.mem_map.mp hx
    have := nb b h1
    show t2 (t1 b) < 256
    omega
  have l2 : (l.map (fun b => t2 (t1 b))).length = 8 := by rw [List.length_map, hl]
  have s2 : lnat (bc2 (bc1 m)) = bval (l.map (fun b => t2 (t1 b))) := by
    have e1 : lnat (bc1 m &&& 3689348814741910323) = bval ((l.map t1).map (· &&& 0x33)) := by
      rw [lnat_and, c3, s1, ← l1]
      exact bv_and (by decide) b1
    have e2 : lnat (lush (bc1 m) (nI 2) &&& 3689348814741910323) = bval ((l.map t1).map (fun b => (b / 4) &&& 0x33)) := by
      rw [lnat_and, lnat_lush _ (by decide), c3, s1, ← l1]
      exact bv_sh2 b1
    unfold bc2
    rw [lnat_add, e1, e2, bv_add, List.map_map]
    have := bv_lt b2
    rw [l2] at this
    rw [Nat.mod_eq_of_lt]
    · rfl
    · exact this
  have s3 : lnat (bc3 (bc2 (bc1 m))) = bval (l.map pc8) := by
    obtain ⟨i1, i2, -⟩ := bv_nib b2 (fun x hx => by
      obtain ⟨b, h1, rfl⟩ := List.mem_map.mp hx
      exact nb b h1)
    rw [l2] at i1 i2
    unfold bc3
    rw [lnat_and, lnat_add, lnat_lush _ (by decide), c1, s2, Nat.mod_eq_of_lt i2, i1, List.map_map]
    congr 1
    apply List.map_congr_left
    intro b h
    exact (t_of (hb b h)).2.2.2.2.1
  exact s3
theorem sh8 {a V : Nat} (ha : a < 256) : (a + 256 * V) >>> 8 = V := by
  rw [Nat.shiftRight_eq_div_pow]
  omega
theorem sh16 {a b V : Nat} (ha : a < 256) (hb : b < 256) : (a + 256 * (b + 256 * V)) >>> 16 = V := by
  rw [show 16 = 8 + 8 from rfl, Nat.shiftRight_add, sh8 ha, sh8 hb]
theorem sh32 {a b c d V : Nat} (ha : a < 256) (hb : b < 256) (hc : c < 256) (hd : d < 256) : (a + 256 * (b + 256 * (c + 256 * (d + 256 * V)))) >>> 32 = V := by
  rw [show 32 = 16 + 16 from rfl, Nat.shiftRight_add, sh16 ha hb, sh16 hc hd]
theorem len8 {l : List Nat} (h : l.length = 8) : ∃ p0 p1 p2 p3 p4 p5 p6 p7, l = [p0, p1, p2, p3, p4, p5, p6, p7] := by
  have e := h
  obtain ⟨p0, l, rfl⟩ := List.exists_cons_of_length_eq_add_one (show l.length = 7 + 1 from h)
  have h : l.length = 6 + 1 := by simpa using h
  obtain ⟨p1, l, rfl⟩ := List.exists_cons_of_length_eq_add_one h
  have h : l.length = 5 + 1 := by simpa using h
  obtain ⟨p2, l, rfl⟩ := List.exists_cons_of_length_eq_add_one h
  have h : l.length = 4 + 1 := by simpa using h
  obtain ⟨p3, l, rfl⟩ := List.exists_cons_of_length_eq_add_one h
  have h : l.length = 3 + 1 := by simpa using h
  obtain ⟨p4, l, rfl⟩ := List.exists_cons_of_length_eq_add_one h
  have h : l.length = 2 + 1 := by simpa using h
  obtain ⟨p5, l, rfl⟩ := List.exists_cons_of_length_eq_add_one h
  have h : l.length = 1 + 1 := by simpa using h
  obtain ⟨p6, l, rfl⟩ := List.exists_cons_of_length_eq_add_one h
  have h : l.length = 0 + 1 := by simpa using h
  obtain ⟨p7, l, rfl⟩ := List.exists_cons_of_length_eq_add_one h
  have h : l.length = 0 := by simpa using h
  have h : l = [] := List.eq_nil_of_length_eq_zero h
  subst h
  exact ⟨p0, p1, p2, p3, p4, p5, p6, p7, rfl⟩
theorem low7 {w : Int64} {v : Nat} (h : lnat w % 128 = v) : w.toInt32 &&& nI 127 = nI v := by
  rw [← h]
  apply Int32.toBitVec_inj.mp
  apply BitVec.eq_of_toNat_eq
  show (w.toInt32.toBitVec &&& (nI 127).toBitVec).toNat = (nI (lnat w % 128)).toBitVec.toNat
  rw [BitVec.toNat_and]
  have e1 : w.toInt32.toBitVec.toNat = lnat w % 2 ^ 32 := by
    show (w.toBitVec.signExtend 32).toNat = _
    rw [BitVec.signExtend_eq_setWidth_of_le _ (by decide), BitVec.toNat_setWidth]
    rfl
  have e2 : (nI (lnat w % 128)).toBitVec.toNat = lnat w % 128 := by
    show (BitVec.ofNat 32 (lnat w % 128)).toNat = _
    rw [BitVec.toNat_ofNat]
    omega
  have e3 : (nI 127).toBitVec.toNat = 2 ^ 7 - 1 := by decide +kernel
  rw [e1, e2, e3, Nat.and_two_pow_sub_one_eq_mod]
  omega
theorem bc_fin {w3 : Int64} {x0 x1 x2 x3 x4 x5 x6 x7 : Nat} (q0 : x0 ≤ 8) (q1 : x1 ≤ 8) (q2 : x2 ≤ 8) (q3 : x3 ≤ 8) (q4 : x4 ≤ 8) (q5 : x5 ≤ 8) (q6 : x6 ≤ 8) (q7 : x7 ≤ 8) (s3 : lnat w3 = x0 + 256 * (x1 + 256 * (x2 + 256 * (x3 + 256 * (x4 + 256 * (x5 + 256 * (x6 + 256 * x7))))))) : lnat (bc6 (bc5 (bc4 w3))) % 128 = x0 + x1 + x2 + x3 + x4 + x5 + x6 + x7 := by
  have s4 : lnat (bc4 w3) = (x0 + x1) + 256 * ((x1 + x2) + 256 * ((x2 + x3) + 256 * ((x3 + x4) + 256 * ((x4 + x5) + 256 * ((x5 + x6) + 256 * ((x6 + x7) + 256 * x7)))))) := by
    unfold bc4
    rw [lnat_add, lnat_lush _ (by decide), s3, sh8 (by omega), Nat.mod_eq_of_lt (by omega)]
    omega
  generalize bc4 w3 = w4 at s4 ⊢
  have s5 : lnat (bc5 w4) = (x0 + x1 + x2 + x3) + 256 * ((x1 + x2 + x3 + x4) + 256 * ((x2 + x3 + x4 + x5) + 256 * ((x3 + x4 + x5 + x6) + 256 * ((x4 + x5 + x6 + x7) + 256 * ((x5 + x6 + x7) + 256 * ((x6 + x7) + 256 * x7)))))) := by
    unfold bc5
    rw [lnat_add, lnat_lush _ (by decide), s4, sh16 (by omega) (by omega), Nat.mod_eq_of_lt (by omega)]
    omega
  generalize bc5 w4 = w5 at s5 ⊢
  unfold bc6
  rw [lnat_add, lnat_lush _ (by decide), s5, sh32 (by omega) (by omega) (by omega) (by omega), Nat.mod_mod_of_dvd _ (show 128 ∣ 2 ^ 64 by decide)]
  clear s3 s4 s5
  generalize x1 + x2 + x3 + x4 + 256 * (x2 + x3 + x4 + x5 + 256 * (x3 + x4 + x5 + x6 + 256 * (x4 + x5 + x6 + x7 + 256 * (x5 + x6 + x7 + 256 * (x6 + x7 + 256 * x7))))) = A
  generalize x5 + x6 + x7 + 256 * (x6 + x7 + 256 * x7) = B
  omega
theorem bitCount_eq (m : Int64) : (bc6 (bc5 (bc4 (bc3 (bc2 (bc1 m)))))).toInt32 &&& nI 127 = pcn m 64 := by
  obtain ⟨l, hb, hl, hp, s3⟩ := bc_3 m
  rw [pcn_sbt m 64 (Nat.le_refl _), hp]
  obtain ⟨p0, p1, p2, p3, p4, p5, p6, p7, rfl⟩ := len8 hl
  have q : ∀ b ∈ [p0, p1, p2, p3, p4, p5, p6, p7], pc8 b ≤ 8 := fun b h => (t_of (hb b h)).2.2.2.2.2
  have es : psum [p0, p1, p2, p3, p4, p5, p6, p7] = pc8 p0 + pc8 p1 + pc8 p2 + pc8 p3 + pc8 p4 + pc8 p5 + pc8 p6 + pc8 p7 := by
    simp only [psum]
    omega
  have ev : bval ([p0, p1, p2, p3, p4, p5, p6, p7].map pc8) = pc8 p0 + 256 * (pc8 p1 + 256 * (pc8 p2 + 256 * (pc8 p3 + 256 * (pc8 p4 + 256 * (pc8 p5 + 256 * (pc8 p6 + 256 * pc8 p7)))))) := by
    simp only [List.map_cons, List.map_nil, bval, Nat.mul_zero, Nat.add_zero]
  rw [ev] at s3
  rw [es]
  exact low7 (bc_fin (q p0 (by simp)) (q p1 (by simp)) (q p2 (by simp)) (q p3 (by simp)) (q p4 (by simp)) (q p5 (by simp)) (q p6 (by simp)) (q p7 (by simp)) s3)
