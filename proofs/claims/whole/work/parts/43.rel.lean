/-! ===== the class and the model stand alike ===== -/
theorem cpP_blk {α : Type} {n a b c i : Nat} {w : Nat → α} (hi : i < n) : cpP n a b n w (n * c + i) = if c = b then w (n * a + i) else w (n * c + i) := by
  unfold cpP
  by_cases h : c = b
  · subst h
    rw [if_pos (by omega), if_pos rfl]
    congr 1
    omega
  · rw [if_neg h]
    refine if_neg (fun q => ?_)
    rcases Nat.lt_or_gt_of_ne h with z | z
    · have : n * (c + 1) ≤ n * b := Nat.mul_le_mul_left n z
      rw [Nat.mul_add] at this
      omega
    · have : n * (b + 1) ≤ n * c := Nat.mul_le_mul_left n z
      rw [Nat.mul_add] at this
      omega
/-- which kept state stands where, behind a keep -/
def sgn (sg : Nat → Nat) (k : Nat) : Nat → Nat := if k < 4 then sg else rotS sg
def Inj4 (sg : Nat → Nat) : Prop := ∀ i j, i < 4 → j < 4 → sg i = sg j → i = j
theorem Inj4_n {sg : Nat → Nat} {k : Nat} (h : Inj4 sg) : Inj4 (sgn sg k) := by
  intro i j hi hj e
  unfold sgn at e
  split at e
  · exact h i j hi hj e
  · unfold rotS at e
    by_cases a : i = 3 <;> by_cases b : j = 3
    · omega
    · rw [if_pos a, if_neg b] at e
      have := h 0 (j + 1) (by omega) (by omega) e
      omega
    · rw [if_neg a, if_pos b] at e
      have := h (i + 1) 0 (by omega) (by omega) e
      omega
    · rw [if_neg a, if_neg b] at e
      have := h (i + 1) (j + 1) (by omega) (by omega) e
      omega
/-- where block j of the model's history comes from -/
theorem svW_blk {α : Type} {n k j i : Nat} {w : Nat → α} (hi : i < n) (hk : k ≤ 4) (hj : j < kv k) : svW n k w (n * (j + 1) + i) = if j + 1 = kv k then w i else w (n * ((if k < 4 then j else j + 1) + 1) + i) := by
  have e0 : ∀ w : Nat → α, w (n * 0 + i) = w i := fun w => by rw [Nat.mul_zero, Nat.zero_add]
  unfold kv at hj ⊢
  by_cases h4 : k = 4
  · subst h4
    have hj : j < 4 := hj
    show cpP n 0 4 n (cpP n 4 3 n (cpP n 3 2 n (cpP n 2 1 n w))) (n * (j + 1) + i) = if j + 1 = 4 then w i else w (n * (j + 1 + 1) + i)
    rw [cpP_blk hi]
    by_cases c3 : j = 3
    · subst c3
      rw [if_pos rfl, if_pos rfl, cpP_blk hi, if_neg (by decide), cpP_blk hi, if_neg (by decide), cpP_blk hi, if_neg (by decide), e0 w]
    · rw [if_neg (by omega), if_neg (by omega), cpP_blk hi]
      by_cases c2 : j = 2
      · subst c2
        rw [if_pos rfl, cpP_blk hi, if_neg (by decide), cpP_blk hi, if_neg (by decide)]
      · rw [if_neg (by omega), cpP_blk hi]
        by_cases c1 : j = 1
        · subst c1
          rw [if_pos rfl, cpP_blk hi, if_neg (by decide)]
        · have c0 : j = 0 := by omega
          subst c0
          rw [if_neg (by decide), cpP_blk hi, if_pos rfl]
  · rw [if_pos (show k < 4 by omega)] at hj ⊢
    rw [if_pos (show k < 4 by omega)]
    unfold svW
    rw [if_neg h4, cpP_blk hi, e0 w]
theorem Inv_cg {r r' : Row} (h : Inv r) (e : ∀ i, i < 556 → r' i = r i) : Inv r' := Inv_o h (fun j a _ _ => e j (by omega)) (fun c hc j a b => e j (by omega)) (fun c hc j a b => e j (by omega))
/-- the kept states -/
def KH (I : MI) (L : ML) (sg : Nat → Nat) (k : Nat) (X : Row) (Y : Msk) : Prop := ∀ j, j < k → Inv (I (sg j)) ∧ (∀ i, i < 556 → X (556 * (j + 1) + i) = I (sg j) i) ∧ (∀ i, i < 30 → Y (30 * (j + 1) + i) = L (sg j) i)
theorem KH_keep {I I2 : MI} {L L2 : ML} {R : MR} {sg : Nat → Nat} {k : Nat} {X : Row} {Y : Msk} (hH : HS R sg) (hi : Inj4 sg) (hk : k ≤ 4) (h0 : Inv (I 0)) (h : KH I L sg k X Y) (e : ∀ u, 1 ≤ u → u ≤ 4 → I2 u = KI I sg k u) (eL : ∀ u, 1 ≤ u → u ≤ 4 → L2 u = KL L sg k u) : KH I2 L2 (sgn sg k) (kv k) (SX k (I 0) X) (SY k (L 0) Y) := by
  intro j hj
  have hkv : kv k ≤ 4 := by
    unfold kv
    split <;> omega
  have hj4 : j < 4 := by omega
  have hrng : 1 ≤ sgn sg k j ∧ sgn sg k j ≤ 4 := by
    unfold sgn
    split
    · exact (hH j hj4).2
    · exact (rot_HS hH j hj4).2
  rw [e _ hrng.1 hrng.2, eL _ hrng.1 hrng.2]
  have t15 : sgn sg k j ≠ 15 := by omega
  by_cases hl : j + 1 = kv k
  · have ek : sgn sg k j = kt sg k := by
      unfold sgn kt
      unfold kv at hl
      by_cases h4 : k < 4
      · rw [if_pos h4] at hl
        rw [if_pos h4, if_pos h4, show j = k by omega]
      · rw [if_neg h4] at hl
        rw [if_neg h4, if_neg h4]
        unfold rotS
        rw [if_pos (by omega)]
    have eI : ∀ i, i < 556 → KI I sg k (sgn sg k j) i = I 0 i := by
      intro i hi2
      unfold KI kpI
      rw [stI_r t15, ek, va_up_self]
      unfold ovr
      rw [if_pos (by omega)]
    have eM : ∀ i, i < 30 → KL L sg k (sgn sg k j) i = L 0 i := by
      intro i hi2
      unfold KL kpL
      rw [ek, va_up_self]
      unfold ovr
      rw [if_pos (by omega)]
    refine ⟨Inv_cg h0 eI, fun i hi2 => ?_, fun i hi2 => ?_⟩
    · unfold SX
      rw [svW_blk hi2 hk hj, if_pos hl, eI i hi2]
      exact if_pos hi2
    · unfold SY
      rw [svW_blk hi2 hk hj, if_pos hl, eM i hi2]
      exact if_pos hi2
  · have hjn : ∃ j', j' < k ∧ sgn sg k j = sg j' ∧ sg j' ≠ kt sg k ∧ j' = (if k < 4 then j else j + 1) := by
      unfold sgn kt
      unfold kv at hl hj
      by_cases h4 : k < 4
      · rw [if_pos h4] at hl hj
        rw [if_pos h4, if_pos h4]
        refine ⟨j, by omega, rfl, fun z => ?_, by rw [if_pos h4]⟩
        have := hi j k (by omega) (by omega) z
        omega
      · rw [if_neg h4] at hl hj
        rw [if_neg h4, if_neg h4]
        refine ⟨j + 1, by omega, ?_, fun z => ?_, by rw [if_neg h4]⟩
        · unfold rotS
          rw [if_neg (by omega)]
        · have := hi (j + 1) 0 (by omega) (by omega) z
          omega
    obtain ⟨j', hj', e1, e2, e3⟩ := hjn
    have eI : KI I sg k (sgn sg k j) = I (sg j') := by
      rw [e1]
      unfold KI kpI
      rw [stI_r (by rw [← e1]; exact t15), va_up_ne _ _ e2]
    have eM : KL L sg k (sgn sg k j) = L (sg j') := by
      rw [e1]
      unfold KL kpL
      rw [va_up_ne _ _ e2]
    obtain ⟨b1, b2, b3⟩ := h j' hj'
    rw [eI, eM]
    refine ⟨b1, fun i hi2 => ?_, fun i hi2 => ?_⟩
    · unfold SX
      rw [svW_blk hi2 hk hj, if_neg hl, ← e3]
      have : ¬ 556 * (j' + 1) + i < 556 := by omega
      exact (if_neg this).trans (b2 i hi2)
    · unfold SY
      rw [svW_blk hi2 hk hj, if_neg hl, ← e3]
      have : ¬ 30 * (j' + 1) + i < 30 := by omega
      exact (if_neg this).trans (b3 i hi2)
/-- the ways, the texts -/
def WT (I : MI) (ws : List Nat) (n : Nat) : Prop := MF I ∧ (I 9 0 = nI ws.length ∧ ws.length ≤ 5 ∧ (∀ i, i < ws.length → I 10 i = nI (ws.getD i 0)) ∧ I 21 1 = nI ws.length ∧ (∀ i, i < ws.length → I 25 i = nI (ws.getD i 0))) ∧ TX I n ∧ I 21 4 = nI n ∧ (∀ i, i < n → I 27 i = I 6 i)
def Rel (I : MI) (L : ML) (R : MR) (sg : Nat → Nat) (k : Nat) (X : Row) (Y : Msk) (ws : List Nat) (n : Nat) : Prop :=
  RS R ∧ HS R sg ∧ Inj4 sg ∧ I 15 0 = nI k ∧ I 21 0 = nI k ∧ k ≤ 4 ∧ Inv (I 0) ∧ KH I L sg k X Y ∧ I 20 = sp (I 0) X ∧ L 20 = sq (L 0) Y ∧ WT I ws n
def RLx (I : MI) (L : ML) (R : MR) : Prop := ∃ sg k X Y ws n, Rel I L R sg k X Y ws n
theorem HS_n {R : MR} {sg : Nat → Nat} {k : Nat} (h : HS R sg) : HS (KR R sg k) (sgn sg k) := by
  unfold KR sgn
  split
  · exact h
  · exact rot_HS h
theorem kv_le (k : Nat) : kv k ≤ 4 := by
  unfold kv
  split <;> omega
/-- behind a change: what must be seen -/
theorem rel_mut {I I2 : MI} {L L2 : ML} {R : MR} {sg : Nat → Nat} {k n n2 : Nat} {X : Row} {Y : Msk} {ws ws2 : List Nat} {r' : Row} (h : Rel I L R sg k X Y ws n) (hr : Inv r') (h0 : I2 0 = r') (h1 : ∀ u, 1 ≤ u → u ≤ 4 → I2 u = KI I sg k u) (hL1 : ∀ u, 1 ≤ u → u ≤ 4 → L2 u = KL L sg k u) (h15 : I2 15 0 = nI (kv k)) (h21 : I2 21 0 = nI (kv k)) (h20 : I2 20 = sp r' (SX k (I 0) X)) (hL20 : L2 20 = sq (L2 0) (SY k (L 0) Y)) (hw : WT I2 ws2 n2) : RLx I2 L2 (KR R sg k) := by
  obtain ⟨a1, a2, a3, a4, a5, a6, a7, a8, a9, a10, a11⟩ := h
  exact ⟨sgn sg k, kv k, _, _, ws2, n2, KRS a1, HS_n a2, Inj4_n a3, h15, h21, kv_le k, by rw [h0]; exact hr, KH_keep a2 a3 a6 a7 a8 h1 hL1, by rw [h0]; exact h20, hL20, hw⟩
/-- nothing of the ways and texts has changed -/
theorem WT_of {I I2 : MI} {ws : List Nat} {n : Nat} (h : WT I ws n) (e : ∀ u, u = 5 ∨ u = 6 ∨ u = 9 ∨ u = 10 ∨ u = 22 ∨ u = 23 ∨ u = 25 ∨ u = 27 → I2 u = I u) (e21 : I2 21 1 = I 21 1 ∧ I2 21 4 = I 21 4) : WT I2 ws n := by
  obtain ⟨b1, ⟨b2, b3, b4, b5, b6⟩, ⟨b7, b8, b9⟩, b10, b11⟩ := h
  refine ⟨fun f hf => ?_, ⟨?_, b3, fun i hi => ?_, ?_, fun i hi => ?_⟩, ⟨?_, b8, fun i hi => ?_⟩, ?_, fun i hi => ?_⟩
  · rw [e 22 (by omega), e 23 (by omega)]; exact b1 f hf
  · rw [e 9 (by omega)]; exact b2
  · rw [e 10 (by omega)]; exact b4 i hi
  · rw [e21.1]; exact b5
  · rw [e 25 (by omega)]; exact b6 i hi
  · rw [e 5 (by omega)]; exact b7
  · rw [e 6 (by omega)]; exact b9 i hi
  · rw [e21.2]; exact b10
  · rw [e 27 (by omega), e 6 (by omega)]; exact b11 i hi
theorem mm_id {I : MI} {r X : Row} (h : I 20 = sp r X) : mm I r X = I := by
  unfold mm
  rw [← h, up_id]
theorem mL_id {L : ML} {m Y : Msk} (h : L 20 = sq m Y) : mL L m Y = L := by
  unfold mL
  rw [← h, up_id]
/-- the common shape of a change -/
theorem rel_std {I : MI} {L : ML} {R : MR} {sg : Nat → Nat} {k n : Nat} {X : Row} {Y : Msk} {ws : List Nat} {r' : Row} {m' : Msk} (h : Rel I L R sg k X Y ws n) (hr : Inv r') : RLx (mm (SI (va_up (KI I sg k) 0 r') k) r' (SX k (I 0) X)) (mL (va_up (KL L sg k) 0 m') m' (SY k (L 0) Y)) (KR R sg k) := by
  have a2 := h.2.1
  have hb : ∀ u, 5 ≤ u → u ≠ 15 → u ≠ 20 → u ≠ 21 → mm (SI (va_up (KI I sg k) 0 r') k) r' (SX k (I 0) X) u = I u := by
    intro u h1 h2 h3 h4
    unfold SI
    rw [mm_o h3, stI_r h4, va_up_ne _ _ (by omega), KI_b a2 h1 h2]
  have h21 : ∀ j, j ≠ 0 → mm (SI (va_up (KI I sg k) 0 r') k) r' (SX k (I 0) X) 21 j = I 21 j := by
    intro j hj
    unfold SI
    rw [mm_o (by decide), stI_ne (fun q => hj q.2), va_up_ne _ _ (by decide), KI_b a2 (by decide) (by decide)]
  refine rel_mut h hr ?_ (fun u h1 h2 => ?_) (fun u h1 h2 => ?_) ?_ ?_ ?_ ?_ (WT_of h.2.2.2.2.2.2.2.2.2.2 (fun u hu => hb u (by omega) (by omega) (by omega) (by omega)) ⟨h21 1 (by decide), h21 4 (by decide)⟩)
  · unfold SI
    rw [mm_o (by decide), stI_r (by decide), va_up_self]
  · unfold SI
    rw [mm_o (by omega), stI_r (by omega), va_up_ne _ _ (by omega)]
  · rw [mL_o (by omega), va_up_ne _ _ (by omega)]
  · unfold SI
    rw [mm_o (by decide), stI_r (by decide), va_up_ne _ _ (by decide)]
    unfold KI kpI
    rw [stI_self]
  · unfold SI
    rw [mm_o (by decide), stI_self]
  · exact va_up_self _ _ _
  · rw [mL_o (show (0 : Nat) ≠ 20 by decide), va_up_self]
    exact va_up_self _ _ _
