/-! ===== one call of each, alike ===== -/
def STP {α : Type} (mk : α → Value) (l : Launch) (ret : Option FieldType) (y7 : MethodName) (c7 : ByteArray) (n7 d7 : Nat) (as7 : List Value) (y8 : MethodName) (c8 : ByteArray) (n8 d8 : Nat) (as8 : List Value) (I : MI) (L : ML) (R : MR) : Prop :=
  ∃ (ta : α) (I1 I2 : MI) (L1 L2 : ML) (R1 : MR), Ok l y7 c7 n7 ret d7 0 0 as7 I L R 287 (eqP (some (mk ta)) I1 L1 R1 287) ∧ Ok l y8 c8 n8 ret d8 0 0 as8 I1 L1 R1 287 (eqP (some (mk ta)) I2 L2 R1 287) ∧ RLx I2 L2 R1
theorem cR (lo hi : Nat) (b : Int32) (h : lo ≤ hi) (hh : hi < 2 ^ 31) : (b < nI lo ∨ nI hi < b) ∨ ∃ v, lo ≤ v ∧ v ≤ hi ∧ b = nI v := by
  by_cases h0 : b < 0
  · refine Or.inl (Or.inl ?_)
    have : (0 : Int32) ≤ nI lo := nI_pos' (by omega)
    rw [Int32.lt_iff_toInt_lt] at h0 ⊢
    rw [Int32.le_iff_toInt_le] at this
    omega
  · obtain ⟨v, hv, rfl⟩ := nI_of h0
    by_cases h1 : v < lo
    · exact Or.inl (Or.inl (nI_lt h1 (by omega)))
    · by_cases h2 : hi < v
      · exact Or.inl (Or.inr (nI_lt h2 hv))
      · exact Or.inr ⟨v, by omega, by omega, rfl⟩
theorem cC (a : Int32) : noC a ∨ ∃ c, c < 5 ∧ a = nI c := by
  rcases cR 0 4 a (by decide) (by decide) with h | ⟨v, _, h2, rfl⟩
  · exact Or.inl h
  · exact Or.inr ⟨v, by omega, rfl⟩
theorem cO (a : Int32) : noO a ∨ ∃ c, c < 1000 ∧ a = nI c := by
  rcases cR 0 999 a (by decide) (by decide) with h | ⟨v, _, h2, rfl⟩
  · exact Or.inl h
  · exact Or.inr ⟨v, by omega, rfl⟩
theorem cOf (a b : Int32) : (noC a ∨ noO b) ∨ ∃ c x, c < 5 ∧ x < 1000 ∧ a = nI c ∧ b = nI x := by
  rcases cC a with h | ⟨c, hc, e⟩
  · exact Or.inl (Or.inl h)
  · rcases cO b with h | ⟨x, hx, e2⟩
    · exact Or.inl (Or.inr h)
    · exact Or.inr ⟨c, x, hc, hx, e, e2⟩
theorem cPf (a b : Int32) : (noC a ∨ noC b ∨ a = b) ∨ ∃ c d, c < 5 ∧ d < 5 ∧ c ≠ d ∧ a = nI c ∧ b = nI d := by
  rcases cC a with h | ⟨c, hc, e⟩
  · exact Or.inl (Or.inl h)
  · rcases cC b with h | ⟨x, hx, e2⟩
    · exact Or.inl (Or.inr (Or.inl h))
    · by_cases hcx : c = x
      · exact Or.inl (Or.inr (Or.inr (by rw [e, e2, hcx])))
      · exact Or.inr ⟨c, x, hc, hx, hcx, e, e2⟩
section B44
variable {l : Launch} {I : MI} {L : ML} {R : MR} {sg : Nat → Nat} {k n : Nat} {X : Row} {Y : Msk} {ws : List Nat}
variable {α : Type} {mk : α → Value} {ta : α} {ret : Option FieldType} {y7 y8 : MethodName} {c7 c8 : ByteArray} {n7 d7 n8 d8 : Nat} {as7 as8 : List Value} {r' : Row} {m' : Msk}
theorem stepR (h : Rel I L R sg k X Y ws n) (o1 : Ok l y7 c7 n7 ret d7 0 0 as7 I L R 287 (eqP (some (mk ta)) I L R 287)) (o2 : Ok l y8 c8 n8 ret d8 0 0 as8 (mm I (I 0) X) (mL L (L 0) Y) R 287 (eqP (some (mk ta)) (mm I (I 0) X) (mL L (L 0) Y) R 287)) : STP mk l ret y7 c7 n7 d7 as7 y8 c8 n8 d8 as8 I L R := by
  rw [mm_id h.2.2.2.2.2.2.2.2.1, mL_id h.2.2.2.2.2.2.2.2.2.1] at o2
  exact ⟨ta, I, I, L, L, R, o1, o2, ⟨sg, k, X, Y, ws, n, h⟩⟩
theorem mutJ (h : Rel I L R sg k X Y ws n) : mm (va_up (KI I sg k) 0 r') (I 0) X = va_up (KI I sg k) 0 r' ∧ va_up (KI I sg k) 0 r' 21 0 = nI k ∧ MF (va_up (KI I sg k) 0 r') := by
  have a2 := h.2.1
  refine ⟨mm_id ?_, ?_, fun f hf => ?_⟩
  · rw [va_up_ne _ _ (by decide), KI_b a2 (by decide) (by decide)]
    exact h.2.2.2.2.2.2.2.2.1
  · rw [va_up_ne _ _ (by decide), KI_b a2 (by decide) (by decide)]
    exact h.2.2.2.2.1
  · rw [va_up_ne _ _ (by decide), KI_b a2 (by decide) (by decide), va_up_ne _ _ (by decide), KI_b a2 (by decide) (by decide)]
    exact h.2.2.2.2.2.2.2.2.2.2.1 f hf
theorem KL_b {u : Nat} (hH : HS R sg) (hu : 5 ≤ u) : KL L sg k u = L u := by
  unfold KL kpL
  have := kt_rng (k := k) hH
  rw [va_up_ne _ _ (by omega)]
theorem mutT (h : Rel I L R sg k X Y ws n) : mL (va_up (KL L sg k) 0 m') (L 0) Y = va_up (KL L sg k) 0 m' := by
  refine mL_id ?_
  rw [va_up_ne _ _ (by decide), KL_b h.2.1 (by decide)]
  exact h.2.2.2.2.2.2.2.2.2.1
theorem stepM (h : Rel I L R sg k X Y ws n) (hr : Inv r') (o1 : Ok l y7 c7 n7 ret d7 0 0 as7 I L R 287 (eqP (some (mk ta)) (va_up (KI I sg k) 0 r') (va_up (KL L sg k) 0 m') (KR R sg k) 287)) (o2 : Ok l y8 c8 n8 ret d8 0 0 as8 (mm (va_up (KI I sg k) 0 r') (I 0) X) (mL (va_up (KL L sg k) 0 m') (L 0) Y) (KR R sg k) 287 (eqP (some (mk ta)) (mm (SI (va_up (KI I sg k) 0 r') k) r' (SX k (I 0) X)) (mL (va_up (KL L sg k) 0 m') m' (SY k (L 0) Y)) (KR R sg k) 287)) : STP mk l ret y7 c7 n7 d7 as7 y8 c8 n8 d8 as8 I L R := by
  rw [(mutJ h).1, mutT h] at o2
  exact ⟨ta, _, _, _, _, _, o1, o2, rel_std h hr⟩
theorem KLid (h : Rel I L R sg k X Y ws n) : va_up (KL L sg k) 0 (L 0) = KL L sg k := by
  have := up_id (KL L sg k) 0
  rw [KL_0 h.2.1] at this
  exact this
theorem stepN (h : Rel I L R sg k X Y ws n) (hr : Inv r') (o1 : Ok l y7 c7 n7 ret d7 0 0 as7 I L R 287 (eqP (some (mk ta)) (va_up (KI I sg k) 0 r') (KL L sg k) (KR R sg k) 287)) (o2 : Ok l y8 c8 n8 ret d8 0 0 as8 (mm (va_up (KI I sg k) 0 r') (I 0) X) (mL (KL L sg k) (L 0) Y) (KR R sg k) 287 (eqP (some (mk ta)) (mm (SI (va_up (KI I sg k) 0 r') k) r' (SX k (I 0) X)) (mL (KL L sg k) (L 0) (SY k (L 0) Y)) (KR R sg k) 287)) : STP mk l ret y7 c7 n7 d7 as7 y8 c8 n8 d8 as8 I L R := by
  rw [← KLid h] at o1 o2
  exact stepM h hr o1 o2
theorem s_setFilters {a b : Int32} (h : RLx I L R) : STP .int l (some .int) yX7_setFilters cX7_setFilters 4 6 [.ref 0, .int a, .int b] yX8_setFilters cX8_setFilters 6 3 [.ref 278, .int a, .int b] I L R := by
  obtain ⟨sg, k, X, Y, ws, n, h⟩ := h
  obtain ⟨a1, a2, a3, a4, a5, a6, a7, -⟩ := id h
  rcases cR 8 64 a (by decide) (by decide) with ha | ⟨M, h1, h2, rfl⟩
  · exact stepR h (d_setFilters_no (Or.inl ha)) (e_setFilters_no (Or.inl ha))
  · rcases cR 1 4 b (by decide) (by decide) with hb | ⟨K, h3, h4, rfl⟩
    · exact stepR h (d_setFilters_no (Or.inr hb)) (e_setFilters_no (Or.inr hb))
    · obtain ⟨j1, j2, j3⟩ := mutJ (r' := rFil M K (I 0)) h
      exact stepM h (rFil_Inv a7 h1 h2 h3 h4) (d_setFilters a1 a2 a4 a6 a7 h1 h2 h3 h4 rfl rfl) (e_setFilters (KRS a1) j3 j2 a6 a7 h1 h2 h3 h4 rfl rfl rfl)
theorem s_setCapacity {a b : Int32} (h : RLx I L R) : STP .int l (some .int) yX7_setCapacity cX7_setCapacity 4 6 [.ref 0, .int a, .int b] yX8_setCapacity cX8_setCapacity 5 3 [.ref 278, .int a, .int b] I L R := by
  obtain ⟨sg, k, X, Y, ws, n, h⟩ := h
  obtain ⟨a1, a2, a3, a4, a5, a6, a7, -⟩ := id h
  rcases cC a with ha | ⟨c, hc, rfl⟩
  · exact stepR h (d_setCapacity_no1 ha) (e_setCapacity_no1 ha)
  · rcases cR 1 16 b (by decide) (by decide) with hb | ⟨v, h1, h2, rfl⟩
    · exact stepR h (d_setCapacity_no2 hc hb) (e_setCapacity_no2 hc hb)
    · obtain ⟨j1, j2, j3⟩ := mutJ (r' := rLim c v (I 0)) h
      exact stepN h (rLim_Inv a7 hc h1 h2) (d_setCapacity a1 a2 a4 a6 a7 hc h1 h2 rfl) (e_setCapacity (KRS a1) j3 j2 a6 a7 hc h1 h2 rfl rfl)
theorem lnk_Inv {r : Row} {a b : Nat} {v : Int32} (h : Inv r) (hb : b < 5) : Inv (va_up r (96 + 110 * a + b) v) := Inv_o h (fun j h1 h2 h3 => va_up_ne _ _ (by omega)) (fun c hc j h1 h2 => va_up_ne _ _ (by omega)) (fun c hc j h1 h2 => va_up_ne _ _ (by omega))
theorem s_setLink {a b u : Int32} (h : RLx I L R) : STP .int l (some .int) yX7_setLink cX7_setLink 6 6 [.ref 0, .int a, .int b, .int u] yX8_setLink cX8_setLink 5 2 [.ref 278, .int a, .int b, .int u] I L R := by
  obtain ⟨sg, k, X, Y, ws, n, h⟩ := h
  obtain ⟨a1, a2, a3, a4, a5, a6, a7, -⟩ := id h
  rcases cPf a b with hn | ⟨c, d, hc, hd, hne, rfl, rfl⟩
  · exact stepR h (d_setLink_no hn) (e_setLink_no hn)
  · obtain ⟨j1, j2, j3⟩ := mutJ (r' := va_up (I 0) (96 + 110 * c + d) (if u = 0 then nI 0 else nI 1)) h
    exact stepN h (lnk_Inv a7 hd) (d_setLink a1 a2 a4 a6 a7 hc hd hne rfl) (e_setLink (KRS a1) j2 a6 hc hd hne rfl rfl)
theorem far_Inv {r : Row} {a b d : Nat} (h : Inv r) (hb : b < 5) (hd : d ≤ 99) : Inv (va_up r (101 + 110 * a + b) (nI d)) := by
  obtain ⟨h1, h2, h3, h4, q, h5, h6⟩ := h
  refine ⟨IM_of h1 (va_up_ne _ _ (by omega)) (va_up_ne _ _ (by omega)), fun c hc => IC_of (h2 c hc) (fun j z1 z2 => va_up_ne _ _ (by omega)), fun c hc t ht => ?_, by rw [va_up_ne _ _ (by omega)]; exact h4, q, h5, by rw [va_up_ne _ _ (by omega)]; exact h6⟩
  by_cases e : 101 + 110 * c + t = 101 + 110 * a + b
  · rw [e, va_up_self]
    exact nI_lt (by omega) (by decide)
  · rw [va_up_ne _ _ e]
    exact h3 c hc t ht
theorem s_setDistance {a b u : Int32} (h : RLx I L R) : STP .int l (some .int) yX7_setDistance cX7_setDistance 6 6 [.ref 0, .int a, .int b, .int u] yX8_setDistance cX8_setDistance 5 2 [.ref 278, .int a, .int b, .int u] I L R := by
  obtain ⟨sg, k, X, Y, ws, n, h⟩ := h
  obtain ⟨a1, a2, a3, a4, a5, a6, a7, -⟩ := id h
  rcases cPf a b with hn | ⟨c, d, hc, hd, hne, rfl, rfl⟩
  · exact stepR h (d_setDistance_no1 hn) (e_setDistance_no1 hn)
  · rcases cR 0 99 u (by decide) (by decide) with hb | ⟨v, h1, h2, rfl⟩
    · exact stepR h (d_setDistance_no2 hc hd hne hb) (e_setDistance_no2 hc hd hne hb)
    · obtain ⟨j1, j2, j3⟩ := mutJ (r' := va_up (I 0) (101 + 110 * c + d) (nI v)) h
      exact stepN h (far_Inv a7 hd h2) (d_setDistance a1 a2 a4 a6 a7 hc hd hne h2 rfl) (e_setDistance (KRS a1) j2 a6 hc hd hne h2 rfl rfl)
theorem rul_Inv {r : Row} {a q : Nat} {b : Int32} (h : Inv r) (hq : q ≤ 4) (hb2 : b = nI 0 ∨ b = nI 1) : Inv (va_up (va_up (va_up r 3 (nI a)) 4 b) 5 (nI q)) := by
  have e : ∀ j, j ≠ 3 → j ≠ 4 → j ≠ 5 → va_up (va_up (va_up r 3 (nI a)) 4 b) 5 (nI q) j = r j := fun j h1 h2 h3 => by rw [va_up_ne _ _ h3, va_up_ne _ _ h2, va_up_ne _ _ h1]
  obtain ⟨h1, h2, h3, h4, q', h5, h6⟩ := h
  refine ⟨IM_of h1 (e _ (by decide) (by decide) (by decide)) (e _ (by decide) (by decide) (by decide)), fun c hc => IC_of (h2 c hc) (fun j z1 z2 => e j (by omega) (by omega) (by omega)), fun c hc => ID_of (h3 c hc) (fun j z1 z2 => e j (by omega) (by omega) (by omega)), ?_, q, hq, va_up_self _ _ _⟩
  rw [va_up_ne _ _ (by decide), va_up_self]
  exact hb2
theorem s_setRules {a b u : Int32} (h : RLx I L R) (hb2 : b = nI 0 ∨ b = nI 1) : STP .int l (some .int) yX7_setRules cX7_setRules 5 6 [.ref 0, .int a, .int b, .int u] yX8_setRules cX8_setRules 5 2 [.ref 278, .int a, .int b, .int u] I L R := by
  obtain ⟨sg, k, X, Y, ws, n, h⟩ := h
  obtain ⟨a1, a2, a3, a4, a5, a6, a7, -⟩ := id h
  rcases cR 0 1000 a (by decide) (by decide) with ha | ⟨v, -, h1, rfl⟩
  · exact stepR h (d_setRules_no (Or.inl ha)) (e_setRules_no (Or.inl ha))
  · rcases cR 0 4 u (by decide) (by decide) with hb | ⟨q, -, h4, rfl⟩
    · exact stepR h (d_setRules_no (Or.inr hb)) (e_setRules_no (Or.inr hb))
    · obtain ⟨j1, j2, j3⟩ := mutJ (r' := va_up (va_up (va_up (I 0) 3 (nI v)) 4 b) 5 (nI q)) h
      exact stepN h (rul_Inv a7 h4 hb2) (d_setRules a1 a2 a4 a6 a7 h1 h4 hb2 rfl) (e_setRules (KRS a1) j2 a6 h1 h4 hb2 rfl rfl)
theorem tim_Inv {r : Row} {v : Int32} (h : Inv r) : Inv (va_up r 2 v) := Inv_o h (fun j h1 h2 h3 => va_up_ne _ _ (by omega)) (fun c hc j h1 h2 => va_up_ne _ _ (by omega)) (fun c hc j h1 h2 => va_up_ne _ _ (by omega))
theorem s_pass {a : Int32} (h : RLx I L R) : STP .int l (some .int) yX7_pass cX7_pass 2 6 [.ref 0, .int a] yX8_pass cX8_pass 2 2 [.ref 278, .int a] I L R := by
  obtain ⟨sg, k, X, Y, ws, n, h⟩ := h
  obtain ⟨a1, a2, a3, a4, a5, a6, a7, -⟩ := id h
  rcases cR 1 1000 a (by decide) (by decide) with ha | ⟨v, h1, h2, rfl⟩
  · exact stepR h (d_pass_no1 ha) (e_pass_no1 ha)
  · by_cases ht : (1000000 : Int32) < I 0 2 + nI v
    · exact stepR h (d_pass_no2 a1 h1 h2 ht) (e_pass_no2 a1 h1 h2 ht)
    · obtain ⟨j1, j2, j3⟩ := mutJ (r' := va_up (I 0) 2 (I 0 2 + nI v)) h
      exact stepN h (tim_Inv a7) (d_pass a1 a2 a4 a6 a7 h1 h2 ht rfl) (e_pass (KRS a1) j2 a6 h1 h2 ht rfl rfl)
theorem s_store {a b : Int32} (h : RLx I L R) : STP .int l (some .int) yX7_store cX7_store 4 6 [.ref 0, .int a, .int b] yX8_store cX8_store 4 4 [.ref 278, .int a, .int b] I L R := by
  obtain ⟨sg, k, X, Y, ws, n, h⟩ := h
  obtain ⟨a1, a2, a3, a4, a5, a6, a7, -⟩ := id h
  rcases cOf a b with hn | ⟨c, x, hc, hx, rfl, rfl⟩
  · exact stepR h (d_store_no hn) (e_store_no hn)
  · obtain ⟨j1, j2, j3⟩ := mutJ (r' := rTake c x (I 0)) h
    exact stepN h (rTake_Inv a7 hc hx) (d_store a1 a2 a4 a6 a7 hc hx rfl) (e_store (KRS a1) j3 j2 a6 a7 hc hx rfl rfl)
theorem s_drop {a b : Int32} (h : RLx I L R) : STP .int l (some .int) yX7_drop cX7_drop 6 6 [.ref 0, .int a, .int b] yX8_drop cX8_drop 5 3 [.ref 278, .int a, .int b] I L R := by
  obtain ⟨sg, k, X, Y, ws, n, h⟩ := h
  obtain ⟨a1, a2, a3, a4, a5, a6, a7, -⟩ := id h
  rcases cOf a b with hn | ⟨c, x, hc, hx, rfl, rfl⟩
  · exact stepR h (d_drop_no1 hn) (e_drop_no1 hn)
  · cases hf : rFind c x (I 0) with
    | none => exact stepR h (d_drop_no2 a1 a7 hc hx hf) (e_drop_no2 a1 a7 hc hx hf)
    | some i =>
      obtain ⟨j1, j2, j3⟩ := mutJ (r' := rRem c i (I 0)) h
      exact stepN h (rRem_Inv a7 hc (fdx_lt hf).1) (d_drop a1 a2 a4 a6 a7 hc hx hf rfl) (e_drop (KRS a1) j3 j2 a6 a7 hc hx hf rfl)
theorem s_publish {a : Int32} (h : RLx I L R) : STP .int l (some .int) yX7_publish cX7_publish 2 6 [.ref 0, .int a] yX8_publish cX8_publish 9 2 [.ref 278, .int a] I L R := by
  obtain ⟨sg, k, X, Y, ws, n, h⟩ := h
  obtain ⟨a1, a2, a3, a4, a5, a6, a7, -⟩ := id h
  rcases cC a with ha | ⟨c, hc, rfl⟩
  · exact stepR h (d_publish_no ha) (e_publish_no ha)
  · obtain ⟨j1, j2, j3⟩ := mutJ (r' := rPub c (I 0) (L 0)) h
    exact stepM h (rPub_Inv a7 hc) (d_publish a1 a2 a4 a6 a7 hc rfl rfl rfl) (e_publish (KRS a1) j3 j2 a6 a7 hc rfl rfl rfl)
theorem s_size {a : Int32} (h : RLx I L R) : STP .int l (some .int) yX7_size cX7_size 2 2 [.ref 0, .int a] yX8_size cX8_size 2 2 [.ref 278, .int a] I L R := by
  obtain ⟨sg, k, X, Y, ws, n, h⟩ := h
  rcases cC a with ha | ⟨c, hc, rfl⟩
  · exact stepR h (d_size_no ha) (e_size_no ha)
  · exact stepR h (d_size h.1 hc) (e_size h.1 hc)
theorem s_version {a : Int32} (h : RLx I L R) : STP .int l (some .int) yX7_version cX7_version 2 2 [.ref 0, .int a] yX8_version cX8_version 2 2 [.ref 278, .int a] I L R := by
  obtain ⟨sg, k, X, Y, ws, n, h⟩ := h
  rcases cC a with ha | ⟨c, hc, rfl⟩
  · exact stepR h (d_version_no ha) (e_version_no ha)
  · exact stepR h (d_version h.1 hc) (e_version h.1 hc)
theorem s_held {a b : Int32} (h : RLx I L R) : STP .int l (some .int) yX7_held cX7_held 3 2 [.ref 0, .int a, .int b] yX8_held cX8_held 3 2 [.ref 278, .int a, .int b] I L R := by
  obtain ⟨sg, k, X, Y, ws, n, h⟩ := h
  have hI := h.2.2.2.2.2.2.1
  rcases cC a with ha | ⟨c, hc, rfl⟩
  · exact stepR h (d_held_no1 ha) (e_held_no1 ha)
  · by_cases hb : b < nI 0 ∨ I 0 (7 + 110 * c) - nI 1 < b
    · exact stepR h (d_held_no2 h.1 hc hb) (e_held_no2 h.1 hc hb)
    · obtain ⟨i, hi, rfl⟩ := nI_of (fun z => hb (Or.inl z))
      have hi2 : i < gS (I 0) c := by
        obtain ⟨i1, i2, -⟩ := (hI.2.1 c hc).1
        have h2 : ¬ I 0 (7 + 110 * c) - nI 1 < nI i := fun z => hb (Or.inr z)
        rw [i1, Int32.lt_iff_toInt_lt, pk_sub_toInt (by omega) (by decide), nI_toInt hi] at h2
        omega
      exact stepR h (d_held h.1 hI hc hi2) (e_held h.1 hI hc hi2)
theorem s_counter {a b : Int32} (h : RLx I L R) : STP .int l (some .int) yX7_counter cX7_counter 3 2 [.ref 0, .int a, .int b] yX8_counter cX8_counter 3 2 [.ref 278, .int a, .int b] I L R := by
  obtain ⟨sg, k, X, Y, ws, n, h⟩ := h
  have hI := h.2.2.2.2.2.2.1
  rcases cC a with ha | ⟨c, hc, rfl⟩
  · exact stepR h (d_counter_no1 ha) (e_counter_no1 ha)
  · by_cases hb : b < nI 0 ∨ I 0 0 - nI 1 < b
    · exact stepR h (d_counter_no2 h.1 hc hb) (e_counter_no2 h.1 hc hb)
    · obtain ⟨i, hi, rfl⟩ := nI_of (fun z => hb (Or.inl z))
      have hi2 : i < gM (I 0) := by
        obtain ⟨m1, m2, m3, -⟩ := hI.1
        have h2 : ¬ I 0 0 - nI 1 < nI i := fun z => hb (Or.inr z)
        rw [m1, Int32.lt_iff_toInt_lt, pk_sub_toInt (by omega) (by decide), nI_toInt hi] at h2
        omega
      exact stepR h (d_counter h.1 hI hc hi2) (e_counter h.1 hI hc hi2)
theorem s_value {a b : Int32} (h : RLx I L R) : STP .int l (some .int) yX7_value cX7_value 3 2 [.ref 0, .int a, .int b] yX8_value cX8_value 3 2 [.ref 278, .int a, .int b] I L R := by
  obtain ⟨sg, k, X, Y, ws, n, h⟩ := h
  have hI := h.2.2.2.2.2.2.1
  rcases cO a with ha | ⟨x, hx, rfl⟩
  · exact stepR h (d_value_no1 ha) (e_value_no1 ha)
  · by_cases hb : b < nI 0 ∨ I 0 1 - nI 1 < b
    · exact stepR h (d_value_no2 h.1 hx hb) (e_value_no2 h.1 hx hb)
    · obtain ⟨i, hi, rfl⟩ := nI_of (fun z => hb (Or.inl z))
      have hi2 : i < gK (I 0) := by
        obtain ⟨m1, m2, m3, m4, m5, m6⟩ := hI.1
        have h2 : ¬ I 0 1 - nI 1 < nI i := fun z => hb (Or.inr z)
        rw [m4, Int32.lt_iff_toInt_lt, pk_sub_toInt (by omega) (by decide), nI_toInt hi] at h2
        omega
      exact stepR h (d_value h.1 hI hx hi2) (e_value h.1 h.2.2.2.2.2.2.2.2.2.2.1 hI hx hi2)
theorem s_holds {a b : Int32} (h : RLx I L R) : STP .int l (some .int) yX7_holds cX7_holds 4 3 [.ref 0, .int a, .int b] yX8_holds cX8_holds 4 3 [.ref 278, .int a, .int b] I L R := by
  obtain ⟨sg, k, X, Y, ws, n, h⟩ := h
  have hI := h.2.2.2.2.2.2.1
  rcases cOf a b with hn | ⟨c, x, hc, hx, rfl, rfl⟩
  · exact stepR h (d_holds_no hn) (e_holds_no hn)
  · exact stepR h (d_holds h.1 hI hc hx) (e_holds h.1 hI hc hx)
theorem s_mayHold {a b : Int32} (h : RLx I L R) : STP .int l (some .int) yX7_mayHold cX7_mayHold 4 3 [.ref 0, .int a, .int b] yX8_mayHold cX8_mayHold 4 3 [.ref 278, .int a, .int b] I L R := by
  obtain ⟨sg, k, X, Y, ws, n, h⟩ := h
  have hI := h.2.2.2.2.2.2.1
  rcases cOf a b with hn | ⟨c, x, hc, hx, rfl, rfl⟩
  · exact stepR h (d_mayHold_no hn) (e_mayHold_no hn)
  · exact stepR h (d_mayHold h.1 hI hc hx) (e_mayHold h.1 h.2.2.2.2.2.2.2.2.2.2.1 hI hc hx)
theorem s_chance {a : Int32} (h : RLx I L R) : STP .int l (some .int) yX7_chance cX7_chance 2 2 [.ref 0, .int a] yX8_chance cX8_chance 2 2 [.ref 278, .int a] I L R := by
  obtain ⟨sg, k, X, Y, ws, n, h⟩ := h
  have hI := h.2.2.2.2.2.2.1
  rcases cC a with ha | ⟨c, hc, rfl⟩
  · exact stepR h (d_chance_no ha) (e_chance_no ha)
  · exact stepR h (d_chance h.1 hI hc) (e_chance h.1 hI hc)
theorem s_wrong {a : Int32} (h : RLx I L R) : STP .int l (some .int) yX7_wrong cX7_wrong 2 3 [.ref 0, .int a] yX8_wrong cX8_wrong 6 2 [.ref 278, .int a] I L R := by
  obtain ⟨sg, k, X, Y, ws, n, h⟩ := h
  have hI := h.2.2.2.2.2.2.1
  rcases cC a with ha | ⟨c, hc, rfl⟩
  · exact stepR h (d_wrong_no ha) (e_wrong_no ha)
  · generalize hta : fWr (I 0) c (gM (I 0)) (gK (I 0)) (gS (I 0) c) (rBits c (I 0)) 1000 = ta
    exact stepR h (d_wrong h.1 hI hc hta) (e_wrong h.1 h.2.2.2.2.2.2.2.2.2.2.1 hI hc hta)
theorem s_count {a b : Int32} (h : RLx I L R) : STP .int l (some .int) yX7_count cX7_count 3 2 [.ref 0, .int a, .int b] yX8_count cX8_count 3 2 [.ref 278, .int a, .int b] I L R := by
  obtain ⟨sg, k, X, Y, ws, n, h⟩ := h
  rcases cC a with ha | ⟨c, hc, rfl⟩
  · exact stepR h (d_count_no1 ha) (e_count_no1 ha)
  · rcases cR 0 6 b (by decide) (by decide) with hb | ⟨v, -, h2, rfl⟩
    · exact stepR h (d_count_no2 hc hb) (e_count_no2 hc hb)
    · exact stepR h (d_count h.1 hc h2) (e_count h.1 hc h2)
theorem s_copy {a b w : Int32} (h : RLx I L R) : STP .int l (some .int) yX7_copy cX7_copy 6 3 [.ref 0, .int a, .int b, .int w] yX8_copy cX8_copy 6 2 [.ref 278, .int a, .int b, .int w] I L R := by
  obtain ⟨sg, k, X, Y, ws, n, h⟩ := h
  have hI := h.2.2.2.2.2.2.1
  rcases cPf a b with hn | ⟨c, d, hc, hd, hne, rfl, rfl⟩
  · exact stepR h (d_copy_no hn) (e_copy_no hn)
  · rcases cR 0 4 w (by decide) (by decide) with hw | ⟨v, -, h2, rfl⟩
    · have hw2 : w.toInt < 0 ∨ 4 < w.toInt := by
        rcases hw with z | z
        · exact Or.inl (by rw [Int32.lt_iff_toInt_lt] at z; exact z)
        · exact Or.inr (by rw [Int32.lt_iff_toInt_lt] at z; exact z)
      exact stepR h (d_copy_out h.1 hc hd hne hw2) (e_copy_out h.1 hc hd hne hw2)
    · rcases (show v = 0 ∨ v = 1 ∨ v = 2 ∨ v = 3 ∨ v = 4 by omega) with rfl | rfl | rfl | rfl | rfl
      · exact stepR h (d_copy_0 h.1 hc hd hne) (e_copy_0 h.1 hc hd hne)
      · exact stepR h (d_copy_1 h.1 hc hd hne) (e_copy_1 h.1 hc hd hne)
      · exact stepR h (d_copy_2 h.1 hc hd hne) (e_copy_2 h.1 hc hd hne)
      · exact stepR h (d_copy_3 h.1 hc hd hne) (e_copy_3 h.1 hc hd hne)
      · exact stepR h (d_copy_4 h.1 hI hc hd hne) (e_copy_4 h.1 hI hc hd hne)
theorem s_mask {a b : Int32} (h : RLx I L R) : STP .long l (some .long) yX7_mask cX7_mask 4 3 [.ref 0, .int a, .int b] yX8_mask cX8_mask 3 2 [.ref 278, .int a, .int b] I L R := by
  obtain ⟨sg, k, X, Y, ws, n, h⟩ := h
  rcases cPf a b with hn | ⟨c, d, hc, hd, hne, rfl, rfl⟩
  · exact stepR h (d_mask_no hn) (e_mask_no hn)
  · exact stepR h (d_mask h.1 hc hd hne) (e_mask h.1 hc hd hne)
theorem s_expects {a b x : Int32} (h : RLx I L R) : STP .int l (some .int) yX7_expects cX7_expects 5 3 [.ref 0, .int a, .int b, .int x] yX8_expects cX8_expects 4 3 [.ref 278, .int a, .int b, .int x] I L R := by
  obtain ⟨sg, k, X, Y, ws, n, h⟩ := h
  have hI := h.2.2.2.2.2.2.1
  rcases cPf a b with hn | ⟨c, d, hc, hd, hne, rfl, rfl⟩
  · exact stepR h (d_expects_no1 hn) (e_expects_no1 hn)
  · rcases cO x with hx | ⟨v, hv, rfl⟩
    · exact stepR h (d_expects_no2 hc hd hne hx) (e_expects_no2 hc hd hne hx)
    · exact stepR h (d_expects h.1 hI hc hd hne hv) (e_expects h.1 h.2.2.2.2.2.2.2.2.2.2.1 hI hc hd hne hv)
end B44
