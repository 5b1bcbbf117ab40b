/-! ===== one call of each, alike: the others ===== -/
section B45
variable {l : Launch} {I : MI} {L : ML} {R : MR} {sg : Nat → Nat} {k n : Nat} {X : Row} {Y : Msk} {ws : List Nat}
theorem rel_oth {I2 : MI} {L2 : ML} {n2 : Nat} {ws2 : List Nat} (h : Rel I L R sg k X Y ws n) (e : ∀ u, u ≤ 4 ∨ u = 15 ∨ u = 20 → I2 u = I u) (eL : ∀ u, u ≤ 4 ∨ u = 20 → L2 u = L u) (e21 : I2 21 0 = I 21 0) (hw : WT I2 ws2 n2) : RLx I2 L2 R := by
  obtain ⟨a1, a2, a3, a4, a5, a6, a7, a8, a9, a10, a11⟩ := h
  refine ⟨sg, k, X, Y, ws2, n2, a1, a2, a3, by rw [e 15 (by omega)]; exact a4, by rw [e21]; exact a5, a6, by rw [e 0 (by omega)]; exact a7, fun j hj => ?_, by rw [e 20 (by omega), e 0 (by omega)]; exact a9, by rw [eL 20 (by omega), eL 0 (by omega)]; exact a10, hw⟩
  have := (a2 j (by omega)).2
  rw [e _ (by omega), eL _ (by omega)]
  exact a8 j hj
theorem s_sized {a b : Int32} (h : RLx I L R) : STP .int l (some .int) yX7_sized cX7_sized 6 3 [.ref 0, .int a, .int b] yX8_sized cX8_sized 9 2 [.ref 278, .int a, .int b] I L R := by
  obtain ⟨sg, k, X, Y, ws, n, h⟩ := h
  have hI := h.2.2.2.2.2.2.1
  rcases cC a with ha | ⟨c, hc, rfl⟩
  · exact stepR h (d_sized_no1 ha) (e_sized_no1 ha)
  · rcases cR 0 1000 b (by decide) (by decide) with hb | ⟨v, -, h2, rfl⟩
    · exact stepR h (d_sized_no2 hc hb) (e_sized_no2 hc hb)
    · have hA := szM_B (r := I 0) (c := c) (lim := nI v) 57 (I 13)
      generalize hta : szB (I 0) c (nI v) 57 = ta at hA
      generalize hT : va_up I 13 (szM (I 0) c (nI v) 57 (I 13)).1 = TI
      have e : ∀ u, u ≠ 13 → TI u = I u := fun u hu => by rw [← hT]; exact va_up_ne _ _ hu
      have hF : MF TI := fun f hf => by rw [e 22 (by decide), e 23 (by decide)]; exact h.2.2.2.2.2.2.2.2.2.2.1 f hf
      have hmm : mm TI (I 0) X = TI := mm_id (by rw [e 20 (by decide)]; exact h.2.2.2.2.2.2.2.2.1)
      have o2 := e_sized (l := l) (I := TI) (L := L) (X := X) h.1 hF hI hc h2 hta
      rw [hmm] at o2
      exact ⟨ta, TI, TI, L, L, R, d_sized h.1 hI hc h2 hT hA, o2, rel_oth h (fun u hu => e u (by omega)) (fun _ _ => rfl) (by rw [e 21 (by decide)]) (WT_of h.2.2.2.2.2.2.2.2.2.2 (fun u hu => e u (by omega)) ⟨by rw [e 21 (by decide)], by rw [e 21 (by decide)]⟩)⟩
theorem s_digest (h : RLx I L R) : STP .long l (some .long) yX7_digest cX7_digest 1 2 [.ref 0] yX8_digest cX8_digest 2 2 [.ref 278] I L R := by
  obtain ⟨sg, k, X, Y, ws, n, h⟩ := h
  have hI := h.2.2.2.2.2.2.1
  generalize hta : rHash (I 0) (L 0) = ta
  have o2 := e_digest (l := l) (I := I) (L := L) (X := X) (Y := Y) h.1 hI hta
  rw [mm_id h.2.2.2.2.2.2.2.2.1, mL_id h.2.2.2.2.2.2.2.2.2.1] at o2
  refine ⟨ta, I, I, L, _, R, d_digest h.1 hI hta, o2, rel_oth h (fun _ _ => rfl) (fun u hu => ?_) rfl h.2.2.2.2.2.2.2.2.2.2⟩
  rcases hu with hu | hu
  · rw [mL_o (by omega)]
    unfold hS stL
    rw [va_up_ne _ _ (by omega)]
  · rw [hu, h.2.2.2.2.2.2.2.2.2.1]
    exact va_up_self _ _ _
theorem s_way {a : Int32} (h : RLx I L R) : STP .int l (some .int) yX7_way cX7_way 2 0 [.ref 0, .int a] yX8_way cX8_way 2 0 [.ref 278, .int a] I L R := by
  obtain ⟨sg, k, X, Y, ws, n, h⟩ := h
  obtain ⟨-, ⟨w1, w2, w3, w4, w5⟩, -⟩ := h.2.2.2.2.2.2.2.2.2.2
  by_cases ha : a < 0
  · exact stepR h (d_way_no ha) (e_way_no ha)
  · obtain ⟨i, hi, rfl⟩ := nI_of ha
    by_cases hl : i < ws.length
    · have o1 := d_way (l := l) (L := L) h.1 w1 hl w2
      have o2 := e_way (l := l) (I := mm I (I 0) X) (L := mL L (L 0) Y) h.1 (by rw [mm_o (by decide)]; exact w4) hl w2
      rw [w3 i hl] at o1
      rw [show mm I (I 0) X 25 i = nI (ws.getD i 0) by rw [mm_o (by decide)]; exact w5 i hl] at o2
      exact stepR h o1 o2
    · exact stepR h (d_way_out h.1 w1 (by omega) hi) (e_way_out h.1 (by rw [mm_o (by decide)]; exact w4) (by omega) hi)
theorem s_undo (h : RLx I L R) : STP .int l (some .int) yX7_undo cX7_undo 1 6 [.ref 0] yX8_undo cX8_undo 1 1 [.ref 278] I L R := by
  obtain ⟨sg, k, X, Y, ws, n, h⟩ := h
  obtain ⟨a1, a2, a3, a4, a5, a6, a7, a8, a9, a10, a11⟩ := id h
  cases k with
  | zero => exact stepR h (d_undo_no a1 a4) (m_undo_no (l := l) a1 (by rw [mm_o (by decide)]; exact a5))
  | succ k =>
    obtain ⟨b1, b2, b3⟩ := a8 k (by omega)
    have hrg := (a2 k (by omega)).2
    generalize hT : va_up (stI I 15 0 (nI k)) 0 (ovr (I (sg k)) (I 0) 0 556) = TI
    generalize hTL : va_up L 0 (ovr (L (sg k)) (L 0) 0 30) = TL
    have e : ∀ u, u ≠ 0 → u ≠ 15 → TI u = I u := fun u h1 h2 => by rw [← hT, va_up_ne _ _ h1, stI_r h2]
    have e0 : ∀ i, i < 556 → TI 0 i = I (sg k) i := fun i hi => by
      rw [← hT, va_up_self]
      exact if_pos (by omega)
    have l0 : ∀ i, i < 30 → TL 0 i = L (sg k) i := fun i hi => by
      rw [← hTL, va_up_self]
      exact if_pos (by omega)
    have eL : ∀ u, u ≠ 0 → TL u = L u := fun u h1 => by rw [← hTL, va_up_ne _ _ h1]
    have o2 := m_undo (l := l) (I := TI) (L := TL) (r := I 0) (X := X) (m := L 0) (Y := Y) a1 (by rw [e 21 (by decide) (by decide)]; exact a5) (show k < 4 by omega)
    rw [mm_id (by rw [e 20 (by decide) (by decide)]; exact a9), mL_id (by rw [eL 20 (by decide)]; exact a10)] at o2
    refine ⟨nI k, TI, _, TL, _, R, d_undo a1 a2 a4 (by omega) rfl b1 hT hTL, o2, ⟨sg, k, X, Y, ws, n, a1, a2, a3, ?_, ?_, by omega, ?_, fun j hj => ?_, ?_, ?_, ?_⟩⟩
    · rw [mm_o (by decide), stI_r (by decide), ← hT, va_up_ne _ _ (by decide), stI_self]
    · rw [mm_o (by decide), stI_self]
    · rw [mm_o (by decide), stI_r (by decide)]
      exact Inv_cg b1 e0
    · have hj2 := (a2 j (by omega)).2
      rw [mm_o (by omega), stI_r (by omega), e _ (by omega) (by omega), mL_o (by omega), eL _ (by omega)]
      exact a8 j (by omega)
    · rw [mm_o (show (0 : Nat) ≠ 20 by decide), stI_r (show (0 : Nat) ≠ 21 by decide)]
      refine (va_up_self _ _ _).trans ?_
      funext i
      unfold sp
      by_cases hi : i < 556
      · rw [if_pos hi, if_pos hi, e0 i hi]
        exact b2 i hi
      · rw [if_neg hi, if_neg hi]
    · rw [mL_o (show (0 : Nat) ≠ 20 by decide)]
      refine (va_up_self _ _ _).trans ?_
      funext i
      unfold sq
      by_cases hi : i < 30
      · rw [if_pos hi, if_pos hi, l0 i hi]
        exact b3 i hi
      · rw [if_neg hi, if_neg hi]
    · refine WT_of a11 (fun u hu => ?_) ⟨?_, ?_⟩
      · rw [mm_o (by omega), stI_r (by omega), e _ (by omega) (by omega)]
      · rw [mm_o (by decide), stI_ne (by decide), e _ (by decide) (by decide)]
      · rw [mm_o (by decide), stI_ne (by decide), e _ (by decide) (by decide)]
theorem s_rebuild {a : Int32} (h : RLx I L R) : STP .int l (some .int) yX7_rebuild cX7_rebuild 3 6 [.ref 0, .int a] yX8_rebuild cX8_rebuild 4 3 [.ref 278, .int a] I L R := by
  obtain ⟨sg, k, X, Y, ws, n, h⟩ := h
  obtain ⟨a1, a2, a3, a4, a5, a6, a7, a8, a9, a10, a11⟩ := id h
  rcases cC a with ha | ⟨c, hc, rfl⟩
  · exact stepR h (d_rebuild_no ha) (e_rebuild_no ha)
  · generalize hT : va_up (cpI (KI I sg k) 0 (24 + 110 * c) 14 0 64) 0 (rNew c (I 0)) = TI
    have e : ∀ u, u ≠ 0 → u ≠ 14 → TI u = KI I sg k u := fun u h1 h2 => by
      rw [← hT, va_up_ne _ _ h1]
      exact va_up_ne _ _ h2
    have eb : ∀ u, 5 ≤ u → u ≠ 14 → u ≠ 15 → TI u = I u := fun u h1 h2 h3 => by rw [e u (by omega) h2, KI_b a2 h1 h3]
    have e0 : TI 0 = rNew c (I 0) := by rw [← hT, va_up_self]
    have hF : MF TI := fun f hf => by rw [eb 22 (by decide) (by decide) (by decide), eb 23 (by decide) (by decide) (by decide)]; exact a11.1 f hf
    have o2 := e_rebuild (l := l) (I := TI) (L := KL L sg k) (r := I 0) (X := X) (m := L 0) (Y := Y) (KRS (sg := sg) (k := k) a1) hF (by rw [eb 21 (by decide) (by decide) (by decide)]; exact a5) a6 a7 hc rfl rfl
    rw [mm_id (by rw [eb 20 (by decide) (by decide) (by decide)]; exact a9), mL_id (by rw [KL_b a2 (by decide)]; exact a10)] at o2
    have f : ∀ u, u ≠ 20 → u ≠ 21 → u ≠ 24 → mm (va_up (SI TI k) 24 (bfR c 64 (I 0) (TI 24))) (rNew c (I 0)) (SX k (I 0) X) u = TI u := fun u h1 h2 h3 => by
      unfold SI
      rw [mm_o h1, va_up_ne _ _ h3, stI_r h2]
    have f21 : ∀ j, j ≠ 0 → mm (va_up (SI TI k) 24 (bfR c 64 (I 0) (TI 24))) (rNew c (I 0)) (SX k (I 0) X) 21 j = I 21 j := fun j hj => by
      unfold SI
      rw [mm_o (by decide), va_up_ne _ _ (by decide), stI_ne (fun q => hj q.2), eb 21 (by decide) (by decide) (by decide)]
    refine ⟨_, TI, _, _, _, _, d_rebuild a1 a2 a4 a6 a7 hc hT, o2, rel_mut h (rNew_Inv a7 hc) ?_ (fun u h1 h2 => ?_) (fun u h1 h2 => ?_) ?_ ?_ ?_ ?_ (WT_of a11 (fun u hu => ?_) ⟨f21 1 (by decide), f21 4 (by decide)⟩)⟩
    · rw [f 0 (by decide) (by decide) (by decide), e0]
    · rw [f u (by omega) (by omega) (by omega), e u (by omega) (by omega)]
    · rw [mL_o (by omega)]
    · rw [f 15 (by decide) (by decide) (by decide), e 15 (by decide) (by decide)]
      unfold KI kpI
      rw [stI_self]
    · unfold SI
      rw [mm_o (by decide), va_up_ne _ _ (by decide), stI_self]
    · exact va_up_self _ _ _
    · rw [mL_o (show (0 : Nat) ≠ 20 by decide), KL_0 a2]
      exact va_up_self _ _ _
    · rw [f u (by omega) (by omega) (by omega), eb u (by omega) (by omega) (by omega)]
theorem s_request {a b w : Int32} (h : RLx I L R) : STP .int l (some .int) yX7_request cX7_request 5 6 [.ref 0, .int a, .int b, .int w] yX8_request cX8_request 5 6 [.ref 278, .int a, .int b, .int w] I L R := by
  obtain ⟨sg, k, X, Y, ws, n, h⟩ := h
  obtain ⟨a1, a2, a3, a4, a5, a6, a7, a8, a9, a10, a11⟩ := id h
  rcases cOf a b with hn | ⟨c, x, hc, hx, rfl, rfl⟩
  · exact stepR h (d_request_no1 hn) (e_request_no1 hn)
  · rcases cR 0 4 w (by decide) (by decide) with hb | ⟨lim, -, h2, rfl⟩
    · exact stepR h (d_request_no2 hc hx hb) (e_request_no2 hc hx hb)
    · have e00 : KI I sg k 0 = I 0 := KI_0 a2
      have l00 : KL L sg k 0 = L 0 := KL_0 a2
      have hsk := skW_fact (r := I 0) (m := L 0) (x := x) (lim := lim) hc
      have hI' := rReq_Inv (m := L 0) (lim := lim) a7 hc hx
      generalize hT : srv c x lim (KL L sg k) (KI I sg k) = TI
      have e : ∀ u, u ≠ 0 → u ≠ 9 → u ≠ 10 → TI u = KI I sg k u := fun u h1 h2 h3 => by rw [← hT]; exact srv_o h1 h2 h3
      have eb : ∀ u, 5 ≤ u → u ≠ 9 → u ≠ 10 → u ≠ 15 → TI u = I u := fun u h1 h2 h3 h4 => by rw [e u (by omega) h2 h3, KI_b a2 h1 h4]
      have e0 : TI 0 = rReq c x lim (I 0) (L 0) := by rw [← hT, srv_0, e00, l00]
      have e9 : TI 9 0 = nI (skW (I 0) (L 0) c x lim).1.length := by
        rw [← hT]
        unfold srv wkF
        rw [va_up_ne _ _ (by decide), va_up_ne _ _ (by decide), va_up_self, e00, l00]
        rfl
      have e10 : ∀ i, i < (skW (I 0) (L 0) c x lim).1.length → TI 10 i = nI ((skW (I 0) (L 0) c x lim).1.getD i 0) := by
        intro i hi
        rw [← hT]
        unfold srv wkF
        rw [va_up_ne _ _ (by decide), va_up_self, e00, l00]
        exact if_pos hi
      have hF : MF TI := fun f hf => by rw [eb 22 (by decide) (by decide) (by decide) (by decide), eb 23 (by decide) (by decide) (by decide) (by decide)]; exact a11.1 f hf
      have o2 := e_request (l := l) (I := TI) (L := KL L sg k) (r := I 0) (X := X) (m := L 0) (Y := Y) (KRS (sg := sg) (k := k) a1) hF (by rw [eb 21 (by decide) (by decide) (by decide) (by decide)]; exact a5) a6 a7 hc hx h2 rfl rfl rfl
      rw [mm_id (by rw [eb 20 (by decide) (by decide) (by decide) (by decide)]; exact a9), mL_id (by rw [KL_b a2 (by decide)]; exact a10)] at o2
      have o1 := d_request (l := l) a1 a2 a4 a6 a7 hc hx h2 hT rfl
      generalize skW (I 0) (L 0) c x lim = W at *
      have f : ∀ u, u ≠ 20 → u ≠ 21 → u ≠ 25 → mm (gw (SI TI k) W.1 W.2.2) (rReq c x lim (I 0) (L 0)) (SX k (I 0) X) u = TI u := fun u h1 h2 h3 => by
        unfold SI
        rw [mm_o h1, gw_o h2 h3, stI_r h2]
      have f21 : ∀ j, j ≠ 0 → j ≠ 1 → j ≠ 2 → j ≠ 3 → mm (gw (SI TI k) W.1 W.2.2) (rReq c x lim (I 0) (L 0)) (SX k (I 0) X) 21 j = I 21 j := fun j h0 h1 h2 h3 => by
        unfold SI
        rw [mm_o (by decide), gw_21]
        unfold gN
        rw [va_up_ne _ _ h3, va_up_ne _ _ h2, va_up_ne _ _ h1, stI_ne (fun q => h0 q.2), eb 21 (by decide) (by decide) (by decide) (by decide)]
      obtain ⟨b1, ⟨b2, b3, b4, b5, b6⟩, ⟨b7, b8, b9⟩, b10, b11⟩ := a11
      refine ⟨_, TI, _, _, _, _, o1, o2, rel_mut (ws2 := W.1) (n2 := n) h hI' ?_ (fun u h1 h2 => ?_) (fun u h1 h2 => ?_) ?_ ?_ ?_ ?_ ⟨fun g hg => ?_, ⟨?_, by omega, fun i hi => ?_, ?_, fun i hi => ?_⟩, ⟨?_, b8, fun i hi => ?_⟩, ?_, fun i hi => ?_⟩⟩
      · rw [f 0 (by decide) (by decide) (by decide), e0]
      · rw [f u (by omega) (by omega) (by omega), e u (by omega) (by omega) (by omega)]
      · rw [mL_o (by omega)]
      · rw [f 15 (by decide) (by decide) (by decide), e 15 (by decide) (by decide) (by decide)]
        unfold KI kpI
        rw [stI_self]
      · rw [mm_o (by decide), gw_21]
        unfold gN
        rw [va_up_ne _ _ (by decide), va_up_ne _ _ (by decide), va_up_ne _ _ (by decide)]
        unfold SI
        rw [stI_self]
      · exact va_up_self _ _ _
      · rw [mL_o (show (0 : Nat) ≠ 20 by decide), l00]
        exact va_up_self _ _ _
      · rw [f 22 (by decide) (by decide) (by decide), f 23 (by decide) (by decide) (by decide)]
        exact hF g hg
      · rw [f 9 (by decide) (by decide) (by decide)]
        exact e9
      · rw [f 10 (by decide) (by decide) (by decide)]
        exact e10 i hi
      · rw [mm_o (by decide), gw_21]
        rfl
      · rw [mm_o (by decide), gw_25]
        exact if_pos hi
      · rw [f 5 (by decide) (by decide) (by decide), eb 5 (by decide) (by decide) (by decide) (by decide)]
        exact b7
      · rw [f 6 (by decide) (by decide) (by decide), eb 6 (by decide) (by decide) (by decide) (by decide)]
        exact b9 i hi
      · rw [f21 4 (by decide) (by decide) (by decide) (by decide)]
        exact b10
      · rw [f 27 (by decide) (by decide) (by decide), f 6 (by decide) (by decide) (by decide), eb 27 (by decide) (by decide) (by decide) (by decide), eb 6 (by decide) (by decide) (by decide) (by decide)]
        exact b11 i hi
theorem s_wouldServe {a b : Int32} (h : RLx I L R) : STP .int l (some .int) yX7_wouldServe cX7_wouldServe 4 5 [.ref 0, .int a, .int b] yX8_wouldServe cX8_wouldServe 7 5 [.ref 278, .int a, .int b] I L R := by
  obtain ⟨sg, k, X, Y, ws, n, h⟩ := h
  obtain ⟨a1, a2, a3, a4, a5, a6, a7, a8, a9, a10, a11⟩ := id h
  rcases cOf a b with hn | ⟨c, x, hc, hx, rfl, rfl⟩
  · exact stepR h (d_wouldServe_no hn) (e_wouldServe_no hn)
  · generalize hT : wkF I 11 12 (skW (I 0) (L 0) c x 4) (skM (I 0) (L 0) c x 4) = TI
    have e : ∀ u, u ≠ 11 → u ≠ 12 → TI u = I u := fun u h1 h2 => by
      rw [← hT]
      unfold wkF
      rw [va_up_ne _ _ h2, va_up_ne _ _ h1]
    have hF : MF TI := fun f hf => by rw [e 22 (by decide) (by decide), e 23 (by decide) (by decide)]; exact a11.1 f hf
    have o2 := e_wouldServe (l := l) (I := TI) (L := L) (r := I 0) (X := X) (m := L 0) (Y := Y) a1 hF a7 hc hx rfl rfl
    have hmm : TI 20 = sp (I 0) X := by rw [e 20 (by decide) (by decide)]; exact a9
    rw [mm_id hmm, mL_id a10] at o2
    have o1 := d_wouldServe (l := l) a1 a7 hc hx hT rfl
    generalize skW (I 0) (L 0) c x 4 = W at *
    have f : ∀ u, u ≠ 20 → u ≠ 21 → u ≠ 25 → u ≠ 26 → mm (wSI TI W) (I 0) X u = TI u := fun u h1 h2 h3 h4 => by
      unfold wSI
      rw [mm_o h1, va_up_ne _ _ h3, va_up_ne _ _ h2, va_up_ne _ _ h4]
    have f21 : ∀ j, j ≠ 2 → j ≠ 3 → mm (wSI TI W) (I 0) X 21 j = I 21 j := fun j h1 h2 => by
      unfold wSI
      rw [mm_o (by decide), va_up_ne _ _ (by decide), va_up_self, ← e 21 (by decide) (by decide)]
      by_cases hj : j = 1
      · rw [hj, va_up_self]
      · rw [va_up_ne _ _ hj]
        unfold gN
        rw [va_up_ne _ _ h2, va_up_ne _ _ h1, va_up_ne _ _ hj]
    obtain ⟨b1, ⟨b2, b3, b4, b5, b6⟩, ⟨b7, b8, b9⟩, b10, b11⟩ := a11
    refine ⟨_, TI, _, L, L, R, o1, o2, rel_oth (ws2 := ws) (n2 := n) h (fun u hu => ?_) (fun _ _ => rfl) (f21 0 (by decide) (by decide)) ⟨fun g hg => ?_, ⟨?_, b3, fun i hi => ?_, ?_, fun i hi => ?_⟩, ⟨?_, b8, fun i hi => ?_⟩, ?_, fun i hi => ?_⟩⟩
    · by_cases h20 : u = 20
      · rw [h20, a9]
        exact va_up_self _ _ _
      · rw [f u h20 (by omega) (by omega) (by omega), e u (by omega) (by omega)]
    · rw [f 22 (by decide) (by decide) (by decide) (by decide), f 23 (by decide) (by decide) (by decide) (by decide)]
      exact hF g hg
    · rw [f 9 (by decide) (by decide) (by decide) (by decide), e 9 (by decide) (by decide)]
      exact b2
    · rw [f 10 (by decide) (by decide) (by decide) (by decide), e 10 (by decide) (by decide)]
      exact b4 i hi
    · rw [f21 1 (by decide) (by decide)]
      exact b5
    · unfold wSI
      rw [mm_o (by decide), va_up_self]
      unfold hd5
      rw [if_pos (by omega), e 25 (by decide) (by decide)]
      exact b6 i hi
    · rw [f 5 (by decide) (by decide) (by decide) (by decide), e 5 (by decide) (by decide)]
      exact b7
    · rw [f 6 (by decide) (by decide) (by decide) (by decide), e 6 (by decide) (by decide)]
      exact b9 i hi
    · rw [f21 4 (by decide) (by decide)]
      exact b10
    · rw [f 27 (by decide) (by decide) (by decide) (by decide), f 6 (by decide) (by decide) (by decide) (by decide), e 27 (by decide) (by decide), e 6 (by decide) (by decide)]
      exact b11 i hi
end B45
