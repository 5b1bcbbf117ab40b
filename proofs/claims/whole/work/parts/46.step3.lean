/-! ===== one call of each, alike: the text ===== -/
theorem nI_sur (v : Int32) : ∃ p, v = nI p := ⟨v.toBitVec.toNat, Int32.toBitVec_inj.mp (by
  show v.toBitVec = BitVec.ofNat 32 v.toBitVec.toNat
  rw [BitVec.ofNat_toNat]
  rfl)⟩
theorem pRun_PI {cd : Nat → Nat} : ∀ (k p : Nat) (s : PS), PI p s → (∀ f, (pRun cd k p s).2 = some f → f ≤ p + k) ∧ ((pRun cd k p s).2 = none → PI (p + k) (pRun cd k p s).1)
  | 0, p, s, h => ⟨(fun f hf => by cases hf), fun _ => h⟩
  | k + 1, p, s, h => by
    have e : pRun cd (k + 1) p s = (match (pStep (cd p) p s).2 with | some f => ((pStep (cd p) p s).1, some f) | none => pRun cd k (p + 1) (pStep (cd p) p s).1) := rfl
    rw [e]
    cases hs : (pStep (cd p) p s).2 with
    | some f =>
      refine ⟨fun g hg => ?_, fun hg => by cases hg⟩
      have : f = g := by cases hg; rfl
      have := fault_lt h hs
      omega
    | none =>
      have := pRun_PI (cd := cd) k (p + 1) (pStep (cd p) p s).1 (PI_step h hs)
      rw [show p + (k + 1) = p + 1 + k by omega]
      exact this
theorem PI_0 : PI 0 pS0 := ⟨by decide, Nat.le_refl _, fun h => absurd h (by decide), (fun q hq => by cases hq), fun h => absurd h (by decide)⟩
theorem rq_ok {cd : Nat → Nat} {n : Nat} (hn : n ≤ 100) (h : aPar (pRun cd n 0 pS0) n = -1) : (∀ q ∈ (pRun cd n 0 pS0).1.2.2.2, q.1 < 5 ∧ q.2 < 1000) ∧ (pRun cd n 0 pS0).1.2.2.2.length ≤ 100 := by
  obtain ⟨h1, h2⟩ := pRun_PI (cd := cd) n 0 pS0 PI_0
  cases hs : (pRun cd n 0 pS0).2 with
  | some f =>
    have e : aPar (pRun cd n 0 pS0) n = nI f := by
      unfold aPar
      rw [hs]
    rw [h] at e
    have := h1 f hs
    exact absurd e.symm (m1_of (by omega))
  | none =>
    have := h2 hs
    exact ⟨this.2.2.2.1, by have := this.2.1; omega⟩
/-- the requests of a text on the class's side -/
theorem rnI_rqF {L : ML} : ∀ (rq : List (Nat × Nat)) (J : MI) (ws : List Nat) (sv : Nat), (∀ q ∈ rq, q.1 < 5 ∧ q.2 < 1000) → Inv (J 0) → (J 9 0 = nI ws.length ∧ ws.length ≤ 5 ∧ ∀ i, i < ws.length → J 10 i = nI (ws.getD i 0)) →
    (rnI L rq (J, sv)).1 0 = (rqF (L 0) rq (J 0, ws, sv)).1 ∧ (rnI L rq (J, sv)).2 = (rqF (L 0) rq (J 0, ws, sv)).2.2 ∧ ((rnI L rq (J, sv)).1 9 0 = nI (rqF (L 0) rq (J 0, ws, sv)).2.1.length ∧ (rqF (L 0) rq (J 0, ws, sv)).2.1.length ≤ 5 ∧ ∀ i, i < (rqF (L 0) rq (J 0, ws, sv)).2.1.length → (rnI L rq (J, sv)).1 10 i = nI ((rqF (L 0) rq (J 0, ws, sv)).2.1.getD i 0)) ∧ ∀ u, u ≠ 0 → u ≠ 9 → u ≠ 10 → (rnI L rq (J, sv)).1 u = J u
  | [], J, ws, sv, _, _, hw => ⟨rfl, rfl, hw, fun _ _ _ _ => rfl⟩
  | (c, x) :: t, J, ws, sv, hq, hI, hw => by
    have h1 := hq (c, x) (List.mem_cons_self ..)
    simp only at h1
    have hgq : gQ (J 0) ≤ 4 := by
      obtain ⟨i1, i2, i3, i4, q, iq1, iq2⟩ := hI
      have : gQ (J 0) = q := nn_at iq2 (by omega)
      omega
    have hf := (skW_fact (r := J 0) (m := L 0) (x := x) (lim := gQ (J 0)) h1.1).2.2.2
    have e9 : srv c x (gQ (J 0)) L J 9 0 = nI (skW (J 0) (L 0) c x (gQ (J 0))).1.length := by
      unfold srv wkF
      rw [va_up_ne _ _ (by decide), va_up_ne _ _ (by decide), va_up_self]
      rfl
    have e10 : ∀ i, i < (skW (J 0) (L 0) c x (gQ (J 0))).1.length → srv c x (gQ (J 0)) L J 10 i = nI ((skW (J 0) (L 0) c x (gQ (J 0))).1.getD i 0) := by
      intro i hi
      unfold srv wkF
      rw [va_up_ne _ _ (by decide), va_up_self]
      exact if_pos hi
    have e0 : srv c x (gQ (J 0)) L J 0 = rReq c x (gQ (J 0)) (J 0) (L 0) := srv_0
    have ih := rnI_rqF (L := L) t (srv c x (gQ (J 0)) L J) (skW (J 0) (L 0) c x (gQ (J 0))).1 (if (skW (J 0) (L 0) c x (gQ (J 0))).2.1 = 5 then sv else sv + 1) (fun z hz => hq z (List.mem_cons_of_mem _ hz)) (by rw [e0]; exact rReq_Inv hI h1.1 h1.2) ⟨e9, by omega, e10⟩
    rw [e0] at ih
    obtain ⟨b1, b2, b3, b4⟩ := ih
    exact ⟨b1, b2, b3, fun u h1 h2 h3 => by
      refine (b4 u h1 h2 h3).trans ?_
      exact srv_o h1 h2 h3⟩
section B46
variable {l : Launch} {I : MI} {L : ML} {R : MR} {sg : Nat → Nat} {k n : Nat} {X : Row} {Y : Msk} {ws : List Nat}
theorem s_type {a : Int32} (h : RLx I L R) : STP .int l (some .int) yX7_type cX7_type 2 1 [.ref 0, .int a] yX8_type cX8_type 2 1 [.ref 278, .int a] I L R := by
  obtain ⟨sg, k, X, Y, ws, n, h⟩ := h
  obtain ⟨a1, a2, a3, a4, a5, a6, a7, a8, a9, a10, a11⟩ := id h
  obtain ⟨b1, ⟨b2, b3, b4, b5, b6⟩, ⟨b7, b8, b9⟩, b10, b11⟩ := id a11
  rcases cR 0 255 a (by decide) (by decide) with ha | ⟨v, -, h2, rfl⟩
  · exact stepR h (d_type_no ha) (e_type_no ha)
  · by_cases hn : n = 100
    · subst hn
      exact stepR h (d_type_full a1 h2 b7) (e_type_full a1 h2 (by rw [mm_o (by decide)]; exact b10))
    · have o1 := d_type (l := l) (L := L) a1 h2 b7 (show n < 100 by omega)
      generalize hJ : stI (stI I 6 n (nI v)) 5 0 (nI (n + 1)) = J at o1
      have e : ∀ u, u ≠ 5 → u ≠ 6 → J u = I u := fun u h1 h2 => by rw [← hJ, stI_r h1, stI_r h2]
      have e5 : J 5 0 = nI (n + 1) := by rw [← hJ, stI_self]
      have e6 : ∀ i, J 6 i = if i = n then nI v else I 6 i := fun i => by
        rw [← hJ, stI_r (show (6 : Nat) ≠ 5 by decide)]
        unfold stI
        rw [va_up_self]
        rfl
      have o2 := e_type (l := l) (I := J) (L := L) a1 h2 (by rw [e 21 (by decide) (by decide)]; exact b10) (show n < 100 by omega)
      refine ⟨_, J, _, L, L, R, o1, o2, rel_oth (ws2 := ws) (n2 := n + 1) h (fun u hu => ?_) (fun _ _ => rfl) ?_ ⟨fun g hg => ?_, ⟨?_, b3, fun i hi => ?_, ?_, fun i hi => ?_⟩, ⟨?_, by omega, fun i hi => ?_⟩, ?_, fun i hi => ?_⟩⟩
      · rw [stI_r (by omega), stI_r (by omega), e u (by omega) (by omega)]
      · rw [stI_ne (by decide), stI_r (by decide), e 21 (by decide) (by decide)]
      · rw [stI_r (by decide), stI_r (by decide), stI_r (by decide), stI_r (by decide), e 22 (by decide) (by decide), e 23 (by decide) (by decide)]
        exact b1 g hg
      · rw [stI_r (by decide), stI_r (by decide), e 9 (by decide) (by decide)]
        exact b2
      · rw [stI_r (by decide), stI_r (by decide), e 10 (by decide) (by decide)]
        exact b4 i hi
      · rw [stI_ne (by decide), stI_r (by decide), e 21 (by decide) (by decide)]
        exact b5
      · rw [stI_r (by decide), stI_r (by decide), e 25 (by decide) (by decide)]
        exact b6 i hi
      · rw [stI_r (by decide), stI_r (by decide)]
        exact e5
      · rw [stI_r (show (6 : Nat) ≠ 21 by decide), stI_r (show (6 : Nat) ≠ 27 by decide)]
        unfold cdN
        rw [e6 i]
        by_cases hin : i = n
        · rw [if_pos hin, nn_nI (by omega)]
          exact ⟨rfl, by omega⟩
        · rw [if_neg hin]
          exact b9 i (by omega)
      · rw [stI_self]
      · rw [stI_r (show (27 : Nat) ≠ 21 by decide), stI_r (show (6 : Nat) ≠ 21 by decide), stI_r (show (6 : Nat) ≠ 27 by decide), e6 i]
        unfold stI
        rw [va_up_self]
        by_cases hin : i = n
        · rw [if_pos hin, hin, va_up_self]
        · rw [if_neg hin, va_up_ne _ _ hin, e 27 (by decide) (by decide)]
          exact b11 i (by omega)
theorem s_clearText (h : RLx I L R) : STP .int l (some .int) yX7_clearText cX7_clearText 2 0 [.ref 0] yX8_clearText cX8_clearText 2 0 [.ref 278] I L R := by
  obtain ⟨sg, k, X, Y, ws, n, h⟩ := h
  obtain ⟨a1, a2, a3, a4, a5, a6, a7, a8, a9, a10, a11⟩ := id h
  obtain ⟨b1, ⟨b2, b3, b4, b5, b6⟩, ⟨b7, b8, b9⟩, b10, b11⟩ := id a11
  have o1 := d_clearText (l := l) (I := I) (L := L) a1
  rw [b7] at o1
  have o2 := e_clearText (l := l) (I := stI I 5 0 (nI 0)) (L := L) a1
  rw [stI_r (show (21 : Nat) ≠ 5 by decide), b10] at o2
  refine ⟨_, _, _, L, L, R, o1, o2, rel_oth (ws2 := ws) (n2 := 0) h (fun u hu => ?_) (fun _ _ => rfl) ?_ ⟨fun g hg => ?_, ⟨?_, b3, fun i hi => ?_, ?_, fun i hi => ?_⟩, ⟨?_, by omega, fun i hi => absurd hi (Nat.not_lt_zero _)⟩, ?_, fun i hi => absurd hi (Nat.not_lt_zero _)⟩⟩
  · rw [stI_r (by omega), stI_r (by omega)]
  · rw [stI_ne (by decide), stI_r (by decide)]
  · rw [stI_r (by decide), stI_r (by decide), stI_r (by decide), stI_r (by decide)]
    exact b1 g hg
  · rw [stI_r (by decide), stI_r (by decide)]
    exact b2
  · rw [stI_r (by decide), stI_r (by decide)]
    exact b4 i hi
  · rw [stI_ne (by decide), stI_r (by decide)]
    exact b5
  · rw [stI_r (by decide), stI_r (by decide)]
    exact b6 i hi
  · rw [stI_r (by decide), stI_self]
  · rw [stI_self]
theorem pM_oth {s : PS} {u : Nat} (h5 : u ≠ 5) (h7 : u ≠ 7) (h8 : u ≠ 8) : pM I s u = I u := by
  unfold pM
  rw [va_up_ne _ _ h8, va_up_ne _ _ h7, va_up_ne _ _ h5]
theorem pM_len {s : PS} : pM I s 5 0 = I 5 0 := by
  unfold pM
  rw [va_up_ne _ _ (by decide), va_up_ne _ _ (by decide), va_up_self]
  unfold txR
  rw [va_up_ne _ _ (by decide), va_up_ne _ _ (by decide), va_up_ne _ _ (by decide), va_up_ne _ _ (by decide)]
theorem MX_of {J : MI} (h : Rel I L R sg k X Y ws n) (e : ∀ u, u = 21 ∨ u = 22 ∨ u = 23 ∨ u = 25 ∨ u = 27 → J u = I u) : ∃ p sv, MX (cdN (I 6)) n (nI k, J) J p ws sv := by
  obtain ⟨b1, ⟨b2, b3, b4, b5, b6⟩, ⟨b7, b8, b9⟩, b10, b11⟩ := h.2.2.2.2.2.2.2.2.2.2
  obtain ⟨p, hp⟩ := nI_sur (J 21 5)
  obtain ⟨sv, hsv⟩ := nI_sur (J 21 6)
  refine ⟨p, sv, ?_, ?_, fun i hi => ?_, fun f hf => ?_, hp, hsv, ?_, b3, fun i hi => ?_, fun _ _ _ => rfl⟩
  · rw [e 21 (by omega)]; exact h.2.2.2.2.1
  · rw [e 21 (by omega)]; exact b10
  · rw [e 27 (by omega), b11 i hi]; exact (b9 i hi).1
  · rw [e 22 (by omega), e 23 (by omega)]; exact b1 f hf
  · rw [e 21 (by omega)]; exact b5
  · rw [e 25 (by omega)]; exact b6 i hi
/-- behind a reading that changed nothing -/
theorem rel_read {TI J : MI} {q sv : Nat} (h : Rel I L R sg k X Y ws n) (e : ∀ u, u ≠ 5 → u ≠ 7 → u ≠ 8 → J u = I u) (e5 : J 5 0 = I 5 0) (hX : MX (cdN (I 6)) n (nI k, J) TI q ws sv) : RLx (mm TI (I 0) X) L R := by
  obtain ⟨b1, ⟨b2, b3, b4, b5, b6⟩, ⟨b7, b8, b9⟩, b10, b11⟩ := h.2.2.2.2.2.2.2.2.2.2
  obtain ⟨x0, x1, x2, x3, x4, x5, x6, x7, x8, x9⟩ := hX
  have f : ∀ u, u ≠ 20 → u ≠ 21 → u ≠ 25 → u ≠ 5 → u ≠ 7 → u ≠ 8 → mm TI (I 0) X u = I u := fun u h1 h2 h3 h4 h5 h6 => by
    rw [mm_o h1, x9 u h2 h3]
    exact e u h4 h5 h6
  refine rel_oth (ws2 := ws) (n2 := n) h (fun u hu => ?_) (fun _ _ => rfl) ?_ ⟨fun g hg => ?_, ⟨?_, b3, fun i hi => ?_, ?_, fun i hi => ?_⟩, ⟨?_, b8, fun i hi => ?_⟩, ?_, fun i hi => ?_⟩
  · by_cases h20 : u = 20
    · rw [h20, h.2.2.2.2.2.2.2.2.1]
      exact va_up_self _ _ _
    · exact f u h20 (by omega) (by omega) (by omega) (by omega) (by omega)
  · rw [mm_o (by decide), h.2.2.2.2.1]; exact x0
  · rw [mm_o (by decide), mm_o (by decide)]; exact x3 g hg
  · rw [f 9 (by decide) (by decide) (by decide) (by decide) (by decide) (by decide)]; exact b2
  · rw [f 10 (by decide) (by decide) (by decide) (by decide) (by decide) (by decide)]; exact b4 i hi
  · rw [mm_o (by decide)]; exact x6
  · rw [mm_o (by decide)]; exact x8 i hi
  · rw [mm_o (by decide), x9 5 (by decide) (by decide)]
    exact e5.trans b7
  · rw [f 6 (by decide) (by decide) (by decide) (by decide) (by decide) (by decide)]; exact b9 i hi
  · rw [mm_o (by decide)]; exact x1
  · rw [f 27 (by decide) (by decide) (by decide) (by decide) (by decide) (by decide), f 6 (by decide) (by decide) (by decide) (by decide) (by decide) (by decide)]; exact b11 i hi
theorem s_textFault (h : RLx I L R) : STP .int l (some .int) yX7_textFault cX7_textFault 1 4 [.ref 0] yX8_textFault cX8_textFault 1 8 [.ref 278] I L R := by
  obtain ⟨sg, k, X, Y, ws, n, h⟩ := h
  obtain ⟨a1, a2, a3, a4, a5, a6, a7, a8, a9, a10, a11⟩ := id h
  have hT := a11.2.2.1
  have hcd : ∀ i, i < n → cdN (I 6) i < 256 := fun i hi => (hT.2.2 i hi).2
  generalize hJ : pM I (pRun (cdN (I 6)) n 0 pS0).1 = J
  have e : ∀ u, u ≠ 5 → u ≠ 7 → u ≠ 8 → J u = I u := fun u h1 h2 h3 => by rw [← hJ]; exact pM_oth h1 h2 h3
  have e5 : J 5 0 = I 5 0 := by rw [← hJ]; exact pM_len
  obtain ⟨p, sv, hX⟩ := MX_of h (J := J) (fun u hu => e u (by omega) (by omega) (by omega))
  obtain ⟨TI, q, hX2, o2⟩ := e_textFault (l := l) (L := L) (X := X) (m := L 0) (Y := Y) a1 hT.2.1 hcd a7 hX
  rw [mm_id (by rw [e 20 (by decide) (by decide) (by decide)]; exact a9), mL_id a10] at o2
  exact ⟨_, J, _, L, L, R, d_textFault a1 hT hJ rfl, o2, rel_read h e e5 hX2⟩
theorem s_run (h : RLx I L R) : STP .int l (some .int) yX7_run cX7_run 3 6 [.ref 0] yX8_run cX8_run 2 8 [.ref 278] I L R := by
  obtain ⟨sg, k, X, Y, ws, n, h⟩ := h
  obtain ⟨a1, a2, a3, a4, a5, a6, a7, a8, a9, a10, a11⟩ := id h
  have hT := a11.2.2.1
  have hcd : ∀ i, i < n → cdN (I 6) i < 256 := fun i hi => (hT.2.2 i hi).2
  generalize hJ : pM I (pRun (cdN (I 6)) n 0 pS0).1 = J
  have e : ∀ u, u ≠ 5 → u ≠ 7 → u ≠ 8 → J u = I u := fun u h1 h2 h3 => by rw [← hJ]; exact pM_oth h1 h2 h3
  have e5 : J 5 0 = I 5 0 := by rw [← hJ]; exact pM_len
  by_cases hyes : aPar (pRun (cdN (I 6)) n 0 pS0) n = -1
  · obtain ⟨hr5, hrl⟩ := rq_ok hT.2.1 hyes
    generalize hrq : (pRun (cdN (I 6)) n 0 pS0).1.2.2.2 = rq at hr5 hrl
    have ek0 : KI J sg k 0 = I 0 := by rw [KI_0 a2, e 0 (by decide) (by decide) (by decide)]
    have el0 : KL L sg k 0 = L 0 := KL_0 a2
    have ekb : ∀ u, 5 ≤ u → u ≠ 15 → KI J sg k u = J u := fun u h1 h2 => KI_b a2 h1 h2
    obtain ⟨b1, ⟨b2, b3, b4, b5, b6⟩, ⟨b7, b8, b9⟩, b10, b11⟩ := id a11
    have hfold := rnI_rqF (L := KL L sg k) rq (KI J sg k) ws 0 hr5 (by rw [ek0]; exact a7) ⟨by rw [ekb 9 (by decide) (by decide), e 9 (by decide) (by decide) (by decide)]; exact b2, b3, fun i hi => by rw [ekb 10 (by decide) (by decide), e 10 (by decide) (by decide) (by decide)]; exact b4 i hi⟩
    rw [ek0, el0] at hfold
    have hIt := rqF_Inv (m := L 0) (l := rq) (s := (I 0, ws, 0)) a7 hr5
    generalize hTJ : rnI (KL L sg k) rq (KI J sg k, 0) = TQ at hfold
    obtain ⟨TJ, tn⟩ := TQ
    generalize ht : rqF (L 0) rq (I 0, ws, 0) = t at hfold hIt
    obtain ⟨f1, f2, ⟨f3, f4, f5⟩, f6⟩ := hfold
    simp only at f1 f2 f3 f5 f6
    have o1 := d_run (l := l) (L := L) a1 a2 a4 a6 a7 hT hyes hJ hrq hr5 hrl hTJ
    have g : ∀ u, 5 ≤ u → u ≠ 5 → u ≠ 7 → u ≠ 8 → u ≠ 9 → u ≠ 10 → u ≠ 15 → TJ u = I u := fun u h0 h1 h2 h3 h4 h5 h6 => by rw [f6 u (by omega) h4 h5, ekb u h0 h6, e u h1 h2 h3]
    obtain ⟨p, sv, hX⟩ := MX_of h (J := TJ) (fun u hu => g u (by omega) (by omega) (by omega) (by omega) (by omega) (by omega) (by omega))
    obtain ⟨TI, q, hX2, o2⟩ := e_run (t := t) (l := l) (L := KL L sg k) (X := X) (m := L 0) (Y := Y) (KRS (sg := sg) (k := k) a1) hT.2.1 hcd a7 a6 hX hyes (by rw [hrq]; exact ht)
    rw [mm_id (by rw [g 20 (by decide) (by decide) (by decide) (by decide) (by decide) (by decide) (by decide)]; exact a9), mL_id (by rw [KL_b a2 (by decide)]; exact a10)] at o2
    rw [f2] at o1
    obtain ⟨x0, x1, x2, x3, x4, x5, x6, x7, x8, x9⟩ := hX2
    have hb : ∀ u, u ≠ 20 → u ≠ 21 → u ≠ 25 → mm TI t.1 (SX k (I 0) X) u = TJ u := fun u h1 h2 h3 => by rw [mm_o h1]; exact x9 u h2 h3
    refine ⟨_, TJ, _, _, _, _, o1, o2, rel_mut (ws2 := t.2.1) (n2 := n) h hIt ?_ (fun u h1 h2 => ?_) (fun u h1 h2 => ?_) ?_ ?_ ?_ ?_ ⟨fun z hz => ?_, ⟨?_, f4, fun i hi => ?_, ?_, fun i hi => ?_⟩, ⟨?_, b8, fun i hi => ?_⟩, ?_, fun i hi => ?_⟩⟩
    · rw [hb 0 (by decide) (by decide) (by decide)]
      exact f1
    · rw [hb u (by omega) (by omega) (by omega), f6 u (by omega) (by omega) (by omega)]
      unfold KI kpI
      rw [stI_r (by omega), stI_r (by omega), e 0 (by decide) (by decide) (by decide)]
      unfold va_up
      by_cases hu : u = kt sg k
      · rw [if_pos hu, if_pos hu, e (kt sg k) (by omega) (by omega) (by omega)]
      · rw [if_neg hu, if_neg hu, e u (by omega) (by omega) (by omega)]
    · rw [mL_o (by omega)]
    · rw [hb 15 (by decide) (by decide) (by decide), f6 15 (by decide) (by decide) (by decide)]
      unfold KI kpI
      rw [stI_self]
    · rw [mm_o (by decide)]
      exact x0
    · exact va_up_self _ _ _
    · rw [mL_o (show (0 : Nat) ≠ 20 by decide), el0]
      exact va_up_self _ _ _
    · rw [mm_o (by decide), mm_o (by decide)]
      exact x3 z hz
    · rw [hb 9 (by decide) (by decide) (by decide)]
      exact f3
    · rw [hb 10 (by decide) (by decide) (by decide)]
      exact f5 i hi
    · rw [mm_o (by decide)]
      exact x6
    · rw [mm_o (by decide)]
      exact x8 i hi
    · rw [hb 5 (by decide) (by decide) (by decide), f6 5 (by decide) (by decide) (by decide), ekb 5 (by decide) (by decide), e5]
      exact b7
    · rw [hb 6 (by decide) (by decide) (by decide), g 6 (by decide) (by decide) (by decide) (by decide) (by decide) (by decide) (by decide)]
      exact b9 i hi
    · rw [mm_o (by decide)]
      exact x1
    · rw [hb 27 (by decide) (by decide) (by decide), hb 6 (by decide) (by decide) (by decide), g 27 (by decide) (by decide) (by decide) (by decide) (by decide) (by decide) (by decide), g 6 (by decide) (by decide) (by decide) (by decide) (by decide) (by decide) (by decide)]
      exact b11 i hi
  · obtain ⟨p, sv, hX⟩ := MX_of h (J := J) (fun u hu => e u (by omega) (by omega) (by omega))
    obtain ⟨TI, q, hX2, o2⟩ := e_run_no (l := l) (L := L) (X := X) (m := L 0) (Y := Y) a1 hT.2.1 hcd a7 hX hyes
    rw [mm_id (by rw [e 20 (by decide) (by decide) (by decide)]; exact a9), mL_id a10] at o2
    exact ⟨_, J, _, L, L, R, d_run_no a1 hT hJ hyes, o2, rel_read h e e5 hX2⟩
end B46
