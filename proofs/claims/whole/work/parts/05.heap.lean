/-- a place that is there, with its kind -/
def KP (n p : Nat) (K : KD) : Prop := kd p = K ∧ p < n ∧ p < 1000 ∧ K.2.2.2.2 < 10000
/-- a field of the tables -/
theorem AL.put {adl : List Nat} {n p0 : Nat} {I I' : MI} {L L' : ML} {R R' : MR} (h : AL adl n I L R) (hp : p0 < n) (hI : ∀ g k, oI g k ≠ p0 → I' g k = I g k) (hL : ∀ g k, oL g k ≠ p0 → L' g k = L g k) (hR : ∀ r k, r ≠ p0 → R' r k = R r k) (hs : ∀ k q, R' p0 k = some q → q < n ∨ R p0 k = some q) : AL adl n I' L' R' := by
  obtain ⟨h1, h2, h3, h4, h5⟩ := h
  refine ⟨h1, fun a k q hq => ?_, fun g k hg => ?_, fun g k hg => ?_, fun a k ha => ?_⟩
  · by_cases ha : a = p0
    · subst ha
      rcases hs k q hq with z | z
      · exact z
      · exact h2 a k q z
    · rw [hR a k ha] at hq
      exact h2 a k q hq
  · rw [hI g k (by omega)]
    exact h3 g k hg
  · rw [hL g k (by omega)]
    exact h4 g k hg
  · rw [hR a k (by omega)]
    exact h5 a k ha
def GF (own : String) (idx t j : Nat) : Prop := ∃ q : vw_C, vwCl[t]? = some q ∧ t < 9 ∧ j < q.2.2 ∧ nf t = q.2.2 ∧ (∀ w ∈ u_ws q.1 q.2.1 q.2.2, w ∈ gtb) ∧ Cond.fieldLink own idx (q.2.1 j).1 (q.2.1 j).2.1 (q.2.1 j).2.2.1 ∈ gtb
def PFd (own : String) (t j : Nat) (fin : Bool) (ty : FieldType) : Prop := ∃ (q : vw_C) (tyf : Nat → FieldType), vwCl[t]? = some q ∧ (∀ k, k < q.2.2 → parseFieldDescriptor (q.2.1 k).2.2.1 = some (tyf k)) ∧ (∀ a, a < q.2.2 → ∀ b, b < q.2.2 → a ≠ b → (q.2.1 a).2.1 ≠ (q.2.1 b).2.1) ∧ (q.2.1 j).2.2.2 = fin ∧ parseFieldDescriptor (q.2.1 j).2.2.1 = some ty ∧ (fin = true → (q.2.1 j).1 = own)
theorem KP.at {n p : Nat} {K : KD} (h : KP n p K) {adl : List Nat} (hn : adl.length = n) {cy : Nat → ClassId} {I : MI} {L : ML} {R : MR} : (wsO cy adl I L R)[p]? = some (mva adl p, celK cy adl I L R p K) := by
  obtain ⟨h1, h2, h3, -⟩ := h
  rw [wsO_get (by omega), h1, mva_lt (by omega)]
theorem KP.i {n p g b lb N : Nat} (h : KP n p (9, g, b, lb, N)) {adl : List Nat} (hn : adl.length = n) {cy : Nat → ClassId} {I : MI} {L : ML} {R : MR} : (wsO cy adl I L R)[p]? = some (mva adl p, .inl (cy 0, N, .inl (fun j => if j < N then I g (b + j) else 0))) := h.at hn
theorem KP.l {n p g b lb N : Nat} (h : KP n p (10, g, b, lb, N)) {adl : List Nat} (hn : adl.length = n) {cy : Nat → ClassId} {I : MI} {L : ML} {R : MR} : (wsO cy adl I L R)[p]? = some (mva adl p, .inl (cy 1, N, .inr (.inl (fun j => if j < N then L g (b + j) else 0)))) := h.at hn
theorem KP.q {n p g b lb N : Nat} (h : KP n p (11, g, b, lb, N)) {adl : List Nat} (hn : adl.length = n) {cy : Nat → ClassId} {I : MI} {L : ML} {R : MR} : (wsO cy adl I L R)[p]? = some (mva adl p, .inl (cy 2, N, .inr (.inr (.inr (.inr (fun j => rA adl (R p j))))))) := h.at hn
theorem KP.z {n p g b lb N : Nat} (h : KP n p (12, g, b, lb, N)) {adl : List Nat} (hn : adl.length = n) {cy : Nat → ClassId} {I : MI} {L : ML} {R : MR} : (wsO cy adl I L R)[p]? = some (mva adl p, .inl (cy 3, N, .inr (.inr (.inr (.inr (fun j => rA adl (R p j))))))) := h.at hn
theorem KP.o {n p t g b lb N : Nat} (h : KP n p (t, g, b, lb, N)) (ht : t < 9) {adl : List Nat} (hn : adl.length = n) {cy : Nat → ClassId} {I : MI} {L : ML} {R : MR} : (wsO cy adl I L R)[p]? = some (mva adl p, .inr (t, (List.range (nf t)).map (fvl adl I L R p (t, g, b, lb, N)))) := by
  rw [h.at hn, celK_obj ht]
/-- a write into cells of p alone -/
theorem ws_put {cy : Nat → ClassId} {adl : List Nat} {I I' : MI} {L L' : ML} {R R' : MR} {n p : Nat} {K : KD} (h : KP n p K) (hn : adl.length = n) {e : va_E} (he : e = celK cy adl I' L' R' p K) (hI : ∀ g k, oI g k ≠ p → I' g k = I g k) (hL : ∀ g k, oL g k ≠ p → L' g k = L g k) (hR : ∀ r k, r ≠ p → R' r k = R r k) :
    (wsO cy adl I L R).set p (mva adl p, e) = wsO cy adl I' L' R' := by
  obtain ⟨h1, h2, h3, -⟩ := h
  rw [mva_lt (by omega)]
  exact wsO_ext (by omega) (by rw [h1]; exact he) (fun q hq => cel_other hq hI hL hR)
theorem stI_off {I : MI} {g k p : Nat} {v : Int32} (ho : oI g k = p) : ∀ g' k', oI g' k' ≠ p → stI I g k v g' k' = I g' k' := fun g' k' h => stI_ne (fun q => h (by rw [q.1, q.2]; exact ho))
theorem stL_off {I : ML} {g k p : Nat} {v : Int64} (ho : oL g k = p) : ∀ g' k', oL g' k' ≠ p → stL I g k v g' k' = I g' k' := fun g' k' h => stL_ne (fun q => h (by rw [q.1, q.2]; exact ho))
theorem stR_off {I : MR} {p k : Nat} {v : Option Nat} : ∀ g' k', g' ≠ p → stR I p k v g' k' = I g' k' := fun g' k' h => stR_ne (fun q => h q.1)
section HEAP
variable {l : Launch} {y : MethodName} {cc : ByteArray} {nL : Nat} {ret : Option FieldType} {Rm : Room} {Qf : QF} {X : State → List Nat → Prop} {pc pc' tgt : Nat} {lv : List (Option Value)} {st : List Value} {I : MI} {L : ML} {R : MR} {n ce sl : Nat} {p0 t g b lb N j off idx : Nat}

theorem v_getV {v : Value} (hd : decode cc pc = .ok (.getfield idx, 3)) (hp : pc + 3 = pc') (hf : GF y.cls idx t j) (hk : KP n p0 (t, g, b, lb, N)) (hv : ∀ adl : List Nat, fvl adl I L R p0 (t, g, b, lb, N) j = mv adl v) (kk : V l y cc nL ret Rm Qf X pc' lv (v :: st) I L R n ce sl) : V l y cc nL ret Rm Qf X pc lv (.ref p0 :: st) I L R n ce sl := by
  subst hp
  intro p e s m args below meth c D cy adl0 adl H locs ls F X0 h1 h2 hP hD hS hl
  obtain ⟨q, q1, q2, q3, q4, q5, q6⟩ := hf
  refine va_get (v := mv adl v) (ref := (q.2.1 j).1) F.1 F.2.1 F.2.2.2.2.1 q5 F.2.2.2.1 F.2.2.2.2.2.2.2.2.1 hP p0 (hk.o q2 h2.1) q1 j q3 (F.2.2.2.2.1 _ q6) (fun _ h => h) ?_ hd (kk p e s m args below meth c D cy adl0 adl H locs ls F X0 h1 h2 hP hD hS hl)
  rw [fvl_get (by show j < nf t; omega), hv]
theorem v_getI (hd : decode cc pc = .ok (.getfield idx, 3)) (hp : pc + 3 = pc') (hf : GF y.cls idx t j) (hk : KP n p0 (t, g, b, lb, N)) (ht : fty t j = (0, off)) (kk : V l y cc nL ret Rm Qf X pc' lv (.int (I g (b + off)) :: st) I L R n ce sl) : V l y cc nL ret Rm Qf X pc lv (.ref p0 :: st) I L R n ce sl :=
  v_getV hd hp hf hk (fun adl => by simp [fvl, ht, mv]) kk
theorem v_getL (hd : decode cc pc = .ok (.getfield idx, 3)) (hp : pc + 3 = pc') (hf : GF y.cls idx t j) (hk : KP n p0 (t, g, b, lb, N)) (ht : fty t j = (1, off)) (kk : V l y cc nL ret Rm Qf X pc' lv (.long (L g (lb + off)) :: st) I L R n ce sl) : V l y cc nL ret Rm Qf X pc lv (.ref p0 :: st) I L R n ce sl :=
  v_getV hd hp hf hk (fun adl => by simp [fvl, ht, mv]) kk
theorem v_getR {q0 : Nat} (hd : decode cc pc = .ok (.getfield idx, 3)) (hp : pc + 3 = pc') (hf : GF y.cls idx t j) (hk : KP n p0 (t, g, b, lb, N)) (ht : fty t j = (2, off)) (hr : R p0 j = some q0) (hq : q0 < 1000) (kk : V l y cc nL ret Rm Qf X pc' lv (.ref q0 :: st) I L R n ce sl) : V l y cc nL ret Rm Qf X pc lv (.ref p0 :: st) I L R n ce sl :=
  v_getV hd hp hf hk (fun adl => by simp [fvl, ht, mv, rA, hr, va_rf, mva, Nat.lt_trans hq (by decide : 1000 < 1000000)]) kk
theorem v_putV {v : Value} {I' : MI} {L' : ML} {R' : MR} {fin : Bool} {ty : FieldType} (hd : decode cc pc = .ok (.putfield idx, 3)) (hp : pc + 3 = pc') (hf : GF y.cls idx t j) (hg : PFd y.cls t j fin ty) (hk : KP n p0 (t, g, b, lb, N)) (hfin : fin = false ∨ y.name = "<init>") (hna : ∀ adl : List Nat, narrow ty (mv adl v) = mv adl v) (hfi : ∀ adl : List Nat, fits ty (mv adl v) = true)
    (hv : ∀ adl : List Nat, fvl adl I' L' R' p0 (t, g, b, lb, N) j = mv adl v) (ho : ∀ adl : List Nat, ∀ i, i < nf t → i ≠ j → fvl adl I' L' R' p0 (t, g, b, lb, N) i = fvl adl I L R p0 (t, g, b, lb, N) i) (hI : ∀ g k, oI g k ≠ p0 → I' g k = I g k) (hL : ∀ g k, oL g k ≠ p0 → L' g k = L g k) (hR : ∀ r k, r ≠ p0 → R' r k = R r k) (hs : ∀ k q, R' p0 k = some q → q < n ∨ R p0 k = some q)
    (kk : V l y cc nL ret Rm Qf X pc' lv (st) I' L' R' n ce sl) : V l y cc nL ret Rm Qf X pc lv (v :: .ref p0 :: st) I L R n ce sl := by
  subst hp
  intro p e s m args below meth c D cy adl0 adl H locs ls F X0 h1 h2 hP hD hS hl
  obtain ⟨q, q1, q2, q3, q4, q5, q6⟩ := hf
  obtain ⟨z, tyf, z1, z2, z3, z4, z5, z6⟩ := hg
  cases q1.symm.trans z1
  have he : (wsO cy adl I L R).set p0 (mva adl p0, .inr (t, ((List.range (nf t)).map (fvl adl I L R p0 (t, g, b, lb, N))).set j (mv adl v))) = wsO cy adl I' L' R' := by
    refine ws_put hk h2.1 ?_ hI hL hR
    rw [celK_obj q2, range_set (by omega) (hv adl) (ho adl)]
  have hKK : ∀ (H1 : Heap) (locs1 : List Loc), va_P D vwCl ((wsO cy adl I L R).set p0 (mva adl p0, .inr (t, ((List.range (nf t)).map (fvl adl I L R p0 (t, g, b, lb, N))).set j (mv adl v)))) H1 → va_D (A0 adl0 s.heap.size) ((wsO cy adl I L R).set p0 (mva adl p0, .inr (t, ((List.range (nf t)).map (fvl adl I L R p0 (t, g, b, lb, N))).set j (mv adl v)))) → va_S (A0 adl0 s.heap.size) s.heap H1 locs1 → W p l e Rm s m args below meth c H1 locs1 ce sl (Qf below args s D cy adl0) (F0 m (pc + 3) ls (st.map (mv adl))) := by
    intro H1 locs1 hP1 hD1 hS1
    rw [he] at hP1 hD1
    exact kk p e s m args below meth c D cy adl0 adl H1 locs1 ls F X0 h1 (h2.put hk.2.1 hI hL hR hs) hP1 hD1 hS1 hl
  cases fin with
  | false => exact va_put (v := mv adl v) (ref := (q.2.1 j).1) F.1 F.2.1 F.2.2.2.2.1 q5 tyf z2 z3 F.2.2.2.1 F.2.2.2.2.2.2.2.2.1 hP hD hS p0 (hk.o q2 h2.1) q1 j q3 (F.2.2.2.2.1 _ q6) (fun _ h => h) z4 z5 (hna adl) (hfi adl) (by simp; omega) hd hKK
  | true =>
    have hin : meth.name = "<init>" := by
      rcases hfin with h | h
      · cases h
      · rw [F.2.2.2.2.2.2.2.1]; exact h
    exact va_putF (v := mv adl v) (ref := (q.2.1 j).1) F.1 F.2.1 F.2.2.2.2.1 q5 tyf z2 z3 F.2.2.2.1 F.2.2.2.2.2.2.2.2.1 hP hD hS p0 (hk.o q2 h2.1) q1 j q3 (F.2.2.2.2.1 _ q6) (fun _ h => h) z4 hin (z6 rfl) z5 (hna adl) (hfi adl) (by simp; omega) hd hKK
theorem v_putI {v : Int32} {fin : Bool} {ty : FieldType} (hd : decode cc pc = .ok (.putfield idx, 3)) (hp : pc + 3 = pc') (hf : GF y.cls idx t j) (hg : PFd y.cls t j fin ty) (hk : KP n p0 (t, g, b, lb, N)) (ht : fty t j = (0, off)) (hfin : fin = false ∨ y.name = "<init>") (hna : narrow ty (.int v) = .int v) (hfi : fits ty (.int v) = true) (kk : V l y cc nL ret Rm Qf X pc' lv (st) (stI I g (b + off) v) L R n ce sl) : V l y cc nL ret Rm Qf X pc lv (.int v :: .ref p0 :: st) I L R n ce sl := by
  obtain ⟨q, q1, q2, q3, q4, -⟩ := id hf
  have ow : oI g (b + off) = p0 := by
    have := own_f (p := p0) (j := j) (by rw [hk.1]; exact q2) (by rw [hk.1]; show j < nf t; omega) (by rw [hk.1]; show (fty t j).1 = 0; rw [ht])
    rw [hk.1] at this
    simpa [ht] using this
  refine v_putV hd hp hf hg hk hfin (fun _ => hna) (fun _ => hfi) (fun adl => ?_) (fun adl i hi hne => ?_) (stI_off ow) (fun _ _ _ => rfl) (fun _ _ _ => rfl) (fun _ _ h => Or.inr h) kk
  · simp [fvl, ht, mv, stI_self]
  · unfold fvl
    by_cases a : (fty t i).1 = 0
    · simp only [a, if_true]
      rw [stI_ne]
      rintro ⟨-, a2⟩
      exact hne (fty_inj t q2 i hi j (by omega) (by rw [a, ht]) (by rw [a]; decide) (by rw [ht]; simp only; omega))
    · simp [a]
theorem v_putL {v : Int64} {fin : Bool} {ty : FieldType} (hd : decode cc pc = .ok (.putfield idx, 3)) (hp : pc + 3 = pc') (hf : GF y.cls idx t j) (hg : PFd y.cls t j fin ty) (hk : KP n p0 (t, g, b, lb, N)) (ht : fty t j = (1, off)) (hfin : fin = false ∨ y.name = "<init>") (hna : narrow ty (.long v) = .long v) (hfi : fits ty (.long v) = true) (kk : V l y cc nL ret Rm Qf X pc' lv (st) I (stL L g (lb + off) v) R n ce sl) : V l y cc nL ret Rm Qf X pc lv (.long v :: .ref p0 :: st) I L R n ce sl := by
  obtain ⟨q, q1, q2, q3, q4, -⟩ := id hf
  have ow : oL g (lb + off) = p0 := by
    have := own_fl (p := p0) (j := j) (by rw [hk.1]; exact q2) (by rw [hk.1]; show j < nf t; omega) (by rw [hk.1]; show (fty t j).1 = 1; rw [ht])
    rw [hk.1] at this
    simpa [ht] using this
  refine v_putV hd hp hf hg hk hfin (fun _ => hna) (fun _ => hfi) (fun adl => ?_) (fun adl i hi hne => ?_) (fun _ _ _ => rfl) (stL_off ow) (fun _ _ _ => rfl) (fun _ _ h => Or.inr h) kk
  · simp [fvl, ht, mv, stL_self]
  · unfold fvl
    by_cases a : (fty t i).1 = 1
    · simp only [a, if_true]
      rw [stL_ne]
      rintro ⟨-, a2⟩
      exact hne (fty_inj t q2 i hi j (by omega) (by rw [a, ht]) (by rw [a]; decide) (by rw [ht]; simp only; omega))
    · simp [a]
theorem v_putR {q0 : Nat} {fin : Bool} {ty : FieldType} (hd : decode cc pc = .ok (.putfield idx, 3)) (hp : pc + 3 = pc') (hf : GF y.cls idx t j) (hg : PFd y.cls t j fin ty) (hk : KP n p0 (t, g, b, lb, N)) (ht : fty t j = (2, off)) (hfin : fin = false ∨ y.name = "<init>") (hq : q0 < 1000) (hqn : q0 < n) (hna : ∀ a, narrow ty (.ref a) = .ref a) (hfi : ∀ a, fits ty (.ref a) = true) (kk : V l y cc nL ret Rm Qf X pc' lv (st) I L (stR R p0 j (some q0)) n ce sl) : V l y cc nL ret Rm Qf X pc lv (.ref q0 :: .ref p0 :: st) I L R n ce sl := by
  refine v_putV hd hp hf hg hk hfin (fun _ => hna _) (fun _ => hfi _) (fun adl => ?_) (fun adl i hi hne => ?_) (fun _ _ _ => rfl) (fun _ _ _ => rfl) stR_off (fun k q h => by
    by_cases hk2 : k = j
    · subst hk2
      rw [stR_self] at h
      cases h
      exact Or.inl hqn
    · rw [stR_ne (fun z => hk2 z.2)] at h
      exact Or.inr h) kk
  · simp [fvl, ht, mv, stR_self, rA, va_rf, mva, Nat.lt_trans hq (by decide : 1000 < 1000000)]
  · unfold fvl
    have e : stR R p0 j (some q0) p0 i = R p0 i := stR_ne (fun q => hne q.2)
    rw [e]
theorem nI_cl {k N : Nat} (h : k < N) (hN : N < 10000) : (nI k).toNatClampNeg = k := clamp_of rfl (by omega)
theorem v_iaload {k : Nat} {i : Int32} (hd : decode cc pc = .ok (.iaload, 1)) (hp : pc + 1 = pc') (hk : KP n p0 (9, g, b, lb, N)) (hi : i = nI k) (hkN : k < N) (kk : V l y cc nL ret Rm Qf X pc' lv (.int (I g (b + k)) :: st) I L R n ce sl) : V l y cc nL ret Rm Qf X pc lv (.int i :: .ref p0 :: st) I L R n ce sl := by
  subst hp
  subst hi
  intro p e s m args below meth c D cy adl0 adl H locs ls F X0 h1 h2 hP hD hS hl
  have hN : N < 10000 := hk.2.2.2
  refine va_iald F.1 F.2.1 F.2.2.2.2.2.2.2.2.1 hP p0 0 (hk.i h2.1) rfl (vp_in_nI hkN (by omega)) hd ?_
  rw [nI_cl hkN hN, if_pos hkN]
  exact kk p e s m args below meth c D cy adl0 adl H locs ls F X0 h1 h2 hP hD hS hl
theorem v_laload {k : Nat} {i : Int32} (hd : decode cc pc = .ok (.laload, 1)) (hp : pc + 1 = pc') (hk : KP n p0 (10, g, b, lb, N)) (hi : i = nI k) (hkN : k < N) (kk : V l y cc nL ret Rm Qf X pc' lv (.long (L g (b + k)) :: st) I L R n ce sl) : V l y cc nL ret Rm Qf X pc lv (.int i :: .ref p0 :: st) I L R n ce sl := by
  subst hp
  subst hi
  intro p e s m args below meth c D cy adl0 adl H locs ls F X0 h1 h2 hP hD hS hl
  have hN : N < 10000 := hk.2.2.2
  refine va_lald F.1 F.2.1 F.2.2.2.2.2.2.2.2.1 hP p0 1 (hk.l h2.1) rfl (vp_in_nI hkN (by omega)) hd ?_
  rw [nI_cl hkN hN, if_pos hkN]
  exact kk p e s m args below meth c D cy adl0 adl H locs ls F X0 h1 h2 hP hD hS hl
theorem v_iastore {k : Nat} {i v : Int32} (hd : decode cc pc = .ok (.iastore, 1)) (hp : pc + 1 = pc') (hk : KP n p0 (9, g, b, lb, N)) (hi : i = nI k) (hkN : k < N) (kk : V l y cc nL ret Rm Qf X pc' lv (st) (stI I g (b + k) v) L R n ce sl) : V l y cc nL ret Rm Qf X pc lv (.int v :: .int i :: .ref p0 :: st) I L R n ce sl := by
  subst hp
  subst hi
  intro p e s m args below meth c D cy adl0 adl H locs ls F X0 h1 h2 hP hD hS hl
  have hN : N < 10000 := hk.2.2.2
  have ow : oI g (b + k) = p0 := by
    have := own_a (p := p0) (j := k) (by rw [hk.1]) (by rw [hk.1]; exact hkN)
    rw [hk.1] at this
    exact this
  refine va_iast F.1 F.2.1 F.2.2.2.2.2.2.2.2.1 hP hD hS p0 0 (hk.i h2.1) rfl (vp_in_nI hkN (by omega)) hd (fun H1 locs1 hP1 hD1 hS1 => ?_)
  rw [nI_cl hkN hN] at hP1 hD1
  have he : (wsO cy adl I L R).set p0 (mva adl p0, .inl (cy 0, N, .inl (upd (fun j => if j < N then I g (b + j) else 0) k v))) = wsO cy adl (stI I g (b + k) v) L R := by
    refine ws_put hk h2.1 ?_ (stI_off ow) (fun _ _ _ => rfl) (fun _ _ _ => rfl)
    rw [celK_i]
    congr 4
    funext q
    unfold upd
    by_cases hq : q = k
    · subst hq
      rw [if_pos rfl, if_pos hkN, stI_self]
    · rw [if_neg hq]
      by_cases hq2 : q < N
      · show (if q < N then I g (b + q) else 0) = _
        rw [if_pos hq2, if_pos hq2, stI_ne (fun z => hq (by omega))]
      · show (if q < N then I g (b + q) else 0) = _
        rw [if_neg hq2, if_neg hq2]
  first | rw [he] at hP1 hD1 | (simp only [vp_nar] at hP1 hD1; rw [he] at hP1 hD1)
  exact kk p e s m args below meth c D cy adl0 adl H1 locs1 ls F X0 h1 (h2.put hk.2.1 (stI_off ow) (fun _ _ _ => rfl) (fun _ _ _ => rfl) (fun _ _ h => Or.inr h)) hP1 hD1 hS1 hl
theorem v_lastore {k : Nat} {i : Int32} {v : Int64} (hd : decode cc pc = .ok (.lastore, 1)) (hp : pc + 1 = pc') (hk : KP n p0 (10, g, b, lb, N)) (hi : i = nI k) (hkN : k < N) (kk : V l y cc nL ret Rm Qf X pc' lv (st) I (stL L g (b + k) v) R n ce sl) : V l y cc nL ret Rm Qf X pc lv (.long v :: .int i :: .ref p0 :: st) I L R n ce sl := by
  subst hp
  subst hi
  intro p e s m args below meth c D cy adl0 adl H locs ls F X0 h1 h2 hP hD hS hl
  have hN : N < 10000 := hk.2.2.2
  have ow : oL g (b + k) = p0 := by
    have := own_al (p := p0) (j := k) (by rw [hk.1]) (by rw [hk.1]; exact hkN)
    rw [hk.1] at this
    exact this
  refine va_last F.1 F.2.1 F.2.2.2.2.2.2.2.2.1 hP hD hS p0 1 (hk.l h2.1) rfl (vp_in_nI hkN (by omega)) hd (fun H1 locs1 hP1 hD1 hS1 => ?_)
  rw [nI_cl hkN hN] at hP1 hD1
  have he : (wsO cy adl I L R).set p0 (mva adl p0, .inl (cy 1, N, .inr (.inl (vp_updL (fun j => if j < N then L g (b + j) else 0) k v)))) = wsO cy adl I (stL L g (b + k) v) R := by
    refine ws_put hk h2.1 ?_ (fun _ _ _ => rfl) (stL_off ow) (fun _ _ _ => rfl)
    rw [celK_l]
    congr 5
    funext q
    unfold vp_updL
    by_cases hq : q = k
    · subst hq
      rw [if_pos rfl, if_pos hkN, stL_self]
    · rw [if_neg hq]
      by_cases hq2 : q < N
      · show (if q < N then L g (b + q) else 0) = _
        rw [if_pos hq2, if_pos hq2, stL_ne (fun z => hq (by omega))]
      · show (if q < N then L g (b + q) else 0) = _
        rw [if_neg hq2, if_neg hq2]
  rw [he] at hP1 hD1
  exact kk p e s m args below meth c D cy adl0 adl H1 locs1 ls F X0 h1 (h2.put hk.2.1 (fun _ _ _ => rfl) (stL_off ow) (fun _ _ _ => rfl) (fun _ _ h => Or.inr h)) hP1 hD1 hS1 hl
theorem v_alen {v : Int32} (hd : decode cc pc = .ok (.arraylength, 1)) (hp : pc + 1 = pc') (hk : KP n p0 (9, g, b, lb, N)) (hv : nI N = v) (kk : V l y cc nL ret Rm Qf X pc' lv (.int v :: st) I L R n ce sl) : V l y cc nL ret Rm Qf X pc lv (.ref p0 :: st) I L R n ce sl := by
  subst hp
  intro p e s m args below meth c D cy adl0 adl H locs ls F X0 h1 h2 hP hD hS hl
  exact va_alen F.1 F.2.1 F.2.2.2.2.2.2.2.2.1 hP p0 0 (hk.i h2.1) rfl hv hd (kk p e s m args below meth c D cy adl0 adl H locs ls F X0 h1 h2 hP hD hS hl)
theorem v_alenL {v : Int32} (hd : decode cc pc = .ok (.arraylength, 1)) (hp : pc + 1 = pc') (hk : KP n p0 (10, g, b, lb, N)) (hv : nI N = v) (kk : V l y cc nL ret Rm Qf X pc' lv (.int v :: st) I L R n ce sl) : V l y cc nL ret Rm Qf X pc lv (.ref p0 :: st) I L R n ce sl := by
  subst hp
  intro p e s m args below meth c D cy adl0 adl H locs ls F X0 h1 h2 hP hD hS hl
  exact va_alen F.1 F.2.1 F.2.2.2.2.2.2.2.2.1 hP p0 1 (hk.l h2.1) rfl hv hd (kk p e s m args below meth c D cy adl0 adl H locs ls F X0 h1 h2 hP hD hS hl)
theorem v_aaload {k q0 : Nat} {i : Int32} (hd : decode cc pc = .ok (.aaload, 1)) (hp : pc + 1 = pc') (hk : KP n p0 (11, g, b, lb, N)) (hi : i = nI k) (hkN : k < N) (hr : R p0 k = some q0) (hq : q0 < 1000) (kk : V l y cc nL ret Rm Qf X pc' lv (.ref q0 :: st) I L R n ce sl) : V l y cc nL ret Rm Qf X pc lv (.int i :: .ref p0 :: st) I L R n ce sl := by
  subst hp
  subst hi
  intro p e s m args below meth c D cy adl0 adl H locs ls F X0 h1 h2 hP hD hS hl
  have hN : N < 10000 := hk.2.2.2
  refine va_aldq (C := "DigestCaches$Cache") F.1 F.2.1 F.2.2.2.2.2.2.2.2.1 hP p0 2 (hk.q h2.1) rfl (vp_in_nI hkN (by omega)) hd ?_
  rw [nI_cl hkN hN, hr]
  have hq2 : q0 < 1000000 := by omega
  have ee : va_rf (rA adl (some q0)) = mv adl (.ref q0) := by simp [rA, va_rf, mv, mva, hq2]
  rw [ee]
  exact kk p e s m args below meth c D cy adl0 adl H locs ls F X0 h1 h2 hP hD hS hl
theorem v_aaloadS {k q0 : Nat} {i : Int32} (hd : decode cc pc = .ok (.aaload, 1)) (hp : pc + 1 = pc') (hk : KP n p0 (12, g, b, lb, N)) (hi : i = nI k) (hkN : k < N) (hr : R p0 k = some q0) (hq : q0 < 1000) (kk : V l y cc nL ret Rm Qf X pc' lv (.ref q0 :: st) I L R n ce sl) : V l y cc nL ret Rm Qf X pc lv (.int i :: .ref p0 :: st) I L R n ce sl := by
  subst hp
  subst hi
  intro p e s m args below meth c D cy adl0 adl H locs ls F X0 h1 h2 hP hD hS hl
  have hN : N < 10000 := hk.2.2.2
  refine va_aldq (C := "DigestCaches$State") F.1 F.2.1 F.2.2.2.2.2.2.2.2.1 hP p0 3 (hk.z h2.1) rfl (vp_in_nI hkN (by omega)) hd ?_
  rw [nI_cl hkN hN, hr]
  have hq2 : q0 < 1000000 := by omega
  have ee : va_rf (rA adl (some q0)) = mv adl (.ref q0) := by simp [rA, va_rf, mv, mva, hq2]
  rw [ee]
  exact kk p e s m args below meth c D cy adl0 adl H locs ls F X0 h1 h2 hP hD hS hl
theorem v_aastore {k q0 g' b' lb' N' : Nat} {i : Int32} (hd : decode cc pc = .ok (.aastore, 1)) (hp : pc + 1 = pc') (hk : KP n p0 (11, g, b, lb, N)) (hq : KP n q0 (0, g', b', lb', N')) (hi : i = nI k) (hkN : k < N) (kk : V l y cc nL ret Rm Qf X pc' lv (st) I L (stR R p0 k (some q0)) n ce sl) : V l y cc nL ret Rm Qf X pc lv (.ref q0 :: .int i :: .ref p0 :: st) I L R n ce sl := by
  subst hp
  subst hi
  intro p e s m args below meth c D cy adl0 adl H locs ls F X0 h1 h2 hP hD hS hl
  have hN : N < 10000 := hk.2.2.2
  refine va_astq (r := vwCl[0]) F.1 F.2.1 F.2.2.2.2.2.2.2.2.1 hP hD hS p0 2 q0 0 (hk.q h2.1) rfl (hq.o (by decide) h2.1) rfl (vp_in_nI hkN (by omega)) hd (fun H1 locs1 hP1 hD1 hS1 => ?_)
  rw [nI_cl hkN hN] at hP1 hD1
  have he : (wsO cy adl I L R).set p0 (mva adl p0, .inl (cy 2, N, .inr (.inr (.inr (.inr (va_up (fun j => rA adl (R p0 j)) k (some (mva adl q0)))))))) = wsO cy adl I L (stR R p0 k (some q0)) := by
    refine ws_put hk h2.1 ?_ (fun _ _ _ => rfl) (fun _ _ _ => rfl) stR_off
    rw [celK_q]
    congr 7
    funext z
    unfold va_up
    by_cases hz : z = k
    · subst hz
      rw [if_pos rfl, stR_self]
      have hq2 : q0 < 1000000 := by have := hq.2.2.1; omega
      simp [rA, mva, hq2]
    · rw [if_neg hz, stR_ne (fun h => hz h.2)]
  rw [he] at hP1 hD1
  exact kk p e s m args below meth c D cy adl0 adl H1 locs1 ls F X0 h1 (h2.put hk.2.1 (fun _ _ _ => rfl) (fun _ _ _ => rfl) stR_off (fun z q h => by
    by_cases hk2 : z = k
    · subst hk2
      rw [stR_self] at h
      cases h
      exact Or.inl hq.2.1
    · rw [stR_ne (fun x => hk2 x.2)] at h
      exact Or.inr h)) hP1 hD1 hS1 hl
theorem v_aastoreS {k q0 g' b' lb' N' : Nat} {i : Int32} (hd : decode cc pc = .ok (.aastore, 1)) (hp : pc + 1 = pc') (hk : KP n p0 (12, g, b, lb, N)) (hq : KP n q0 (4, g', b', lb', N')) (hi : i = nI k) (hkN : k < N) (kk : V l y cc nL ret Rm Qf X pc' lv (st) I L (stR R p0 k (some q0)) n ce sl) : V l y cc nL ret Rm Qf X pc lv (.ref q0 :: .int i :: .ref p0 :: st) I L R n ce sl := by
  subst hp
  subst hi
  intro p e s m args below meth c D cy adl0 adl H locs ls F X0 h1 h2 hP hD hS hl
  have hN : N < 10000 := hk.2.2.2
  refine va_astq (r := vwCl[4]) F.1 F.2.1 F.2.2.2.2.2.2.2.2.1 hP hD hS p0 3 q0 4 (hk.z h2.1) rfl (hq.o (by decide) h2.1) rfl (vp_in_nI hkN (by omega)) hd (fun H1 locs1 hP1 hD1 hS1 => ?_)
  rw [nI_cl hkN hN] at hP1 hD1
  have he : (wsO cy adl I L R).set p0 (mva adl p0, .inl (cy 3, N, .inr (.inr (.inr (.inr (va_up (fun j => rA adl (R p0 j)) k (some (mva adl q0)))))))) = wsO cy adl I L (stR R p0 k (some q0)) := by
    refine ws_put hk h2.1 ?_ (fun _ _ _ => rfl) (fun _ _ _ => rfl) stR_off
    rw [celK_z]
    congr 7
    funext z
    unfold va_up
    by_cases hz : z = k
    · subst hz
      rw [if_pos rfl, stR_self]
      have hq2 : q0 < 1000000 := by have := hq.2.2.1; omega
      simp [rA, mva, hq2]
    · rw [if_neg hz, stR_ne (fun h => hz h.2)]
  rw [he] at hP1 hD1
  exact kk p e s m args below meth c D cy adl0 adl H1 locs1 ls F X0 h1 (h2.put hk.2.1 (fun _ _ _ => rfl) (fun _ _ _ => rfl) stR_off (fun z q h => by
    by_cases hk2 : z = k
    · subst hk2
      rw [stR_self] at h
      cases h
      exact Or.inl hq.2.1
    · rw [stR_ne (fun x => hk2 x.2)] at h
      exact Or.inr h)) hP1 hD1 hS1 hl
theorem v_ret_aux {D : va_G} {cy : Nat → ClassId} {adl0 adl : List Nat} {s : State} {H : Heap} {locs : List Loc} {Po : PO} {r : Option Value} (h1 : adl0 <+: adl) (hP : va_P D vwCl (wsO cy adl I L R) H) (hD : va_D (A0 adl0 s.heap.size) (wsO cy adl I L R)) (hS : va_S (A0 adl0 s.heap.size) s.heap H locs) (h2 : AL adl n I L R) (hpo : Po r I L R n) (args : Array Value) : ∀ t : State, t.heap = H → s.WarmedH t.vm → QO D cy adl0 s.heap.size Po args s (.returned (r.map (mv adl))) t :=
  fun t ht _ => ⟨⟨r, adl, I, L, R, n, rfl, hpo, h2, h1, by rw [ht]; exact hP, hD⟩, hS.F ht⟩
theorem v_iret {mc ms : Nat} {Po : PO} {v : Int32} (hd : decode cc pc = .ok (.ireturn, 1)) (hr : ret = some .int) (hc : ce ≤ mc) (hs : sl ≤ ms) (hpo : Po (some (.int v)) I L R n) : V l y cc nL ret Rm (QM mc ms Po) X pc lv ([.int v]) I L R n ce sl := by
  subst hr
  intro p e s m args below meth c D cy adl0 adl H locs ls F X0 h1 h2 hP hD hS hl
  refine W.widen hc hs ?_
  have hlk := F.2.2.2.2.2.2.1
  exact W.iret (v := v) F.1 F.2.1 F.2.2.2.2.2.1 (v_ret_aux (r := some (.int v)) h1 hP hD hS h2 hpo args) hS.2.2 hd hlk
theorem v_zret {mc ms : Nat} {Po : PO} {v : Int32} (hd : decode cc pc = .ok (.ireturn, 1)) (hr : ret = some .boolean) (hn : narrow .boolean (.int v) = .int v) (hc : ce ≤ mc) (hs : sl ≤ ms) (hpo : Po (some (.int v)) I L R n) : V l y cc nL ret Rm (QM mc ms Po) X pc lv ([.int v]) I L R n ce sl := by
  subst hr
  intro p e s m args below meth c D cy adl0 adl H locs ls F X0 h1 h2 hP hD hS hl
  refine W.widen hc hs ?_
  have hlk := F.2.2.2.2.2.2.1
  exact W.zret (v := v) F.1 F.2.1 F.2.2.2.2.2.1 hn (v_ret_aux (r := some (.int v)) h1 hP hD hS h2 hpo args) hS.2.2 hd hlk
theorem v_lret {mc ms : Nat} {Po : PO} {v : Int64} (hd : decode cc pc = .ok (.lreturn, 1)) (hr : ret = some .long) (hc : ce ≤ mc) (hs : sl ≤ ms) (hpo : Po (some (.long v)) I L R n) : V l y cc nL ret Rm (QM mc ms Po) X pc lv ([.long v]) I L R n ce sl := by
  subst hr
  intro p e s m args below meth c D cy adl0 adl H locs ls F X0 h1 h2 hP hD hS hl
  refine W.widen hc hs ?_
  have hlk := F.2.2.2.2.2.2.1
  exact W.lret (v := v) F.1 F.2.1 F.2.2.2.2.2.1 (v_ret_aux (r := some (.long v)) h1 hP hD hS h2 hpo args) hS.2.2 hd hlk
theorem v_vret {mc ms : Nat} {Po : PO} (hd : decode cc pc = .ok (.return_, 1)) (hr : ret = none) (hc : ce ≤ mc) (hs : sl ≤ ms) (hpo : Po none I L R n) : V l y cc nL ret Rm (QM mc ms Po) X pc lv ([]) I L R n ce sl := by
  subst hr
  intro p e s m args below meth c D cy adl0 adl H locs ls F X0 h1 h2 hP hD hS hl
  refine W.widen hc hs ?_
  have hlk := F.2.2.2.2.2.2.1
  exact W.vret F.1 F.2.1 F.2.2.2.2.2.1 (v_ret_aux (r := none) h1 hP hD hS h2 hpo args) hS.2.2 hd hlk
end HEAP
