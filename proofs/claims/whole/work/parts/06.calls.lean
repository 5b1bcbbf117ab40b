def eqP (r0 : Option Value) (I0 : MI) (L0 : ML) (R0 : MR) (n0 : Nat) : PO := fun r I L R n => r = r0 ∧ I = I0 ∧ L = L0 ∧ R = R0 ∧ n = n0
def scv (n : Nat) : Value → Bool
  | .ref k => Nat.blt k n || Nat.ble 1000000 k
  | _ => true
def scp (n : Nat) (lv : List (Option Value)) (rest : List Value) : Bool := lv.all (fun o => match o with | some v => scv n v | none => true) && rest.all (scv n)
theorem mva_pre {adl adl' : List Nat} {n k : Nat} (h : adl <+: adl') (hn : adl.length = n) (hv : (Nat.blt k n || Nat.ble 1000000 k) = true) : mva adl' k = mva adl k := by
  simp only [Bool.or_eq_true, Nat.blt_eq, Nat.ble_eq] at hv
  unfold mva
  rcases hv with hk | hk
  · by_cases hM : k < 1000000
    · rw [if_pos hM, if_pos hM]
      obtain ⟨t, rfl⟩ := h
      rw [List.getD_eq_getElem?_getD, List.getD_eq_getElem?_getD, List.getElem?_append_left (by omega)]
    · rw [if_neg hM, if_neg hM]
  · rw [if_neg (by omega), if_neg (by omega)]
theorem mv_pre {adl adl' : List Nat} {n : Nat} {v : Value} (h : adl <+: adl') (hn : adl.length = n) (hv : scv n v = true) : mv adl' v = mv adl v := by
  cases v with
  | ref k => exact congrArg Value.ref (mva_pre h hn hv)
  | _ => rfl
theorem asc_pre {adl adl' : List Nat} {n : Nat} (h : adl <+: adl') (hn : adl.length = n) : ∀ {lv : List (Option Value)} {i : Nat}, lv.all (fun o => match o with | some v => scv n v | none => true) = true → asc adl' i lv = asc adl i lv
  | [], _, _ => rfl
  | none :: t, i, hv => by
    simp only [List.all_cons, Bool.and_eq_true] at hv
    exact asc_pre h hn (lv := t) hv.2
  | some v :: t, i, hv => by
    simp only [List.all_cons, Bool.and_eq_true] at hv
    show (i, mv adl' v) :: asc adl' (i + 1) t = (i, mv adl v) :: asc adl (i + 1) t
    rw [asc_pre h hn (lv := t) hv.2, mv_pre h hn hv.1]
theorem map_pre {adl adl' : List Nat} {n : Nat} (h : adl <+: adl') (hn : adl.length = n) {rest : List Value} (hv : rest.all (scv n) = true) : rest.map (mv adl') = rest.map (mv adl) := by
  apply List.map_congr_left
  intro v hm
  exact mv_pre h hn (List.all_eq_true.mp hv v hm)
theorem cat_map (adl : List Nat) (rest : List Value) : ((rest.map (mv adl)).map fun v => v.category) = rest.map fun v => v.category := by
  rw [List.map_map]
  apply List.map_congr_left
  intro v _
  exact mv_cat adl v
def rck (Rm : Room) (d' nL' mc' ms' ce sl : Nat) : Bool := Nat.ble (d' + 1) Rm.frames && (Nat.ble (19 + nL' + 34 * d') Rm.locals && (Nat.ble (ce + mc') Rm.cells && Nat.ble (sl + ms') Rm.slots))
theorem rck_of {Rm : Room} {d' nL' mc' ms' ce sl : Nat} (h : rck Rm d' nL' mc' ms' ce sl = true) : ((rmd d' mc' ms').frames + 1 ≤ Rm.frames ∧ 8 + (nL' + 11) + (rmd d' mc' ms').locals ≤ Rm.locals) ∧ ce + mc' ≤ Rm.cells ∧ sl + ms' ≤ Rm.slots := by
  simp only [rck, Bool.and_eq_true, Nat.ble_eq] at h
  refine ⟨⟨h.1, ?_⟩, h.2.2.1, h.2.2.2⟩
  show 8 + (nL' + 11) + 34 * d' ≤ Rm.locals
  omega
theorem cpy_tr {α : Type} (z : α) (f g : Nat → α) {b b' N N' cnt : Nat} (hN : cnt ≤ N) (hN' : cnt ≤ N') : va_cpy (fun j => if j < N then f (b + j) else z) (fun j => if j < N' then g (b' + j) else z) 0 0 cnt = fun j => if j < N' then va_cpy f g b b' cnt (b' + j) else z := by
  funext q
  show (if 0 ≤ q ∧ q < 0 + cnt then (if 0 + (q - 0) < N then f (b + (0 + (q - 0))) else z) else (if q < N' then g (b' + q) else z)) = (if q < N' then (if b' ≤ b' + q ∧ b' + q < b' + cnt then f (b + (b' + q - b')) else g (b' + q)) else z)
  by_cases h : q < cnt
  · rw [if_pos (by omega), if_pos (by omega), if_pos (by omega), if_pos (by omega), show 0 + (q - 0) = q by omega, show b' + q - b' = q by omega]
  · rw [if_neg (show ¬ (0 ≤ q ∧ q < 0 + cnt) by omega), if_neg (show ¬ (b' ≤ b' + q ∧ b' + q < b' + cnt) by omega)]
def okPc (D : va_G) (cy : Nat → ClassId) (adl : List Nat) (sz : Nat) (as : List Value) (I : MI) (L : ML) (R : MR) : Array Value → State → Prop := va_Pc (as.map (mv adl)) (fun U => U.heap.size = sz ∧ va_P D vwCl (wsO cy adl I L R) U.heap ∧ va_K D vwCl (tyO cy) U ∧ va_D (fun _ => True) (wsO cy adl I L R) ∧ xt U ∧ stt (A0 adl sz) U U.heap)
theorem ok_blind (D : va_G) (cy : Nat → ClassId) (adl : List Nat) (sz : Nat) (as : List Value) (I : MI) (L : ML) (R : MR) : FrameBlind (okPc D cy adl sz as I L R) := fun a U g mk q => by
  obtain ⟨q0, q1, q2, q3, q4, q5, q6⟩ := q
  exact ⟨q0, q1, q2, va_K.moved (u := U) (U := U.calling g mk a) (Vm.Alike.refl U.vm) q3, q4, xt_same (u := U) (U := U.calling g mk a) rfl q5, stt_moved (u := U) (U := U.calling g mk a) (Vm.Alike.refl U.vm) q6⟩
theorem A0_sub {cy : Nat → ClassId} {adl0 adl : List Nat} {I : MI} {L : ML} {R : MR} {s : State} {H : Heap} {locs : List Loc} (hD : va_D (A0 adl0 s.heap.size) (wsO cy adl I L R)) (hS : va_S (A0 adl0 s.heap.size) s.heap H locs) : ∀ q, A0 adl H.size q → A0 adl0 s.heap.size q := by
  intro q h
  rcases h with h | h
  · obtain ⟨k, e, hk⟩ := wsO_addr (cy := cy) (I := I) (L := L) (R := R) h
    exact hD.2 k _ hk
  · exact Or.inr (Nat.le_trans hS.1 h)
theorem ok_pre {p : Program} {s : State} {m : MethodId} {args : Array Value} {meth : Method} {c : Code} {y : MethodName} {cc : ByteArray} {nL : Nat} {ret : Option FieldType} {D : va_G} {cy : Nat → ClassId} {adl0 adl : List Nat} {I : MI} {L : ML} {R : MR} {H : Heap} {locs : List Loc} (F : Fx p s m args meth c y cc nL ret D cy adl0)
    (hP : va_P D vwCl (wsO cy adl I L R) H) (hD : va_D (A0 adl0 s.heap.size) (wsO cy adl I L R)) (hS : va_S (A0 adl0 s.heap.size) s.heap H locs) (as : List Value) : ∀ U : State, U.heap = H → s.WarmedH U.vm → okPc D cy adl H.size as I L R (as.map (mv adl)).toArray U := by
  intro U hU hW
  refine ⟨rfl, by rw [hU], by rw [hU]; exact hP, va_K.moved hW.alike F.2.2.2.2.2.2.2.2.1, hD.weaken (fun _ _ _ _ => trivial), xt_warm hW F.2.2.2.2.2.2.2.2.2.1, ?_⟩
  rw [hU]
  exact stt_moved hW.alike (stt_narrow (stt_kept F.2.2.2.2.2.2.2.2.2.2 hS.2.1) (A0_sub hD hS))
section CALLS
variable {l : Launch} {y : MethodName} {cc : ByteArray} {nL : Nat} {ret : Option FieldType} {Rm : Room} {Qf : QF} {X : State → List Nat → Prop} {pc pc' tgt : Nat} {lv : List (Option Value)} {st : List Value} {I : MI} {L : ML} {R : MR} {n ce sl : Nat} {p0 t g b lb N j off idx : Nat}
variable {y' : MethodName} {cc' : ByteArray} {nL' : Nat} {ret' : Option FieldType} {d' mc' ms' k : Nat} {as rest : List Value} {r0 : Option Value} {I0 : MI} {L0 : ML} {R0 : MR} {n0 : Nat}

theorem v_callAux (hrun : ∀ (p : Program) (e : Env) (s : State) (m : MethodId) (args : Array Value) (below : List Frame) (meth : Method) (c : Code) (D : va_G) (cy : Nat → ClassId) (adl0 adl : List Nat) (H : Heap) (locs : List Loc) (ls : Array Slot), Fx p s m args meth c y cc nL ret D cy adl0 → AL adl n I L R → va_P D vwCl (wsO cy adl I L R) H → va_D (A0 adl0 s.heap.size) (wsO cy adl I L R) → va_S (A0 adl0 s.heap.size) s.heap H locs → lvO ls nL adl lv → va_Run p l e Rm s m args below meth c H locs ce sl mc' ms' (F0 m pc ls (st.map (mv adl))) (rest.map (mv adl)) (QO D cy adl H.size (eqP r0 I0 L0 R0 n0) (as.map (mv adl)).toArray) (A0 adl H.size))
    (hsc : n0 = n ∨ scp n lv rest = true) (kk : V l y cc nL ret Rm Qf X (pc + 3) lv (r0.toList ++ rest) I0 L0 R0 n0 (ce + mc') (sl + ms')) : V l y cc nL ret Rm Qf X pc lv (st) I L R n ce sl := by
  intro p e s m args below meth c D cy adl0 adl H locs ls F X0 h1 h2 hP hD hS hl T hT X
  obtain ⟨v, st₀, t, T', Lc, e0, X', hL, e1, e2, ⟨⟨r, adl', I', L', R', n', hv, ⟨q1, q2, q3, q4, q5⟩, hAL, hpre, hP1, hD1⟩, hz, hk⟩, stp⟩ := hrun p e s m args below meth c D cy adl0 adl H locs ls F h2 hP hD hS hl T hT X
  subst q1; subst q2; subst q3; subst q4; subst q5
  have hv : v = r.map (mv adl') := by cases hv; rfl
  subst hv
  rw [e0] at hz hk
  have hA := A0_sub hD hS
  have hsc' : lvO ls nL adl' lv ∧ rest.map (mv adl) = rest.map (mv adl') := by
    rcases hsc with hsc | hsc
    · have : adl = adl' := hpre.eq_of_length (by rw [h2.1, hAL.1, hsc])
      subst this
      exact ⟨hl, rfl⟩
    · simp only [scp, Bool.and_eq_true] at hsc
      refine ⟨?_, (map_pre hpre h2.1 hsc.2).symm⟩
      unfold lvO
      rw [asc_pre hpre h2.1 hsc.1]
      exact hl
  obtain ⟨t2, a1, b1⟩ := kk p e s m args below meth c D cy adl0 adl' T'.heap (locs ++ Lc) ls F X0 (h1.trans hpre) hAL (by rw [e1]; exact hP1) (hD1.weaken (fun _ _ _ h => hA _ h))
    ⟨Nat.le_trans hS.1 (by rw [e1]; exact hz), fun q g1 g2 => by rw [e1, hk q (Nat.lt_of_lt_of_le g1 hS.1) (fun z => g2 (hA q z))]; exact hS.2.1 q g1 g2, fun q hq => by
      rcases List.mem_append.mp hq with h | h
      · exact hS.2.2 q h
      · exact hA _ (hL q h)⟩ hsc'.1 T' rfl X'
  refine ⟨t2, stp t2 ?_, b1⟩
  have ef : (r.map (mv adl')).toList ++ rest.map (mv adl) = (r.toList ++ rest).map (mv adl') := by
    rw [hsc'.2, List.map_append]
    cases r <;> rfl
  rw [ef]
  exact a1
/-- the words of a call of an object's method, of a static one, of a constructor -/
def CV (own : String) (idx : Nat) (y' : MethodName) (cc' : ByteArray) (nL' : Nat) (ret' : Option FieldType) (k t : Nat) : Prop :=
  (Cond.methodLink own idx y' ∈ gtb ∧ Cond.instanceMethod y' ∈ gtb ∧ Cond.selects y'.cls y' y' ∈ gtb ∧ Cond.initialized y'.cls ∈ gtb ∧ Cond.code y' cc' nL' ret' ∈ gtb) ∧ (y'.cls ≠ "java/lang/invoke/MethodHandle" ∧ y'.cls ≠ "java/lang/invoke/VarHandle" ∧ (parseMethodDescriptor y'.desc).map (fun d => d.parameters.length) = some k) ∧ (∃ q : vw_C, vwCl[t]? = some q ∧ q.1 = y'.cls) ∧ t < 9
def CS (own : String) (idx : Nat) (y' : MethodName) (cc' : ByteArray) (nL' : Nat) (ret' : Option FieldType) (k : Nat) : Prop :=
  (Cond.methodLink own idx y' ∈ gtb ∧ Cond.static y' ∈ gtb ∧ Cond.initialized y'.cls ∈ gtb ∧ Cond.code y' cc' nL' ret' ∈ gtb) ∧ (y'.cls ≠ "java/lang/invoke/MethodHandle" ∧ y'.cls ≠ "java/lang/invoke/VarHandle" ∧ (parseMethodDescriptor y'.desc).map (fun d => d.parameters.length) = some k)
def CSN (own : String) (idx : Nat) (y' : MethodName) (cc' : ByteArray) (nL' : Nat) (ret' : Option FieldType) (k : Nat) : Prop :=
  ((∃ host : String, (own, idx, y', host) ∈ xtN) ∧ Cond.static y' ∈ gtb ∧ Cond.initialized y'.cls ∈ gtb ∧ Cond.code y' cc' nL' ret' ∈ gtb) ∧ (y'.cls ≠ "java/lang/invoke/MethodHandle" ∧ y'.cls ≠ "java/lang/invoke/VarHandle" ∧ (parseMethodDescriptor y'.desc).map (fun d => d.parameters.length) = some k)
def CI (own : String) (idx : Nat) (y' : MethodName) (cc' : ByteArray) (nL' : Nat) (k : Nat) : Prop :=
  ((Cond.methodLink own idx y' ∈ gtb ∨ ∃ host : String, (own, idx, y', host) ∈ xtN) ∧ Cond.instanceMethod y' ∈ gtb ∧ Cond.initialized y'.cls ∈ gtb ∧ Cond.code y' cc' nL' none ∈ gtb ∧ y'.name = "<init>") ∧ (y'.cls ≠ "java/lang/invoke/MethodHandle" ∧ y'.cls ≠ "java/lang/invoke/VarHandle" ∧ (parseMethodDescriptor y'.desc).map (fun d => d.parameters.length) = some k)
theorem gtb_code {w : Cond} (h : w ∈ gtb) : GoodIn gtb (w :: gtb) := fun x hx => by
  rcases List.mem_cons.mp hx with rfl | hx
  · exact gtb_good _ h
  · exact gtb_good _ hx
theorem v_callV (hd : decode cc pc = .ok (.invokevirtual idx, 3)) (hp : pc + 3 = pc') (hc : CV y.cls idx y' cc' nL' ret' k t) (hOk : Ok l y' cc' nL' ret' d' mc' ms' (.ref p0 :: as) I L R n (eqP r0 I0 L0 R0 n0)) (hk : KP n p0 (t, g, b, lb, N)) (hn : as.length = k) (hst : as.reverse ++ .ref p0 :: rest = st) (hcat : (rest.map (fun v => v.category)).sum ≤ 8) (hR : rck Rm d' nL' mc' ms' ce sl = true) (hsc : n0 = n ∨ scp n lv rest = true)
    (kk : V l y cc nL ret Rm Qf X pc' lv (r0.toList ++ rest) I0 L0 R0 n0 (ce + mc') (sl + ms')) : V l y cc nL ret Rm Qf X pc lv (st) I L R n ce sl := by
  subst hp
  subst hst
  obtain ⟨⟨c1, c2, c3, c4, c5⟩, c6, ⟨q, c7, c8⟩, c9⟩ := hc
  obtain ⟨hR1, hR2⟩ := rck_of hR
  refine v_callAux (as := .ref p0 :: as) (fun p e s m args below meth c D cy adl0 adl H locs ls F h2 hP hD hS hl => ?_) hsc kk
  have hM := hOk D cy adl H.size h2
  refine va_runV (As := as.map (mv adl)) (rest := rest.map (mv adl)) (b := mva adl p0) ⟨F.1, F.2.1, F.2.2.1, F.2.2.2.1, F.2.2.2.2.1⟩ hM (cwV (C := y'.cls) k F.2.2.2.2.1 ?_ rfl rfl rfl ⟨rfl, c6⟩ hR1) ⟨ok_blind D cy adl H.size _ I L R, ?_, ok_pre F hP hD hS _⟩ rfl (by simpa using hn) hl.1 ?_ ?_ hd hR2
  · intro x hx
    unfold wsV at hx
    rcases List.mem_append.mp hx with h | h
    · simp only [List.mem_cons, List.not_mem_nil, or_false] at h
      rcases h with rfl | rfl | rfl | rfl
      · exact gtb_good _ c1
      · exact gtb_good _ c2
      · exact gtb_good _ c3
      · exact gtb_good _ c4
    · exact gtb_code c5 x h
  · have := va_recv F.2.2.2.2.2.2.2.2.1 hP c7 (hk.o c9 h2.1)
    rw [← c8]
    exact this
  · show (as.reverse ++ .ref p0 :: rest).map (mv adl) = _
    rw [List.map_append, List.map_reverse]
    rfl
  · show 2 * 0 + _ ≤ 8
    rw [cat_map]
    omega
theorem v_callS (hd : decode cc pc = .ok (.invokestatic idx, 3)) (hp : pc + 3 = pc') (hc : CS y.cls idx y' cc' nL' ret' k) (hOk : Ok l y' cc' nL' ret' d' mc' ms' as I L R n (eqP r0 I0 L0 R0 n0)) (hn : as.length = k) (hst : as.reverse ++ rest = st) (hcat : (rest.map (fun v => v.category)).sum ≤ 8) (hR : rck Rm d' nL' mc' ms' ce sl = true) (hsc : n0 = n ∨ scp n lv rest = true)
    (kk : V l y cc nL ret Rm Qf X pc' lv (r0.toList ++ rest) I0 L0 R0 n0 (ce + mc') (sl + ms')) : V l y cc nL ret Rm Qf X pc lv (st) I L R n ce sl := by
  subst hp
  subst hst
  obtain ⟨⟨c1, c2, c4, c5⟩, c6⟩ := hc
  obtain ⟨hR1, hR2⟩ := rck_of hR
  refine v_callAux (as := as) (fun p e s m args below meth c D cy adl0 adl H locs ls F h2 hP hD hS hl => ?_) hsc kk
  have hM := hOk D cy adl H.size h2
  refine va_runS (As := as.map (mv adl)) (rest := rest.map (mv adl)) ⟨F.1, F.2.1, F.2.2.1, F.2.2.2.1, F.2.2.2.2.1⟩ hM (va_cwS k F.2.2.2.2.1 ?_ rfl rfl rfl c6 hR1) ⟨ok_blind D cy adl H.size _ I L R, ok_pre F hP hD hS _⟩ rfl (by simpa using hn) hl.1 ?_ ?_ hd hR2
  · intro x hx
    unfold va_wsS at hx
    rcases List.mem_append.mp hx with h | h
    · simp only [List.mem_cons, List.not_mem_nil, or_false] at h
      rcases h with rfl | rfl | rfl
      · exact gtb_good _ c1
      · exact gtb_good _ c2
      · exact gtb_good _ c4
    · exact gtb_code c5 x h
  · show (as.reverse ++ rest).map (mv adl) = _
    rw [List.map_append, List.map_reverse]
  · show 2 * 0 + _ ≤ 8
    rw [cat_map]
    omega
theorem v_callSN (hd : decode cc pc = .ok (.invokestatic idx, 3)) (hp : pc + 3 = pc') (hc : CSN y.cls idx y' cc' nL' ret' k) (hOk : Ok l y' cc' nL' ret' d' mc' ms' as I L R n (eqP r0 I0 L0 R0 n0)) (hn : as.length = k) (hst : as.reverse ++ rest = st) (hcat : (rest.map (fun v => v.category)).sum ≤ 8) (hR : rck Rm d' nL' mc' ms' ce sl = true) (hsc : n0 = n ∨ scp n lv rest = true)
    (kk : V l y cc nL ret Rm Qf X pc' lv (r0.toList ++ rest) I0 L0 R0 n0 (ce + mc') (sl + ms')) : V l y cc nL ret Rm Qf X pc lv (st) I L R n ce sl := by
  subst hp
  subst hst
  obtain ⟨⟨⟨host, c1⟩, c2, c4, c5⟩, c6⟩ := hc
  obtain ⟨hR1, hR2⟩ := rck_of hR
  refine v_callAux (as := as) (fun p e s m args below meth c D cy adl0 adl H locs ls F h2 hP hD hS hl => ?_) hsc kk
  have hM := hOk D cy adl H.size h2
  refine va_runSN (As := as.map (mv adl)) (rest := rest.map (mv adl)) ⟨F.1, F.2.1, F.2.2.1, F.2.2.2.1, F.2.2.2.2.1⟩ hM ⟨va_cnB k F.2.2.2.2.1 (gtb_code c5) rfl rfl rfl (F.2.2.2.2.2.2.2.2.2.1.1 _ c1) (F.2.2.2.2.1 _ c4) c6 hR1, F.2.2.2.2.1 _ c2, trivial⟩ ⟨ok_blind D cy adl H.size _ I L R, ok_pre F hP hD hS _⟩ rfl (by simpa using hn) hl.1 ?_ ?_ hd hR2
  · show (as.reverse ++ rest).map (mv adl) = _
    rw [List.map_append, List.map_reverse]
  · show 2 * 0 + _ ≤ 8
    rw [cat_map]
    omega
theorem v_callI (hd : decode cc pc = .ok (.invokespecial idx, 3)) (hp : pc + 3 = pc') (hc : CI y.cls idx y' cc' nL' k) (hOk : Ok l y' cc' nL' none d' mc' ms' (.ref p0 :: as) I L R n (eqP r0 I0 L0 R0 n0)) (hn : as.length = k) (hst : as.reverse ++ .ref p0 :: rest = st) (hcat : (rest.map (fun v => v.category)).sum ≤ 8) (hR : rck Rm d' nL' mc' ms' ce sl = true) (hsc : n0 = n ∨ scp n lv rest = true)
    (kk : V l y cc nL ret Rm Qf X pc' lv (r0.toList ++ rest) I0 L0 R0 n0 (ce + mc') (sl + ms')) : V l y cc nL ret Rm Qf X pc lv (st) I L R n ce sl := by
  subst hp
  subst hst
  obtain ⟨⟨c1, c2, c4, c5, c7⟩, c6⟩ := hc
  obtain ⟨hR1, hR2⟩ := rck_of hR
  refine v_callAux (as := .ref p0 :: as) (fun p e s m args below meth c D cy adl0 adl H locs ls F h2 hP hD hS hl => ?_) hsc kk
  have hM := hOk D cy adl H.size h2
  have est : (as.reverse ++ .ref p0 :: rest).map (mv adl) = (as.map (mv adl)).reverse ++ Value.ref (mva adl p0) :: rest.map (mv adl) := by
    rw [List.map_append, List.map_reverse]
    rfl
  have ect : 2 * 0 + ((rest.map (mv adl)).map fun v => v.category).sum ≤ 8 := by
    rw [cat_map]
    omega
  rcases c1 with c1 | ⟨host, c1⟩
  · exact va_runI (As := as.map (mv adl)) (rest := rest.map (mv adl)) (b := mva adl p0) ⟨F.1, F.2.1, F.2.2.1, F.2.2.2.1, F.2.2.2.2.1⟩ hM (cwI k F.2.2.2.2.1 (gtb_code c5) rfl rfl rfl (F.2.2.2.2.1 _ c4) (F.2.2.2.2.1 _ c1) (F.2.2.2.2.1 _ c2) c7 c6 hR1) ⟨ok_blind D cy adl H.size _ I L R, ok_pre F hP hD hS _⟩ rfl (by simpa using hn) hl.1 est ect hd hR2
  · exact va_runIN (As := as.map (mv adl)) (rest := rest.map (mv adl)) (b := mva adl p0) ⟨F.1, F.2.1, F.2.2.1, F.2.2.2.1, F.2.2.2.2.1⟩ hM ⟨va_cnB k F.2.2.2.2.1 (gtb_code c5) rfl rfl rfl (F.2.2.2.2.2.2.2.2.2.1.1 _ c1) (F.2.2.2.2.1 _ c4) c6 hR1, c7, F.2.2.2.2.1 _ c2⟩ ⟨ok_blind D cy adl H.size _ I L R, ok_pre F hP hD hS _⟩ rfl (by simpa using hn) hl.1 est ect hd hR2
theorem v_objInit (hd : decode cc pc = .ok (.invokespecial idx, 3)) (hp : pc + 3 = pc') (c1 : Cond.methodLink y.cls idx Lib.objectInit ∈ gtb) (c2 : Cond.instanceMethod Lib.objectInit ∈ gtb) (c3 : Cond.code Lib.objectInit ⟨#[0xb1]⟩ 1 none ∈ gtb) (hcat : (st.map (fun v => v.category)).sum ≤ 8) (hR : (Nat.ble 1 Rm.frames && Nat.ble 20 Rm.locals) = true) (kk : V l y cc nL ret Rm Qf X pc' lv (st) I L R n ce sl) : V l y cc nL ret Rm Qf X pc lv (.ref p0 :: st) I L R n ce sl := by
  subst hp
  intro p e s m args below meth c D cy adl0 adl H locs ls F X0 h1 h2 hP hD hS hl
  simp only [Bool.and_eq_true, Nat.ble_eq] at hR
  refine W.objInit F.1 F.2.1 F.2.2.2.1 (F.2.2.2.2.1 _ c1) (F.2.2.2.2.1 _ c2) (F.2.2.2.2.1 _ c3) rfl (by rw [F.2.2.1]; exact hl.1) rfl hd hR.1 ?_ (kk p e s m args below meth c D cy adl0 adl H locs ls F X0 h1 h2 hP hD hS hl)
  show 2 * 0 + _ + 12 ≤ _
  rw [cat_map]
  omega

def cpI (I : MI) (g b g' b' cnt : Nat) : MI := va_up I g' (va_cpy (I g) (I g') b b' cnt)
def cpL (L : ML) (g b g' b' cnt : Nat) : ML := va_up L g' (va_cpy (L g) (L g') b b' cnt)
theorem v_copyI {q0 g' b' lb' N' cnt : Nat} {c0 c1 c2 : Int32} (hd : decode cc pc = .ok (.invokestatic idx, 3)) (hp : pc + 3 = pc') (w1 : Cond.methodLink y.cls idx arraycopyName ∈ gtb) (w2 : Cond.native arraycopyName ∈ gtb) (w3 : Cond.static arraycopyName ∈ gtb) (w4 : Cond.initialized "java/lang/System" ∈ gtb)
    (hk : KP n p0 (9, g, b, lb, N)) (hq : KP n q0 (9, g', b', lb', N')) (hc0 : c0 = nI 0) (hc1 : c1 = nI 0) (hc2 : c2 = nI cnt) (hN : cnt ≤ N) (hN' : cnt ≤ N') (hcat : (st.map (fun v => v.category)).sum ≤ 8) (hR : (Nat.ble 1 Rm.frames && Nat.ble (8 + (nativeFrameWords "java/lang/System" "arraycopy" 5 + 11)) Rm.locals) = true)
    (kk : V l y cc nL ret Rm Qf X pc' lv (st) (cpI I g b g' b' cnt) L R n ce sl) : V l y cc nL ret Rm Qf X pc lv (.int c2 :: .int c1 :: .ref q0 :: .int c0 :: .ref p0 :: st) I L R n ce sl := by
  subst hp
  subst hc0; subst hc1; subst hc2
  intro p e s m args below meth c D cy adl0 adl H locs ls F X0 h1 h2 hP hD hS hl
  simp only [Bool.and_eq_true, Nat.ble_eq] at hR
  have hNb : N < 10000 := hk.2.2.2
  have hN2 : N' < 10000 := hq.2.2.2
  have e0 : (nI 0).toNatClampNeg = 0 := nI_cl (N := 1) (by omega) (by omega)
  have ec : (nI cnt).toNatClampNeg = cnt := clamp_of rfl (by omega)
  have n0 : ¬ nI 0 < 0 := by decide
  have nc : ¬ nI cnt < 0 := fun q => (vp_in_nI (n := cnt) (N := cnt + 1) (by omega) (by omega)) (Or.inl q)
  refine va_copyi F.1 F.2.1 (by rw [F.2.2.1]; exact hl.1.symm) F.2.2.2.1 (F.2.2.2.2.1 _ w1) (F.2.2.2.2.1 _ w2) (F.2.2.2.2.1 _ w3) (F.2.2.2.2.1 _ w4) F.2.2.2.2.2.2.2.2.1 hP hD hS p0 q0 0 0 (hk.i h2.1) (hq.i h2.1) rfl rfl rfl n0 n0 nc (by rw [e0, ec]; omega) (by rw [e0, ec]; omega) (fun _ _ => rfl) hR.1 (by rw [cat_map]; omega) hd (fun H1 locs1 hP1 hD1 hS1 => ?_)
  rw [e0, ec] at hP1 hD1
  have ow : ∀ j, j < cnt → oI g' (b' + j) = q0 := fun j hj => by
    have := own_a (p := q0) (j := j) (by rw [hq.1]) (by rw [hq.1]; show j < N'; omega)
    rw [hq.1] at this
    exact this
  have hoff : ∀ x z, oI x z ≠ q0 → cpI I g b g' b' cnt x z = I x z := by
    intro x z hx
    unfold cpI
    by_cases hxg : x = g'
    · subst hxg
      rw [va_up_self]
      unfold va_cpy
      rw [if_neg]
      rintro ⟨z1, z2⟩
      exact hx (by have := ow (z - b') (by omega); rw [show b' + (z - b') = z by omega] at this; exact this)
    · rw [va_up_ne _ _ hxg]
  have he : (wsO cy adl I L R).set q0 (mva adl q0, .inl (cy 0, N', .inl (va_cpy (fun j => if j < N then I g (b + j) else 0) (fun j => if j < N' then I g' (b' + j) else 0) 0 0 cnt))) = wsO cy adl (cpI I g b g' b' cnt) L R := by
    refine ws_put hq h2.1 ?_ hoff (fun _ _ _ => rfl) (fun _ _ _ => rfl)
    rw [celK_i]
    rw [cpy_tr _ _ _ hN hN']
    unfold cpI
    rw [va_up_self]
  rw [he] at hP1 hD1
  exact kk p e s m args below meth c D cy adl0 adl H1 locs1 ls F X0 h1 (h2.put hq.2.1 hoff (fun _ _ _ => rfl) (fun _ _ _ => rfl) (fun _ _ h => Or.inr h)) hP1 hD1 hS1 hl
theorem v_copyL {q0 g' b' lb' N' cnt : Nat} {c0 c1 c2 : Int32} (hd : decode cc pc = .ok (.invokestatic idx, 3)) (hp : pc + 3 = pc') (w1 : Cond.methodLink y.cls idx arraycopyName ∈ gtb) (w2 : Cond.native arraycopyName ∈ gtb) (w3 : Cond.static arraycopyName ∈ gtb) (w4 : Cond.initialized "java/lang/System" ∈ gtb)
    (hk : KP n p0 (10, g, b, lb, N)) (hq : KP n q0 (10, g', b', lb', N')) (hc0 : c0 = nI 0) (hc1 : c1 = nI 0) (hc2 : c2 = nI cnt) (hN : cnt ≤ N) (hN' : cnt ≤ N') (hcat : (st.map (fun v => v.category)).sum ≤ 8) (hR : (Nat.ble 1 Rm.frames && Nat.ble (8 + (nativeFrameWords "java/lang/System" "arraycopy" 5 + 11)) Rm.locals) = true)
    (kk : V l y cc nL ret Rm Qf X pc' lv (st) I (cpL L g b g' b' cnt) R n ce sl) : V l y cc nL ret Rm Qf X pc lv (.int c2 :: .int c1 :: .ref q0 :: .int c0 :: .ref p0 :: st) I L R n ce sl := by
  subst hp
  subst hc0; subst hc1; subst hc2
  intro p e s m args below meth c D cy adl0 adl H locs ls F X0 h1 h2 hP hD hS hl
  simp only [Bool.and_eq_true, Nat.ble_eq] at hR
  have hNb : N < 10000 := hk.2.2.2
  have hN2 : N' < 10000 := hq.2.2.2
  have e0 : (nI 0).toNatClampNeg = 0 := nI_cl (N := 1) (by omega) (by omega)
  have ec : (nI cnt).toNatClampNeg = cnt := clamp_of rfl (by omega)
  have n0 : ¬ nI 0 < 0 := by decide
  have nc : ¬ nI cnt < 0 := fun q => (vp_in_nI (n := cnt) (N := cnt + 1) (by omega) (by omega)) (Or.inl q)
  refine va_copyl F.1 F.2.1 (by rw [F.2.2.1]; exact hl.1.symm) F.2.2.2.1 (F.2.2.2.2.1 _ w1) (F.2.2.2.2.1 _ w2) (F.2.2.2.2.1 _ w3) (F.2.2.2.2.1 _ w4) F.2.2.2.2.2.2.2.2.1 hP hD hS p0 q0 1 1 (hk.l h2.1) (hq.l h2.1) rfl rfl rfl n0 n0 nc (by rw [e0, ec]; omega) (by rw [e0, ec]; omega) (fun _ _ => rfl) hR.1 (by rw [cat_map]; omega) hd (fun H1 locs1 hP1 hD1 hS1 => ?_)
  rw [e0, ec] at hP1 hD1
  have ow : ∀ j, j < cnt → oL g' (b' + j) = q0 := fun j hj => by
    have := own_al (p := q0) (j := j) (by rw [hq.1]) (by rw [hq.1]; show j < N'; omega)
    rw [hq.1] at this
    exact this
  have hoff : ∀ x z, oL x z ≠ q0 → cpL L g b g' b' cnt x z = L x z := by
    intro x z hx
    unfold cpL
    by_cases hxg : x = g'
    · subst hxg
      rw [va_up_self]
      unfold va_cpy
      rw [if_neg]
      rintro ⟨z1, z2⟩
      exact hx (by have := ow (z - b') (by omega); rw [show b' + (z - b') = z by omega] at this; exact this)
    · rw [va_up_ne _ _ hxg]
  have he : (wsO cy adl I L R).set q0 (mva adl q0, .inl (cy 1, N', .inr (.inl (va_cpy (fun j => if j < N then L g (b + j) else 0) (fun j => if j < N' then L g' (b' + j) else 0) 0 0 cnt)))) = wsO cy adl I (cpL L g b g' b' cnt) R := by
    refine ws_put hq h2.1 ?_ (fun _ _ _ => rfl) hoff (fun _ _ _ => rfl)
    rw [celK_l]
    rw [cpy_tr _ _ _ hN hN']
    unfold cpL
    rw [va_up_self]
  rw [he] at hP1 hD1
  exact kk p e s m args below meth c D cy adl0 adl H1 locs1 ls F X0 h1 (h2.put hq.2.1 (fun _ _ _ => rfl) hoff (fun _ _ _ => rfl) (fun _ _ h => Or.inr h)) hP1 hD1 hS1 hl
end CALLS
