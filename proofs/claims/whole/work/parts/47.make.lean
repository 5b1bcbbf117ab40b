/-! ===== makings ===== -/
theorem rA_push {adl : List Nat} {n q : Nat} {r : Option Nat} (hl : adl.length = n) (h : ∀ k, r = some k → k < n) : rA (adl ++ [q]) r = rA adl r := by
  cases r with
  | none => rfl
  | some k =>
    have hk := h k rfl
    show some ((adl ++ [q]).getD k 0) = some (adl.getD k 0)
    rw [List.getD_eq_getElem?_getD, List.getD_eq_getElem?_getD, List.getElem?_append_left (by omega)]
theorem fvl_push {adl : List Nat} {n q a j : Nat} {I : MI} {L : ML} {R : MR} {K : KD} (h : AL adl n I L R) : fvl (adl ++ [q]) I L R a K j = fvl adl I L R a K j := by
  unfold fvl
  rw [rA_push h.1 (fun k hk => h.2.1 a j k hk)]
theorem celK_push {cy : Nat → ClassId} {adl : List Nat} {n q a : Nat} {I : MI} {L : ML} {R : MR} {K : KD} (h : AL adl n I L R) : celK cy (adl ++ [q]) I L R a K = celK cy adl I L R a K := by
  have e : ∀ j, rA (adl ++ [q]) (R a j) = rA adl (R a j) := fun j => rA_push h.1 (fun k hk => h.2.1 a j k hk)
  unfold celK
  have e1 : fvl (adl ++ [q]) I L R a K = fvl adl I L R a K := funext fun j => fvl_push h
  have e2 : (fun j => rA (adl ++ [q]) (R a j)) = (fun j => rA adl (R a j)) := funext e
  rw [e1, e2]
theorem wsO_push {cy : Nat → ClassId} {adl : List Nat} {n q : Nat} {I : MI} {L : ML} {R : MR} (h : AL adl n I L R) : wsO cy (adl ++ [q]) I L R = wsO cy adl I L R ++ [(q, celK cy adl I L R n (kd n))] := by
  apply List.ext_getElem?
  intro i
  have hw : (wsO cy adl I L R).length = n := by
    rw [← h.1]
    simp [wsO]
  by_cases h1 : i < n
  · rw [List.getElem?_append_left (by omega), wsO_get (by rw [List.length_append, h.1]; omega), wsO_get (by rw [h.1]; exact h1), celK_push h]
    congr 2
    rw [List.getD_eq_getElem?_getD, List.getD_eq_getElem?_getD, List.getElem?_append_left (by rw [h.1]; exact h1)]
  · by_cases h2 : i = n
    · subst h2
      rw [List.getElem?_append_right (by omega), hw, Nat.sub_self, wsO_get (by rw [List.length_append, h.1]; simp), celK_push h]
      have : (adl ++ [q]).getD i 0 = q := by
        rw [List.getD_eq_getElem?_getD, List.getElem?_append_right (by rw [h.1]; exact Nat.le_refl _), h.1, Nat.sub_self]
        rfl
      rw [this]
      rfl
    · have w1 : (wsO cy (adl ++ [q]) I L R).length ≤ i := by
        simp [wsO, h.1]
        omega
      have w2 : (wsO cy adl I L R ++ [(q, celK cy adl I L R n (kd n))]).length ≤ i := by
        rw [List.length_append, hw]
        simp
        omega
      rw [List.getElem?_eq_none w1, List.getElem?_eq_none w2]
theorem AL_push {adl : List Nat} {n q : Nat} {I : MI} {L : ML} {R : MR} (h : AL adl n I L R) : AL (adl ++ [q]) (n + 1) I L R := by
  obtain ⟨h1, h2, h3, h4, h5⟩ := h
  exact ⟨by rw [List.length_append, h1]; rfl, fun a k r hr => Nat.lt_succ_of_lt (h2 a k r hr), fun g k hk => h3 g k (by omega), fun g k hk => h4 g k (by omega), fun a k hk => h5 a k (by omega)⟩
def dfl (t j : Nat) : Value := if (fty t j).1 = 0 then .int 0 else if (fty t j).1 = 1 then .long 0 else .null
theorem fvl_new {adl : List Nat} {n t g b lb N j : Nat} {I : MI} {L : ML} {R : MR} (h : AL adl n I L R) (hk : kd n = (t, g, b, lb, N)) (ht : t < 9) (hj : j < nf t) : fvl adl I L R n (kd n) j = dfl t j := by
  unfold fvl dfl
  have e1 : (kd n).1 = t := by rw [hk]
  rw [e1]
  by_cases h0 : (fty t j).1 = 0
  · rw [if_pos h0, if_pos h0]
    have := own_f (p := n) (j := j) (by rw [e1]; exact ht) (by rw [e1]; exact hj) (by rw [e1]; exact h0)
    rw [e1] at this
    rw [h.2.2.1 _ _ (by rw [this]; exact Nat.le_refl _)]
  · rw [if_neg h0, if_neg h0]
    by_cases h1 : (fty t j).1 = 1
    · rw [if_pos h1, if_pos h1]
      have := own_fl (p := n) (j := j) (by rw [e1]; exact ht) (by rw [e1]; exact hj) (by rw [e1]; exact h1)
      rw [e1] at this
      rw [h.2.2.2.1 _ _ (by rw [this]; exact Nat.le_refl _)]
    · rw [if_neg h1, if_neg h1, h.2.2.2.2 n j (Nat.le_refl _)]
      rfl
theorem celK_new {cy : Nat → ClassId} {adl : List Nat} {n t g b lb N : Nat} {I : MI} {L : ML} {R : MR} (h : AL adl n I L R) (hk : kd n = (t, g, b, lb, N)) (ht : t < 9) : celK cy adl I L R n (kd n) = .inr (t, (List.range (nf t)).map (dfl t)) := by
  have e1 : (kd n).1 = t := by rw [hk]
  unfold celK
  rw [if_pos (by rw [e1]; exact ht), e1]
  congr 2
  apply List.map_congr_left
  intro j hj
  exact fvl_new h hk ht (List.mem_range.mp hj)
theorem celK_newI {cy : Nat → ClassId} {adl : List Nat} {n g b lb N : Nat} {I : MI} {L : ML} {R : MR} (h : AL adl n I L R) (hk : kd n = (9, g, b, lb, N)) : celK cy adl I L R n (kd n) = .inl (cy 0, N, .inl (fun _ => 0)) := by
  have e1 : (kd n).1 = 9 := by rw [hk]
  unfold celK
  have e5 : (kd n).2.2.2.2 = N := by rw [hk]
  rw [if_neg (by rw [e1]; decide), if_pos e1, e5]
  congr 4
  funext j
  by_cases hj : j < N
  · rw [if_pos hj]
    have := own_a (p := n) (j := j) (by rw [hk]) (by rw [e5]; exact hj)
    exact h.2.2.1 _ _ (by rw [this]; exact Nat.le_refl _)
  · rw [if_neg hj]
theorem celK_newL {cy : Nat → ClassId} {adl : List Nat} {n g b lb N : Nat} {I : MI} {L : ML} {R : MR} (h : AL adl n I L R) (hk : kd n = (10, g, b, lb, N)) : celK cy adl I L R n (kd n) = .inl (cy 1, N, .inr (.inl (fun _ => 0))) := by
  have e1 : (kd n).1 = 10 := by rw [hk]
  unfold celK
  have e5 : (kd n).2.2.2.2 = N := by rw [hk]
  rw [if_neg (by rw [e1]; decide), if_neg (by rw [e1]; decide), if_pos e1, e5]
  congr 5
  funext j
  by_cases hj : j < N
  · rw [if_pos hj]
    have := own_al (p := n) (j := j) (by rw [hk]) (by rw [e5]; exact hj)
    exact h.2.2.2.1 _ _ (by rw [this]; exact Nat.le_refl _)
  · rw [if_neg hj]
theorem celK_newC {cy : Nat → ClassId} {adl : List Nat} {n g b lb N : Nat} {I : MI} {L : ML} {R : MR} (h : AL adl n I L R) (hk : kd n = (11, g, b, lb, N)) : celK cy adl I L R n (kd n) = .inl (cy 2, N, .inr (.inr (.inr (.inr (fun _ => none))))) := by
  have e1 : (kd n).1 = 11 := by rw [hk]
  unfold celK
  rw [if_neg (by rw [e1]; decide), if_neg (by rw [e1]; decide), if_neg (by rw [e1]; decide), if_pos e1, show (kd n).2.2.2.2 = N by rw [hk]]
  congr 7
  funext j
  rw [h.2.2.2.2 n j (Nat.le_refl _)]
  rfl
theorem celK_newS {cy : Nat → ClassId} {adl : List Nat} {n g b lb N : Nat} {I : MI} {L : ML} {R : MR} (h : AL adl n I L R) (hk : kd n = (12, g, b, lb, N)) : celK cy adl I L R n (kd n) = .inl (cy 3, N, .inr (.inr (.inr (.inr (fun _ => none))))) := by
  have e1 : (kd n).1 = 12 := by rw [hk]
  unfold celK
  rw [if_neg (by rw [e1]; decide), if_neg (by rw [e1]; decide), if_neg (by rw [e1]; decide), if_neg (by rw [e1]; decide), if_pos e1, show (kd n).2.2.2.2 = N by rw [hk]]
  congr 7
  funext j
  rw [h.2.2.2.2 n j (Nat.le_refl _)]
  rfl
section MAKE
variable {l : Launch} {y : MethodName} {cc : ByteArray} {nL : Nat} {ret : Option FieldType} {Rm : Room} {Qf : QF} {X : State → List Nat → Prop} {pc pc' : Nat} {lv : List (Option Value)} {st : List Value} {I : MI} {L : ML} {R : MR} {n ce sl : Nat} {t g b lb N idx : Nat}
/-- behind a making: the place n stands -/
theorem v_made {p : Program} {e : Env} {s : State} {m : MethodId} {args : Array Value} {below : List Frame} {meth : Method} {c : Code} {D : va_G} {cy : Nat → ClassId} {adl0 adl : List Nat} {H1 : Heap} {locs : List Loc} {ls : Array Slot} {q N : Nat} (hsc : scp n lv st = true) (hn : n < 1000000) (kk : V l y cc nL ret Rm Qf X pc' lv (.ref n :: st) I L R (n + 1) (ce + 1) (sl + N))
    (F : Fx p s m args meth c y cc nL ret D cy adl0) (X0 : X s adl0) (h1 : adl0 <+: adl) (h2 : AL adl n I L R) (hP : va_P D vwCl (wsO cy adl I L R ++ [(q, celK cy adl I L R n (kd n))]) H1) (hD : va_D (A0 adl0 s.heap.size) (wsO cy adl I L R ++ [(q, celK cy adl I L R n (kd n))])) (hS : va_S (A0 adl0 s.heap.size) s.heap H1 locs) (hl : lvO ls nL adl lv) :
    W p l e Rm s m args below meth c H1 locs (ce + 1) (sl + N) (Qf below args s D cy adl0) (F0 m pc' ls (.ref q :: st.map (mv adl))) := by
  have hpre : adl <+: adl ++ [q] := List.prefix_append _ _
  have hsc' := hsc
  simp only [scp, Bool.and_eq_true] at hsc'
  have hl2 : lvO ls nL (adl ++ [q]) lv := by
    unfold lvO
    rw [asc_pre hpre h2.1 hsc'.1]
    exact hl
  have := kk p e s m args below meth c D cy adl0 (adl ++ [q]) H1 locs ls F X0 (h1.trans hpre) (AL_push h2) (by rw [wsO_push h2]; exact hP) (by rw [wsO_push h2]; exact hD) hS hl2
  have em : (Value.ref n :: st).map (mv (adl ++ [q])) = .ref q :: st.map (mv adl) := by
    rw [List.map_cons, map_pre hpre h2.1 hsc'.2]
    congr 1
    show Value.ref (mva (adl ++ [q]) n) = Value.ref q
    unfold mva
    rw [if_pos hn, List.getD_eq_getElem?_getD, List.getElem?_append_right (by rw [h2.1]; exact Nat.le_refl _), h2.1, Nat.sub_self]
    rfl
  rw [em] at this
  exact this
theorem v_new {C : String} {T : u_T} {ty : Nat → FieldType} (hd : decode cc pc = .ok (.new idx, 3)) (hp : pc + 3 = pc') (hcl : Cond.classLink y.cls idx C ∈ gtb) (hinst : Cond.instantiable C N ∈ gtb) (hini : Cond.initialized C ∈ gtb) (hin : ∀ w ∈ u_ws C T N, w ∈ gtb) (hty : ∀ k, k < N → parseFieldDescriptor (T k).2.2.1 = some (ty k)) (hc : vwCl[t]? = some (C, T, N)) (hk : kd n = (t, g, b, lb, 0)) (ht : t < 9) (hN : nf t = N) (hdf : ∀ j, j < N → defaultValue (ty j) = dfl t j) (hn : n < 1000000) (hsc : scp n lv st = true) (hce : ce + 1 ≤ Rm.cells) (hsl : sl + N ≤ Rm.slots)
    (kk : V l y cc nL ret Rm Qf X pc' lv (.ref n :: st) I L R (n + 1) (ce + 1) (sl + N)) : V l y cc nL ret Rm Qf X pc lv st I L R n ce sl := by
  subst hp
  intro p e s m args below meth c D cy adl0 adl H locs ls F X0 h1 h2 hP hD hS hl
  refine va_new (ci := t) (fs := (List.range N).map (dfl t)) (Ts := gtb) F.1 F.2.1 F.2.2.2.2.1 hin ty hty F.2.2.2.1 (F.2.2.2.2.1 _ hcl) (F.2.2.2.2.1 _ hinst) (F.2.2.2.2.1 _ hini) F.2.2.2.2.2.2.2.2.1 hP hD hS (fun q hq => Or.inr hq) hc (fun j hj => ?_) hce hsl hd (fun q H1 hP1 hD1 hS1 => ?_)
  · rw [hdf j hj]
    simp [vp_V, hj]
  · have ec : celK cy adl I L R n (kd n) = .inr (t, (List.range N).map (dfl t)) := by rw [celK_new h2 hk ht, hN]
    rw [← ec] at hP1 hD1
    exact v_made hsc hn kk F X0 h1 h2 hP1 hD1 hS1 hl
theorem v_newI {k : Int32} (hd : decode cc pc = .ok (.newarray .int, 2)) (hp : pc + 2 = pc') (ha : Cond.arrayClass (newarray.typeOf .int) ∈ gtb) (hk : kd n = (9, g, b, lb, N)) (hv : k = nI N) (hN : N < 10000) (hn : n < 1000000) (hsc : scp n lv st = true) (hce : ce + 1 ≤ Rm.cells) (hsl : sl + N ≤ Rm.slots)
    (kk : V l y cc nL ret Rm Qf X pc' lv (.ref n :: st) I L R (n + 1) (ce + 1) (sl + N)) : V l y cc nL ret Rm Qf X pc lv (.int k :: st) I L R n ce sl := by
  subst hp
  subst hv
  intro p e s m args below meth c D cy adl0 adl H locs ls F X0 h1 h2 hP hD hS hl
  have hK := F.2.2.2.2.2.2.2.2.1
  refine va_newa (a0 := (N, .inl (fun _ => 0))) F.1 F.2.1 (F.2.2.2.2.1 _ ha) rfl hK hP hD hS (fun q hq => Or.inr hq) (fun _ => rfl) (nI_pos (by omega)) (nI_clamp (by omega)) (by show N * 4 ≤ _; omega) hce hsl hd (fun q cA H1 hK1 hP1 hD1 hS1 => ?_)
  have ecA : cA = cy 0 := by
    have z1 : s.vm.findClass ("[" ++ FieldType.int.toString) = some cA := (hK1.2 4 _ rfl).2
    have z2 : s.vm.findClass ("[" ++ FieldType.int.toString) = some (cy 0) := (hK.2 0 _ rfl).2
    exact Option.some.inj (z1.symm.trans z2)
  subst ecA
  rw [← celK_newI h2 hk] at hP1 hD1
  exact v_made hsc hn kk F X0 h1 h2 hP1 hD1 hS1 hl
theorem v_newL {k : Int32} (hd : decode cc pc = .ok (.newarray .long, 2)) (hp : pc + 2 = pc') (ha : Cond.arrayClass (newarray.typeOf .long) ∈ gtb) (hk : kd n = (10, g, b, lb, N)) (hv : k = nI N) (hN : N < 10000) (hn : n < 1000000) (hsc : scp n lv st = true) (hce : ce + 1 ≤ Rm.cells) (hsl : sl + N ≤ Rm.slots)
    (kk : V l y cc nL ret Rm Qf X pc' lv (.ref n :: st) I L R (n + 1) (ce + 1) (sl + N)) : V l y cc nL ret Rm Qf X pc lv (.int k :: st) I L R n ce sl := by
  subst hp
  subst hv
  intro p e s m args below meth c D cy adl0 adl H locs ls F X0 h1 h2 hP hD hS hl
  have hK := F.2.2.2.2.2.2.2.2.1
  refine va_newa (a0 := (N, .inr (.inl (fun _ => 0)))) F.1 F.2.1 (F.2.2.2.2.1 _ ha) rfl hK hP hD hS (fun q hq => Or.inr hq) (fun _ => rfl) (nI_pos (by omega)) (nI_clamp (by omega)) (by show N * 8 ≤ _; omega) hce hsl hd (fun q cA H1 hK1 hP1 hD1 hS1 => ?_)
  have ecA : cA = cy 1 := by
    have z1 : s.vm.findClass ("[" ++ FieldType.long.toString) = some cA := (hK1.2 4 _ rfl).2
    have z2 : s.vm.findClass ("[" ++ FieldType.long.toString) = some (cy 1) := (hK.2 1 _ rfl).2
    exact Option.some.inj (z1.symm.trans z2)
  subst ecA
  rw [← celK_newL h2 hk] at hP1 hD1
  exact v_made hsc hn kk F X0 h1 h2 hP1 hD1 hS1 hl
theorem v_newC {k : Int32} (hd : decode cc pc = .ok (.anewarray idx, 3)) (hp : pc + 3 = pc') (hcl : Cond.classLink y.cls idx "DigestCaches$Cache" ∈ gtb) (hk : kd n = (11, g, b, lb, N)) (hv : k = nI N) (hN : N < 10000) (hn : n < 1000000) (hsc : scp n lv st = true) (hce : ce + 1 ≤ Rm.cells) (hsl : sl + N ≤ Rm.slots)
    (kk : V l y cc nL ret Rm Qf X pc' lv (.ref n :: st) I L R (n + 1) (ce + 1) (sl + N)) : V l y cc nL ret Rm Qf X pc lv (.int k :: st) I L R n ce sl := by
  subst hp
  subst hv
  intro p e s m args below meth c D cy adl0 adl H locs ls F X0 h1 h2 hP hD hS hl
  have hK := F.2.2.2.2.2.2.2.2.1
  have hx := F.2.2.2.2.2.2.2.2.2.1
  refine va_newq F.1 F.2.1 F.2.2.2.1 (F.2.2.2.2.1 _ hcl) hx.2.1 hK hP hD hS (fun q hq => Or.inr hq) (nI_pos (by omega)) (nI_clamp (by omega)) (by omega) hce hsl hd (fun q cA H1 hK1 hP1 hD1 hS1 => ?_)
  have ecA : cA = cy 2 := by
    obtain ⟨_, _, _, _, _, z1⟩ := (hK1.2 4 _ rfl).2
    obtain ⟨_, _, _, _, _, z2⟩ := (hK.2 2 _ rfl).2
    exact Option.some.inj (z1.symm.trans z2)
  subst ecA
  rw [← celK_newC h2 hk] at hP1 hD1
  exact v_made hsc hn kk F X0 h1 h2 hP1 hD1 hS1 hl
theorem v_newS {k : Int32} (hd : decode cc pc = .ok (.anewarray idx, 3)) (hp : pc + 3 = pc') (hcl : Cond.classLink y.cls idx "DigestCaches$State" ∈ gtb) (hk : kd n = (12, g, b, lb, N)) (hv : k = nI N) (hN : N < 10000) (hn : n < 1000000) (hsc : scp n lv st = true) (hce : ce + 1 ≤ Rm.cells) (hsl : sl + N ≤ Rm.slots)
    (kk : V l y cc nL ret Rm Qf X pc' lv (.ref n :: st) I L R (n + 1) (ce + 1) (sl + N)) : V l y cc nL ret Rm Qf X pc lv (.int k :: st) I L R n ce sl := by
  subst hp
  subst hv
  intro p e s m args below meth c D cy adl0 adl H locs ls F X0 h1 h2 hP hD hS hl
  have hK := F.2.2.2.2.2.2.2.2.1
  have hx := F.2.2.2.2.2.2.2.2.2.1
  refine va_newq F.1 F.2.1 F.2.2.2.1 (F.2.2.2.2.1 _ hcl) hx.2.2 hK hP hD hS (fun q hq => Or.inr hq) (nI_pos (by omega)) (nI_clamp (by omega)) (by omega) hce hsl hd (fun q cA H1 hK1 hP1 hD1 hS1 => ?_)
  have ecA : cA = cy 3 := by
    obtain ⟨_, _, _, _, _, z1⟩ := (hK1.2 4 _ rfl).2
    obtain ⟨_, _, _, _, _, z2⟩ := (hK.2 3 _ rfl).2
    exact Option.some.inj (z1.symm.trans z2)
  subst ecA
  rw [← celK_newS h2 hk] at hP1 hD1
  exact v_made hsc hn kk F X0 h1 h2 hP1 hD1 hS1 hl
theorem v_abs {x : Int32} (hd : decode cc pc = .ok (.invokestatic idx, 3)) (hp : pc + 3 = pc') (w1 : Cond.methodLink y.cls idx Lib.Math.abs.name ∈ gtb) (w2 : Cond.static Lib.Math.abs.name ∈ gtb) (w3 : Cond.initialized "java/lang/Math" ∈ gtb) (w4 : Cond.code Lib.Math.abs.name Lib.Math.abs.code 1 (some .int) ∈ gtb) (hcat : (st.map (fun v => v.category)).sum ≤ 8) (hR : (Nat.ble 1 Rm.frames && Nat.ble 21 Rm.locals) = true) (hce : ce ≤ Rm.cells) (hsl : sl ≤ Rm.slots)
    (kk : V l y cc nL ret Rm Qf X pc' lv (.int (if 0 ≤ x then x else 0 - x) :: st) I L R n ce sl) : V l y cc nL ret Rm Qf X pc lv (.int x :: st) I L R n ce sl := by
  subst hp
  intro p e s m args below meth c D cy adl0 adl H locs ls F X0 h1 h2 hP hD hS hl
  simp only [Bool.and_eq_true, Nat.ble_eq] at hR
  refine va_mabs F.1 F.2.1 (by rw [F.2.2.1]; exact hl.1.symm) F.2.2.2.1 (F.2.2.2.2.1 _ w1) (F.2.2.2.2.1 _ w2) (F.2.2.2.2.1 _ w3) (F.2.2.2.2.1 _ w4) hR.1 ?_ hce hsl hd (kk p e s m args below meth c D cy adl0 adl H locs ls F X0 h1 h2 hP hD hS hl)
  rw [cat_map]
  omega
end MAKE
