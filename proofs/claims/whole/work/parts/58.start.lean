/-! ===== the beginning of the law's walk, out of the statement's words ===== -/
theorem tab_in {w : Cond} (i : Nat) (h : tables_1[i]? = some w) : w ∈ lw_tbl := List.mem_append_right _ (List.mem_of_getElem? h)
theorem A0_none {s : State} : ∀ a : Nat, a < s.heap.size → ¬ A0 [] s.heap.size a := by
  intro a ha q
  rcases q with q | q
  · exact absurd q List.not_mem_nil
  · omega
theorem tab_of {args : Array Value} {s : State} {C : String} {F : Nat → Int32} (h4 : ∀ j, j < 4 → (Cond.eq (.elem (.static "DigestCaches$Shape" C "[I") (.int (Int32.ofNat j))) (.int (F j))).before args s = true) (hl : (Cond.laysStatic "DigestCaches$Shape" C "[I").before args s = true) (hi : (Cond.initialized "DigestCaches$Shape").before args s = true) (ha : (Cond.arrayOf (.static "DigestCaches$Shape" C "[I") .int).before args s = true) (hn : (Cond.eq (.length (.static "DigestCaches$Shape" C "[I")) (.int (Int32.ofNat 4))).before args s = true) :
    ∃ t : Nat, va_Z "DigestCaches$Shape" C "[I" (.ref t) (A0 [] s.heap.size) s s.heap ∧ va_T .int t 4 (fun j => .int (F j)) (A0 [] s.heap.size) s s.heap := by
  obtain ⟨t, h1, h2⟩ := va_Tof (N := 4) (f := fun j => .int (F j)) (by decide) ha (va_eqt hn) (fun j hj => va_eqt (h4 j hj)) A0_none
  exact ⟨t, va_Zof hl hi h1 A0_none, h2⟩
theorem start_K {args : Array Value} {s : State} (hg : ∀ w ∈ gtb, w.before args s = true) : ∀ t : Nat, ∃ d : ClassId × (Nat → Nat), ∀ q : vw_C, vwCl[t]? = some q → u_Kn s q.1 q.2.1 q.2.2 d.1 d.2
  | 0 => by
    obtain ⟨a, b, h⟩ := u_known hg ing0 (hg _ is_X0)
    exact ⟨(a, b), fun q hq => by cases hq; exact h⟩
  | 1 => by
    obtain ⟨a, b, h⟩ := u_known hg ing1 (hg _ is_X1)
    exact ⟨(a, b), fun q hq => by cases hq; exact h⟩
  | 2 => by
    obtain ⟨a, b, h⟩ := u_known hg ing2 (hg _ is_X2)
    exact ⟨(a, b), fun q hq => by cases hq; exact h⟩
  | 3 => by
    obtain ⟨a, b, h⟩ := u_known hg ing3 (hg _ is_X3)
    exact ⟨(a, b), fun q hq => by cases hq; exact h⟩
  | 4 => by
    obtain ⟨a, b, h⟩ := u_known hg ing4 (hg _ is_X4)
    exact ⟨(a, b), fun q hq => by cases hq; exact h⟩
  | 5 => by
    obtain ⟨a, b, h⟩ := u_known hg ing5 (hg _ is_X5)
    exact ⟨(a, b), fun q hq => by cases hq; exact h⟩
  | 6 => by
    obtain ⟨a, b, h⟩ := u_known hg ing6 (hg _ is_X6)
    exact ⟨(a, b), fun q hq => by cases hq; exact h⟩
  | 7 => by
    obtain ⟨a, b, h⟩ := u_known hg ing7 (hg _ is_X7)
    exact ⟨(a, b), fun q hq => by cases hq; exact h⟩
  | 8 => by
    obtain ⟨a, b, h⟩ := u_known hg ing8 (hg _ is_X8)
    exact ⟨(a, b), fun q hq => by cases hq; exact h⟩
  | n + 9 => ⟨(0, fun _ => 0), fun q hq => by cases hq⟩
theorem arr_of {args : Array Value} {s : State} {ty : FieldType} (h : (Cond.arrayClass ty).before args s = true) : ∃ c : ClassId, ArrOfT s c ty ∧ s.vm.findClass ("[" ++ ty.toString) = some c := by
  obtain ⟨c, k, comp, h1, h2, h3⟩ := Cond.arrayClass_spec h
  exact ⟨c, fun n z => ⟨fun k h => (by cases h), k, h2, comp, h3⟩, h1⟩
theorem ovr_of {args : Array Value} {s : State} {C : String} (h : (Cond.arrayOver (.object C)).before args s = true) : ∃ c : ClassId, ArrOfT s c (.object C) ∧ va_RA s c (.object C) := by
  obtain ⟨comp, c, k, h1, h2, h3, h4, h5⟩ := Cond.arrayOver_spec h
  exact ⟨c, fun n z => ⟨fun k h => (by cases h), k, h3, comp, h4⟩, k, comp, h3, h4, h1, h5⟩
theorem start_cy {args : Array Value} {s : State} (ht : ∀ w ∈ lw_tbl, w.before args s = true) : ∃ cy : Nat → ClassId, ∀ (k : Nat) (q : ClassId × FieldType), (tyO cy)[k]? = some q → ArrOfT s q.1 q.2 ∧ va_RA s q.1 q.2 := by
  obtain ⟨c0, a0, b0⟩ := arr_of (ht (.arrayClass .int) (tab_in 70 (by decide +kernel)))
  obtain ⟨c1, a1, b1⟩ := arr_of (ht (.arrayClass .long) (tab_in 71 (by decide +kernel)))
  obtain ⟨c2, a2, b2⟩ := ovr_of (ht (.arrayOver (.object "DigestCaches$Cache")) (tab_in 49 (by decide +kernel)))
  obtain ⟨c3, a3, b3⟩ := ovr_of (ht (.arrayOver (.object "DigestCaches$State")) (tab_in 169 (by decide +kernel)))
  refine ⟨fun k => match k with | 0 => c0 | 1 => c1 | 2 => c2 | _ => c3, fun k q hq => ?_⟩
  match k, hq with
  | 0, hq => cases hq; exact ⟨a0, b0⟩
  | 1, hq => cases hq; exact ⟨a1, b1⟩
  | 2, hq => cases hq; exact ⟨a2, b2⟩
  | 3, hq => cases hq; exact ⟨a3, b3⟩
  | n + 4, hq => cases hq
theorem start_xt {args : Array Value} {s : State} (ht : ∀ w ∈ lw_tbl, w.before args s = true) : xt s := by
  refine ⟨fun q hq => ?_, va_AO.of (ht (.arrayOver (.object "DigestCaches$Cache")) (tab_in 49 (by decide +kernel))), va_AO.of (ht (.arrayOver (.object "DigestCaches$State")) (tab_in 169 (by decide +kernel)))⟩
  have key : ∀ w : Cond, w ∈ lw_tbl → w.onTables = true → va_Nw w s := fun w hw hc => va_tabs hc rfl (ht w hw)
  simp only [xtN, List.mem_cons, List.not_mem_nil, or_false] at hq
  rcases hq with rfl | rfl | rfl | rfl | rfl | rfl
  · exact key _ (tab_in 26 (by decide +kernel)) rfl
  · exact key _ (tab_in 171 (by decide +kernel)) rfl
  · exact key _ (tab_in 183 (by decide +kernel)) rfl
  · exact key _ (tab_in 218 (by decide +kernel)) rfl
  · exact key _ (tab_in 356 (by decide +kernel)) rfl
  · exact key _ (tab_in 624 (by decide +kernel)) rfl
theorem start_stt {args : Array Value} {s : State} (ht : ∀ w ∈ lw_tbl, w.before args s = true) (hgv : (Jvm.Cond.and given_1 narrow_1).before args s = true) : stt (A0 [] s.heap.size) s s.heap := by
  have hs := flat_of_before _ hgv
  have hi : (Cond.initialized "DigestCaches$Shape").before args s = true := ht _ (tab_in 3 (by decide +kernel))
  have e4 : Int32.ofNat 4 = 4 := rfl
  obtain ⟨tF, f1, f2⟩ := tab_of (args := args) (s := s) (C := "FACTORS") (F := facF) (fun j hj => by
    match j, hj with
    | 0, _ => exact hs _ (by decide +kernel)
    | 1, _ => exact hs _ (by decide +kernel)
    | 2, _ => exact hs _ (by decide +kernel)
    | 3, _ => exact hs _ (by decide +kernel)) (ht _ (tab_in 330 (by decide +kernel))) hi (hs _ (by decide +kernel)) (hs _ (by decide +kernel))
  obtain ⟨tS, g1, g2⟩ := tab_of (args := args) (s := s) (C := "SHIFTS") (F := facS) (fun j hj => by
    match j, hj with
    | 0, _ => exact hs _ (by decide +kernel)
    | 1, _ => exact hs _ (by decide +kernel)
    | 2, _ => exact hs _ (by decide +kernel)
    | 3, _ => exact hs _ (by decide +kernel)) (ht _ (tab_in 332 (by decide +kernel))) hi (hs _ (by decide +kernel)) (hs _ (by decide +kernel))
  exact ⟨tF, tS, f1, f2, g1, g2⟩
theorem AL_none : AL [] 0 zI zL zR := ⟨rfl, fun _ _ _ h => (by cases h), fun _ _ _ => rfl, fun _ _ _ => rfl, fun _ _ _ => rfl⟩
theorem whole_start {p : Program} {e : Env} {s : State} {m : MethodId} {below : List Frame} {meth : Method} {c : Code} (l : Launch) (hflags : l.flags = flags0) {b L : Nat} {xs : Nat → Int32} (hL : L ≤ 2048) (C0 : lw_At p s m meth c b L xs) : W p l e room_1 s m #[Value.ref b] below meth c s.heap [] 0 0 (lw_Z below #[Value.ref b] s) (entryFrame m ([Value.ref b] : List Value).toArray 4) := by
  obtain ⟨hx, hb, hr, hml, hown, hts, hX, hbl, hlk, hgv⟩ := C0
  have hg : ∀ w ∈ gtb, w.before #[Value.ref b] s = true := fun w hw => hts w (List.mem_filter.mp hw).1
  obtain ⟨cy, hcy⟩ := start_cy hts
  have hD := start_K hg
  have hK : va_K (fun t => (Classical.choose (hD t)).1, fun t => (Classical.choose (hD t)).2) vwCl (tyO cy) s := ⟨fun t q hq => Classical.choose_spec (hD t) q hq, hcy⟩
  have em : [Value.ref b] = [Value.ref (1000000 + b)].map (mv []) := by
    show _ = [Value.ref (mva [] (1000000 + b))]
    rw [mva_raw]
  have e2 : entryFrame m ([Value.ref b] : List Value).toArray 4 = F0 m 0 (lg_sl ([Value.ref (1000000 + b)].map (mv [])) ++ List.replicate (4 - (lg_sl ([Value.ref (1000000 + b)].map (mv []))).length) Slot.unset).toArray [] := by rw [em, lg_entry_eq]
  rw [e2]
  exact w_begin (nm := meth.name) (b := b) (xs := xs) hL p e s m #[Value.ref b] below meth c _ cy [] [] s.heap [] _ ⟨hx, hb, hml, hown, hg, hr, hlk, rfl, hK, start_xt hts, start_stt hts hgv⟩ ⟨rfl, hX, hbl⟩ (List.prefix_refl _) AL_none (fun k q hq => by cases hq) ⟨fun i j p q hp => (by cases hp), fun k q hq => (by cases hq)⟩ va_S.rf (lvO_entry [Value.ref (1000000 + b)] (Nat.le_of_ble_eq_true rfl))
