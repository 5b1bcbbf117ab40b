/-! ===== values: a reference is a place; from 1000000 on it is an address ===== -/
def gtb : List Cond := lw_tbl.filter goodWord
theorem gtb_in {w : Cond} (i : Nat) (h : tables_1[i]? = some w) (hg : goodWord w = true) : w ∈ gtb := List.mem_filter.mpr ⟨List.mem_append_right _ (List.mem_of_getElem? h), hg⟩
theorem gtb_inS {w : Cond} (i : Nat) (h : (k2_sels lw_privs)[i]? = some w) (hg : goodWord w = true) : w ∈ gtb := List.mem_filter.mpr ⟨List.mem_append_left _ (List.mem_of_getElem? h), hg⟩
theorem gtb_good : GoodIn gtb gtb := fun w h => ⟨h, good_of_word (List.mem_filter.mp h).2⟩
def mva (adl : List Nat) (k : Nat) : Nat := if k < 1000000 then adl.getD k 0 else k - 1000000
def mv (adl : List Nat) : Value → Value
  | .ref k => .ref (mva adl k)
  | v => v
theorem mv_cat (adl : List Nat) (v : Value) : (mv adl v).category = v.category := by cases v <;> rfl
theorem mva_lt {adl : List Nat} {k : Nat} (h : k < 1000000) : mva adl k = adl.getD k 0 := if_pos h
theorem mva_raw (adl : List Nat) (k : Nat) : mva adl (1000000 + k) = k := by
  unfold mva
  rw [if_neg (by omega)]
  omega
/-! locals -/
def asc (adl : List Nat) : Nat → List (Option Value) → List (Nat × Value)
  | _, [] => []
  | i, none :: t => asc adl (i + 1) t
  | i, some v :: t => (i, mv adl v) :: asc adl (i + 1) t
theorem asc_mem {adl : List Nat} {lv : List (Option Value)} : ∀ {i : Nat} {q : Nat × Value}, q ∈ asc adl i lv ↔ ∃ (k : Nat) (v : Value), lv[k]? = some (some v) ∧ q = (i + k, mv adl v) := by
  induction lv with
  | nil => intro i q; simp [asc]
  | cons a t ih =>
    intro i q
    cases a with
    | none =>
      show q ∈ asc adl (i + 1) t ↔ _
      rw [ih]
      constructor
      · rintro ⟨k, v, h1, h2⟩
        exact ⟨k + 1, v, by simpa using h1, by rw [h2]; congr 1; omega⟩
      · rintro ⟨k, v, h1, h2⟩
        cases k with
        | zero => simp at h1
        | succ k => exact ⟨k, v, by simpa using h1, by rw [h2]; congr 1; omega⟩
    | some w =>
      show q ∈ (i, mv adl w) :: asc adl (i + 1) t ↔ _
      rw [List.mem_cons, ih]
      constructor
      · rintro (h | ⟨k, v, h1, h2⟩)
        · exact ⟨0, w, by simp, by rw [h]; congr 1⟩
        · exact ⟨k + 1, v, by simpa using h1, by rw [h2]; congr 1; omega⟩
      · rintro ⟨k, v, h1, h2⟩
        cases k with
        | zero =>
          left
          have : w = v := by simpa using h1
          rw [h2, this]
          congr 1
        | succ k => right; exact ⟨k, v, by simpa using h1, by rw [h2]; congr 1; omega⟩
def lvO (ls : Array Slot) (nL : Nat) (adl : List Nat) (lv : List (Option Value)) : Prop := lv_has ls nL (asc adl 0 lv)
theorem lvO_get {ls : Array Slot} {nL : Nat} {adl : List Nat} {lv : List (Option Value)} (h : lvO ls nL adl lv) {k : Nat} {v : Value} (hk : lv[k]? = some (some v)) : ls[k]? = some (.val (mv adl v)) := by
  have := h.2.2 (k, mv adl v) (asc_mem.mpr ⟨k, v, hk, by simp⟩)
  exact this
def nlo : Option Value → Bool
  | some v => v.category == 1
  | none => true
theorem lvO_set1 {ls : Array Slot} {nL : Nat} {adl : List Nat} {pre t : List (Option Value)} {b : Option Value} {i : Nat} {v : Value} (hi : pre.length = i) (hp : ∀ z, pre.getLast? = some z → nlo z = true)
    {q : Nat × Value} (hq : q ∈ asc adl 0 (pre ++ some v :: t)) : q ∈ (i, mv adl v) :: (asc adl 0 (pre ++ b :: t)).filter (fun q => !(q.1 == i) && !(q.1 + 1 == i && q.2.category == 2)) := by
  obtain ⟨k, x, h1, h2⟩ := asc_mem.mp hq
  subst h2
  subst hi
  by_cases hk : k = pre.length
  · subst hk
    rw [List.getElem?_append_right (Nat.le_refl _), Nat.sub_self] at h1
    simp at h1
    subst h1
    simp
  · refine List.mem_cons_of_mem _ (List.mem_filter.mpr ⟨asc_mem.mpr ⟨k, x, ?_, rfl⟩, ?_⟩)
    · by_cases hl : k < pre.length
      · rw [List.getElem?_append_left hl] at h1 ⊢
        exact h1
      · rw [List.getElem?_append_right (by omega)] at h1 ⊢
        obtain ⟨j, hj⟩ : ∃ j, k - pre.length = j + 1 := ⟨k - pre.length - 1, by omega⟩
        rw [hj] at h1 ⊢
        simpa using h1
    · simp only [Nat.zero_add, Bool.and_eq_true, Bool.not_eq_true', beq_eq_false_iff_ne, ne_eq, Bool.and_eq_false_iff]
      refine ⟨hk, ?_⟩
      by_cases hkl : k + 1 = pre.length
      · right
        rw [List.getElem?_append_left (by omega)] at h1
        have hz := hp (some x) (by rw [List.getLast?_eq_getElem?]; rw [show pre.length - 1 = k by omega]; exact h1)
        rw [mv_cat]
        simp [nlo] at hz
        rw [hz]
        decide
      · left
        exact hkl
theorem lvO_set2 {ls : Array Slot} {nL : Nat} {adl : List Nat} {pre t : List (Option Value)} {b b' : Option Value} {i : Nat} {v : Value} (hi : pre.length = i) (hp : ∀ z, pre.getLast? = some z → nlo z = true)
    {q : Nat × Value} (hq : q ∈ asc adl 0 (pre ++ some v :: none :: t)) : q ∈ (i, mv adl v) :: (asc adl 0 (pre ++ b :: b' :: t)).filter (fun q => !(q.1 == i) && (!(q.1 == i + 1) && !(q.1 + 1 == i && q.2.category == 2))) := by
  obtain ⟨k, x, h1, h2⟩ := asc_mem.mp hq
  subst h2
  subst hi
  by_cases hk : k = pre.length
  · subst hk
    rw [List.getElem?_append_right (Nat.le_refl _), Nat.sub_self] at h1
    simp at h1
    subst h1
    simp
  · by_cases hk1 : k = pre.length + 1
    · subst hk1
      rw [List.getElem?_append_right (by omega), show pre.length + 1 - pre.length = 1 by omega] at h1
      simp at h1
    · refine List.mem_cons_of_mem _ (List.mem_filter.mpr ⟨asc_mem.mpr ⟨k, x, ?_, rfl⟩, ?_⟩)
      · by_cases hl : k < pre.length
        · rw [List.getElem?_append_left hl] at h1 ⊢
          exact h1
        · rw [List.getElem?_append_right (by omega)] at h1 ⊢
          obtain ⟨j, hj⟩ : ∃ j, k - pre.length = j + 2 := ⟨k - pre.length - 2, by omega⟩
          rw [hj] at h1 ⊢
          simpa using h1
      · simp only [Nat.zero_add, Bool.and_eq_true, Bool.not_eq_true', beq_eq_false_iff_ne, ne_eq, Bool.and_eq_false_iff]
        refine ⟨hk, hk1, ?_⟩
        by_cases hkl : k + 1 = pre.length
        · right
          rw [List.getElem?_append_left (by omega)] at h1
          have hz := hp (some x) (by rw [List.getLast?_eq_getElem?]; rw [show pre.length - 1 = k by omega]; exact h1)
          rw [mv_cat]
          simp [nlo] at hz
          rw [hz]
          decide
        · left
          exact hkl
/-- the locals with which a method begins -/
def lvE : List Value → List (Option Value)
  | [] => []
  | v :: vs => if v.category = 2 then some v :: none :: lvE vs else some v :: lvE vs
def lvA (as : List Value) (nL : Nat) : List (Option Value) := lvE as ++ List.replicate (nL - (lvE as).length) none
theorem lvE_len (adl : List Nat) : ∀ as : List Value, (lg_sl (as.map (mv adl))).length = (lvE as).length
  | [] => rfl
  | v :: vs => by
    have ih := lvE_len adl vs
    unfold lg_sl at ih ⊢
    simp only [List.map_cons, List.flatMap_cons, List.length_append, ih, lvE, mv_cat]
    by_cases h : v.category = 2
    · simp [h]; omega
    · simp [h]; omega
theorem asc_app {adl : List Nat} : ∀ {a b : List (Option Value)} {i : Nat} {q : Nat × Value}, q ∈ asc adl i (a ++ b) → (∀ x ∈ b, x = none) → q ∈ asc adl i a := by
  intro a b i q hq hb
  obtain ⟨k, v, h1, h2⟩ := asc_mem.mp hq
  refine asc_mem.mpr ⟨k, v, ?_, h2⟩
  by_cases hl : k < a.length
  · rw [List.getElem?_append_left hl] at h1
    exact h1
  · rw [List.getElem?_append_right (by omega)] at h1
    have := hb _ (List.mem_of_getElem? h1)
    cases this
theorem asc_E {adl : List Nat} : ∀ (as : List Value) (i : Nat), asc adl i (lvE as) = lv_args i (as.map (mv adl))
  | [], i => rfl
  | v :: vs, i => by
    simp only [lvE, List.map_cons, lv_args, mv_cat]
    by_cases h : v.category = 2
    · rw [if_pos h, if_pos h]
      show (i, mv adl v) :: asc adl (i + 1 + 1) (lvE vs) = _
      rw [asc_E vs]
    · rw [if_neg h, if_neg h]
      show (i, mv adl v) :: asc adl (i + 1) (lvE vs) = _
      rw [asc_E vs]
theorem lvO_entry {adl : List Nat} (as : List Value) {nL : Nat} (h : (lvE as).length ≤ nL) : lvO ((lg_sl (as.map (mv adl)) ++ List.replicate (nL - (lg_sl (as.map (mv adl))).length) Slot.unset).toArray) nL adl (lvA as nL) := by
  have e := lv_entry (as.map (mv adl)) (n := nL) (by rw [lvE_len]; exact h)
  refine ⟨e.1, e.2.1, fun q hq => e.2.2 q ?_⟩
  have h2 := asc_app hq (fun x hx => List.eq_of_mem_replicate hx)
  rw [asc_E] at h2
  exact h2
/-! ===== what is fixed in a walk ===== -/
def tyO (cy : Nat → ClassId) : List (ClassId × FieldType) := [(cy 0, .int), (cy 1, .long), (cy 2, .object "DigestCaches$Cache"), (cy 3, .object "DigestCaches$State")]
def xtN : List (String × Nat × MethodName × String) := [("DigestCaches", 11, ⟨"DigestCaches$Shape", "<init>", "()V"⟩, "DigestCaches"), ("DigestCaches$History", 21, ⟨"DigestCaches$Shape", "<init>", "()V"⟩, "DigestCaches"), ("DigestCaches", 30, ⟨"DigestCaches$Text", "<init>", "()V"⟩, "DigestCaches"), ("DigestCaches", 37, ⟨"DigestCaches$Walk", "<init>", "()V"⟩, "DigestCaches"), ("DigestCaches$Cache", 81, ⟨"DigestCaches", "isOutside", "(III)Z"⟩, "DigestCaches"), ("DigestCaches$Text", 60, ⟨"DigestCaches", "isOutside", "(III)Z"⟩, "DigestCaches")]
def xt (U : State) : Prop := (∀ q ∈ xtN, va_Nw (.methodLinkNest q.1 q.2.1 q.2.2.1 q.2.2.2) U) ∧ va_AO "DigestCaches$Cache" U ∧ va_AO "DigestCaches$State" U
def facF (j : Nat) : Int32 := if j = 0 then 31 else if j = 1 then 57 else if j = 2 then 83 else 109
def facS (j : Nat) : Int32 := if j = 0 then 7 else if j = 1 then 19 else if j = 2 then 43 else 61
def stt (A : Nat → Prop) (U : State) (H : Heap) : Prop := ∃ tF tS : Nat, va_Z "DigestCaches$Shape" "FACTORS" "[I" (.ref tF) A U H ∧ va_T .int tF 4 (fun j => .int (facF j)) A U H ∧ va_Z "DigestCaches$Shape" "SHIFTS" "[I" (.ref tS) A U H ∧ va_T .int tS 4 (fun j => .int (facS j)) A U H
def A0 (adl0 : List Nat) (sz : Nat) : Nat → Prop := fun q => q ∈ adl0 ∨ sz ≤ q
def rmd (d mc ms : Nat) : Room := { frames := d, cells := mc, slots := ms, locals := 34 * d }
theorem xt_warm {s U : State} (hW : s.WarmedH U.vm) (h : xt s) : xt U := ⟨fun q hq => (h.1 q hq).warmM hW, va_AO.moved hW.alike h.2.1, va_AO.moved hW.alike h.2.2⟩
theorem xt_same {u U : State} (hv : u.vm = U.vm) (h : xt u) : xt U := ⟨fun q hq => va_Nw.same rfl hv (h.1 q hq), va_AO.moved (hv ▸ Vm.Alike.refl u.vm) h.2.1, va_AO.moved (hv ▸ Vm.Alike.refl u.vm) h.2.2⟩
theorem stt_moved {A : Nat → Prop} {u U : State} {H : Heap} (hvm : u.vm.Alike U.vm) (h : stt A u H) : stt A U H := by
  obtain ⟨tF, tS, h1, h2, h3, h4⟩ := h
  exact ⟨tF, tS, h1.moved hvm, h2.moved hvm, h3.moved hvm, h4.moved hvm⟩
theorem stt_kept {A : Nat → Prop} {U : State} {H H1 : Heap} (h : stt A U H) (hq : ∀ a : Nat, a < H.size → ¬ A a → H1[a]? = H[a]?) : stt A U H1 := by
  obtain ⟨tF, tS, h1, h2, h3, h4⟩ := h
  exact ⟨tF, tS, h1.kept hq, h2.kept hq, h3.kept hq, h4.kept hq⟩
theorem stt_narrow {A B : Nat → Prop} {U : State} {H : Heap} (h : stt A U H) (hAB : ∀ q, B q → A q) : stt B U H := by
  obtain ⟨tF, tS, h1, h2, h3, h4⟩ := h
  exact ⟨tF, tS, h1.narrow hAB, h2.narrow hAB, h3.narrow hAB, h4.narrow hAB⟩
def Fx (p : Program) (s : State) (m : MethodId) (args : Array Value) (meth : Method) (c : Code) (y : MethodName) (cc : ByteArray) (nL : Nat) (ret : Option FieldType) (D : va_G) (cy : Nat → ClassId) (adl0 : List Nat) : Prop :=
  p.tables.exec = Jvm.exec ∧ c.code = cc ∧ c.maxLocals = nL ∧ s.vm.findClass y.cls = some m.cls ∧ (∀ w ∈ gtb, w.before args s = true) ∧ meth.sig.returnType = ret ∧ meth.locks = false ∧ meth.name = y.name ∧ va_K D vwCl (tyO cy) s ∧ xt s ∧ stt (A0 adl0 s.heap.size) s s.heap
abbrev QF : Type := List Frame → Array Value → State → va_G → (Nat → ClassId) → List Nat → State → Prop
abbrev PO : Type := Option Value → MI → ML → MR → Nat → Prop
/-- the addresses of the n places; references lead to places; what isn't made yet holds nothing -/
def AL (adl : List Nat) (n : Nat) (I : MI) (L : ML) (R : MR) : Prop := adl.length = n ∧ (∀ a k q, R a k = some q → q < n) ∧ (∀ g k, n ≤ oI g k → I g k = 0) ∧ (∀ g k, n ≤ oL g k → L g k = 0) ∧ (∀ a k, n ≤ a → R a k = none)
def QO (D : va_G) (cy : Nat → ClassId) (adl0 : List Nat) (sz : Nat) (Po : PO) : Array Value → State → Outcome → State → Prop := fun _ st oc t =>
  (∃ (r : Option Value) (adl : List Nat) (I : MI) (L : ML) (R : MR) (n : Nat), oc = .returned (r.map (mv adl)) ∧ Po r I L R n ∧ AL adl n I L R ∧ adl0 <+: adl ∧ va_P D vwCl (wsO cy adl I L R) t.heap ∧ va_D (A0 adl0 sz) (wsO cy adl I L R)) ∧ va_F (A0 adl0 sz) st t
def QM (mc ms : Nat) (Po : PO) : QF := fun below args s D cy adl0 => MQ below (QO D cy adl0 s.heap.size Po) args s mc ms (A0 adl0 s.heap.size)
/-- the machine, at pc with locals lv and stack st, over a memory (I, L, R) of n places, comes to Qf -/
def V (l : Launch) (y : MethodName) (cc : ByteArray) (nL : Nat) (ret : Option FieldType) (Rm : Room) (Qf : QF) (X : State → List Nat → Prop) (pc : Nat) (lv : List (Option Value)) (st : List Value) (I : MI) (L : ML) (R : MR) (n ce sl : Nat) : Prop :=
  ∀ (p : Program) (e : Env) (s : State) (m : MethodId) (args : Array Value) (below : List Frame) (meth : Method) (c : Code) (D : va_G) (cy : Nat → ClassId) (adl0 adl : List Nat) (H : Heap) (locs : List Loc) (ls : Array Slot),
    Fx p s m args meth c y cc nL ret D cy adl0 → X s adl0 → adl0 <+: adl → AL adl n I L R → va_P D vwCl (wsO cy adl I L R) H → va_D (A0 adl0 s.heap.size) (wsO cy adl I L R) → va_S (A0 adl0 s.heap.size) s.heap H locs → lvO ls nL adl lv →
    W p l e Rm s m args below meth c H locs ce sl (Qf below args s D cy adl0) (F0 m pc ls (st.map (mv adl)))
/-- a method's contract: from the memory (I, L, R) of n places with these arguments it comes to an answer and a memory with Po -/
def Ok (l : Launch) (y : MethodName) (cc : ByteArray) (nL : Nat) (ret : Option FieldType) (d mc ms : Nat) (as : List Value) (I : MI) (L : ML) (R : MR) (n : Nat) (Po : PO) : Prop :=
  ∀ (D : va_G) (cy : Nat → ClassId) (adl : List Nat) (sz : Nat), AL adl n I L R →
    Met l y (.code y cc nL ret :: gtb) (rmd d mc ms) (va_Pc (as.map (mv adl)) (fun U => U.heap.size = sz ∧ va_P D vwCl (wsO cy adl I L R) U.heap ∧ va_K D vwCl (tyO cy) U ∧ va_D (fun _ => True) (wsO cy adl I L R) ∧ xt U ∧ stt (A0 adl sz) U U.heap)) (QO D cy adl sz Po) mc ms (A0 adl sz)
theorem wsO_addr {cy : Nat → ClassId} {adl : List Nat} {I : MI} {L : ML} {R : MR} {q : Nat} (h : q ∈ adl) : ∃ (k : Nat) (e : va_E), (wsO cy adl I L R)[k]? = some (q, e) := by
  obtain ⟨k, hk⟩ := List.getElem?_of_mem h
  have hl := (List.getElem?_eq_some_iff.mp hk).1
  refine ⟨k, celK cy adl I L R k (kd k), ?_⟩
  rw [wsO_get hl]
  congr 2
  rw [List.getD_eq_getElem?_getD, hk]
  rfl
theorem wsO_in {cy : Nat → ClassId} {adl : List Nat} {I : MI} {L : ML} {R : MR} {k : Nat} {x : Nat × va_E} (h : (wsO cy adl I L R)[k]? = some x) : x.1 ∈ adl := by
  have hl : k < adl.length := by
    have := (List.getElem?_eq_some_iff.mp h).1
    simpa [wsO] using this
  rw [wsO_get hl] at h
  cases h
  show adl.getD k 0 ∈ adl
  rw [List.getD_eq_getElem?_getD, List.getElem?_eq_getElem hl]
  simp
theorem Ok.ofV {l : Launch} {y : MethodName} {cc : ByteArray} {nL : Nat} {ret : Option FieldType} {d mc ms : Nat} {as : List Value} {I : MI} {L : ML} {R : MR} {n : Nat} {Po : PO} (lv : List (Option Value)) (hlv : lvA as nL = lv) (hy : plainName y.cls = true) (hn : (lvE as).length ≤ nL)
    (h : V l y cc nL ret (rmd d mc ms) (QM mc ms Po) (fun _ _ => True) 0 lv [] I L R n 0 0) : Ok l y cc nL ret d mc ms as I L R n Po := by
  intro D cy adl sz hl
  refine Met.ofW (cc := cc) (maxL := nL) (ret := ret) hy rfl ?_
  intro p e s m args below meth c s₁ B hml hv
  obtain ⟨rfl, hsz, hP, hK, hD0, hxt, hst⟩ := hv
  subst hsz
  have hts := atoms_spec (ws := .code y cc nL ret :: gtb) B.pre
  have hown : s.vm.findClass y.cls = some m.cls := findClass_of_methodNamed B.named
  have hin : meth.name = y.name := (name_of_methodNamed B.named B.method).1
  rw [lg_entry_eq]
  refine h p e s m _ below meth c D cy adl adl s.heap [] _ ⟨B.exec, B.bytes, hml, hown, fun w hw => hts w (List.mem_cons_of_mem _ hw), B.returns, B.notSynchronized, hin, hK, hxt, hst⟩ trivial (List.prefix_refl _) hl hP ⟨hD0.1, fun k q hk => Or.inl (wsO_in hk)⟩ va_S.rf ?_
  rw [← hlv]
  exact lvO_entry as hn
section ROWS
variable {l : Launch} {y : MethodName} {cc : ByteArray} {nL : Nat} {ret : Option FieldType} {Rm : Room} {Qf : QF} {X : State → List Nat → Prop} {pc pc' tgt : Nat} {lv : List (Option Value)} {st : List Value} {I : MI} {L : ML} {R : MR} {n ce sl : Nat}

theorem v_iconst {k : Int} {v : Int32} (hd : decode cc pc = .ok (.iconst k, 1)) (hp : pc + 1 = pc') (hv : Int32.ofInt k = v) (kk : V l y cc nL ret Rm Qf X pc' lv (.int v :: st) I L R n ce sl) : V l y cc nL ret Rm Qf X pc lv (st) I L R n ce sl := by
  subst hp
  intro p e s m args below meth c D cy adl0 adl H locs ls F X0 h1 h2 hP hD hS hl
  exact lv_iconst F.1 F.2.1 hd hv (kk p e s m args below meth c D cy adl0 adl H locs ls F X0 h1 h2 hP hD hS hl)
theorem v_bipush {k : Int} {v : Int32} (hd : decode cc pc = .ok (.bipush k, 2)) (hp : pc + 2 = pc') (hv : (Int8.ofInt k).toInt32 = v) (kk : V l y cc nL ret Rm Qf X pc' lv (.int v :: st) I L R n ce sl) : V l y cc nL ret Rm Qf X pc lv (st) I L R n ce sl := by
  subst hp
  intro p e s m args below meth c D cy adl0 adl H locs ls F X0 h1 h2 hP hD hS hl
  exact lv_bipush F.1 F.2.1 hd hv (kk p e s m args below meth c D cy adl0 adl H locs ls F X0 h1 h2 hP hD hS hl)
theorem v_sipush {k : Int} {v : Int32} (hd : decode cc pc = .ok (.sipush k, 3)) (hp : pc + 3 = pc') (hv : (Int16.ofInt k).toInt32 = v) (kk : V l y cc nL ret Rm Qf X pc' lv (.int v :: st) I L R n ce sl) : V l y cc nL ret Rm Qf X pc lv (st) I L R n ce sl := by
  subst hp
  intro p e s m args below meth c D cy adl0 adl H locs ls F X0 h1 h2 hP hD hS hl
  exact lv_sipush F.1 F.2.1 hd hv (kk p e s m args below meth c D cy adl0 adl H locs ls F X0 h1 h2 hP hD hS hl)
theorem v_lconst {k : Fin 2} {v : Int64} (hd : decode cc pc = .ok (.lconst k, 1)) (hp : pc + 1 = pc') (hv : Int64.ofNat (k : Nat) = v) (kk : V l y cc nL ret Rm Qf X pc' lv (.long v :: st) I L R n ce sl) : V l y cc nL ret Rm Qf X pc lv (st) I L R n ce sl := by
  subst hp
  intro p e s m args below meth c D cy adl0 adl H locs ls F X0 h1 h2 hP hD hS hl
  exact lv_lconst F.1 F.2.1 hd hv (kk p e s m args below meth c D cy adl0 adl H locs ls F X0 h1 h2 hP hD hS hl)
theorem v_ldc {k : Nat} {v : Int32} (hd : decode cc pc = .ok (.ldc k, 2)) (hp : pc + 2 = pc') (hc : Cond.constant y.cls k v ∈ gtb) (kk : V l y cc nL ret Rm Qf X pc' lv (.int v :: st) I L R n ce sl) : V l y cc nL ret Rm Qf X pc lv (st) I L R n ce sl := by
  subst hp
  intro p e s m args below meth c D cy adl0 adl H locs ls F X0 h1 h2 hP hD hS hl
  exact lv_ldc F.1 F.2.1 F.2.2.2.1 (F.2.2.2.2.1 _ hc) hd (kk p e s m args below meth c D cy adl0 adl H locs ls F X0 h1 h2 hP hD hS hl)
theorem v_ldc2 {k : Nat} {v : Int64} (hd : decode cc pc = .ok (.ldc2_w k, 3)) (hp : pc + 3 = pc') (hc : Cond.constantLong y.cls k v ∈ gtb) (kk : V l y cc nL ret Rm Qf X pc' lv (.long v :: st) I L R n ce sl) : V l y cc nL ret Rm Qf X pc lv (st) I L R n ce sl := by
  subst hp
  intro p e s m args below meth c D cy adl0 adl H locs ls F X0 h1 h2 hP hD hS hl
  exact lv_ldc2 F.1 F.2.1 F.2.2.2.1 (F.2.2.2.2.1 _ hc) hd (kk p e s m args below meth c D cy adl0 adl H locs ls F X0 h1 h2 hP hD hS hl)
theorem v_iload_n {k : Fin 4} {x : Int32} (hd : decode cc pc = .ok (.iload_n k, 1)) (hp : pc + 1 = pc') (hv : lv[(k : Nat)]? = some (some (.int x))) (kk : V l y cc nL ret Rm Qf X pc' lv (.int x :: st) I L R n ce sl) : V l y cc nL ret Rm Qf X pc lv (st) I L R n ce sl := by
  subst hp
  intro p e s m args below meth c D cy adl0 adl H locs ls F X0 h1 h2 hP hD hS hl
  exact lv_iload_n F.1 F.2.1 hd rfl (lvO_get hl hv) (kk p e s m args below meth c D cy adl0 adl H locs ls F X0 h1 h2 hP hD hS hl)
theorem v_iload {k : Nat} {x : Int32} (hd : decode cc pc = .ok (.iload k, 2)) (hp : pc + 2 = pc') (hv : lv[k]? = some (some (.int x))) (kk : V l y cc nL ret Rm Qf X pc' lv (.int x :: st) I L R n ce sl) : V l y cc nL ret Rm Qf X pc lv (st) I L R n ce sl := by
  subst hp
  intro p e s m args below meth c D cy adl0 adl H locs ls F X0 h1 h2 hP hD hS hl
  exact lv_iload F.1 F.2.1 hd (lvO_get hl hv) (kk p e s m args below meth c D cy adl0 adl H locs ls F X0 h1 h2 hP hD hS hl)
theorem v_lload_n {k : Fin 4} {x : Int64} (hd : decode cc pc = .ok (.lload_n k, 1)) (hp : pc + 1 = pc') (hv : lv[(k : Nat)]? = some (some (.long x))) (kk : V l y cc nL ret Rm Qf X pc' lv (.long x :: st) I L R n ce sl) : V l y cc nL ret Rm Qf X pc lv (st) I L R n ce sl := by
  subst hp
  intro p e s m args below meth c D cy adl0 adl H locs ls F X0 h1 h2 hP hD hS hl
  exact lv_lload_n F.1 F.2.1 hd rfl (lvO_get hl hv) (kk p e s m args below meth c D cy adl0 adl H locs ls F X0 h1 h2 hP hD hS hl)
theorem v_lload {k : Nat} {x : Int64} (hd : decode cc pc = .ok (.lload k, 2)) (hp : pc + 2 = pc') (hv : lv[k]? = some (some (.long x))) (kk : V l y cc nL ret Rm Qf X pc' lv (.long x :: st) I L R n ce sl) : V l y cc nL ret Rm Qf X pc lv (st) I L R n ce sl := by
  subst hp
  intro p e s m args below meth c D cy adl0 adl H locs ls F X0 h1 h2 hP hD hS hl
  exact lv_lload F.1 F.2.1 hd (lvO_get hl hv) (kk p e s m args below meth c D cy adl0 adl H locs ls F X0 h1 h2 hP hD hS hl)
theorem v_aload_n {k : Fin 4} {x : Nat} (hd : decode cc pc = .ok (.aload_n k, 1)) (hp : pc + 1 = pc') (hv : lv[(k : Nat)]? = some (some (.ref x))) (kk : V l y cc nL ret Rm Qf X pc' lv (.ref x :: st) I L R n ce sl) : V l y cc nL ret Rm Qf X pc lv (st) I L R n ce sl := by
  subst hp
  intro p e s m args below meth c D cy adl0 adl H locs ls F X0 h1 h2 hP hD hS hl
  exact lv_aload_n F.1 F.2.1 hd rfl (lvO_get hl hv) (kk p e s m args below meth c D cy adl0 adl H locs ls F X0 h1 h2 hP hD hS hl)
theorem v_aload {k : Nat} {x : Nat} (hd : decode cc pc = .ok (.aload k, 2)) (hp : pc + 2 = pc') (hv : lv[k]? = some (some (.ref x))) (kk : V l y cc nL ret Rm Qf X pc' lv (.ref x :: st) I L R n ce sl) : V l y cc nL ret Rm Qf X pc lv (st) I L R n ce sl := by
  subst hp
  intro p e s m args below meth c D cy adl0 adl H locs ls F X0 h1 h2 hP hD hS hl
  exact lv_aload F.1 F.2.1 hd (lvO_get hl hv) (kk p e s m args below meth c D cy adl0 adl H locs ls F X0 h1 h2 hP hD hS hl)
theorem v_iadd {a b : Int32} (hd : decode cc pc = .ok (.iadd, 1)) (hp : pc + 1 = pc') (kk : V l y cc nL ret Rm Qf X pc' lv (.int (a + b) :: st) I L R n ce sl) : V l y cc nL ret Rm Qf X pc lv (.int b :: .int a :: st) I L R n ce sl := by
  subst hp
  intro p e s m args below meth c D cy adl0 adl H locs ls F X0 h1 h2 hP hD hS hl
  exact lv_iadd F.1 F.2.1 hd (kk p e s m args below meth c D cy adl0 adl H locs ls F X0 h1 h2 hP hD hS hl)
theorem v_isub {a b : Int32} (hd : decode cc pc = .ok (.isub, 1)) (hp : pc + 1 = pc') (kk : V l y cc nL ret Rm Qf X pc' lv (.int (a - b) :: st) I L R n ce sl) : V l y cc nL ret Rm Qf X pc lv (.int b :: .int a :: st) I L R n ce sl := by
  subst hp
  intro p e s m args below meth c D cy adl0 adl H locs ls F X0 h1 h2 hP hD hS hl
  exact lv_isub F.1 F.2.1 hd (kk p e s m args below meth c D cy adl0 adl H locs ls F X0 h1 h2 hP hD hS hl)
theorem v_imul {a b : Int32} (hd : decode cc pc = .ok (.imul, 1)) (hp : pc + 1 = pc') (kk : V l y cc nL ret Rm Qf X pc' lv (.int (a * b) :: st) I L R n ce sl) : V l y cc nL ret Rm Qf X pc lv (.int b :: .int a :: st) I L R n ce sl := by
  subst hp
  intro p e s m args below meth c D cy adl0 adl H locs ls F X0 h1 h2 hP hD hS hl
  exact lv_imul F.1 F.2.1 hd (kk p e s m args below meth c D cy adl0 adl H locs ls F X0 h1 h2 hP hD hS hl)
theorem v_iand {a b : Int32} (hd : decode cc pc = .ok (.iand, 1)) (hp : pc + 1 = pc') (kk : V l y cc nL ret Rm Qf X pc' lv (.int (a &&& b) :: st) I L R n ce sl) : V l y cc nL ret Rm Qf X pc lv (.int b :: .int a :: st) I L R n ce sl := by
  subst hp
  intro p e s m args below meth c D cy adl0 adl H locs ls F X0 h1 h2 hP hD hS hl
  exact lv_iand F.1 F.2.1 hd (kk p e s m args below meth c D cy adl0 adl H locs ls F X0 h1 h2 hP hD hS hl)
theorem v_ior {a b : Int32} (hd : decode cc pc = .ok (.ior, 1)) (hp : pc + 1 = pc') (kk : V l y cc nL ret Rm Qf X pc' lv (.int (a ||| b) :: st) I L R n ce sl) : V l y cc nL ret Rm Qf X pc lv (.int b :: .int a :: st) I L R n ce sl := by
  subst hp
  intro p e s m args below meth c D cy adl0 adl H locs ls F X0 h1 h2 hP hD hS hl
  exact lv_ior F.1 F.2.1 hd (kk p e s m args below meth c D cy adl0 adl H locs ls F X0 h1 h2 hP hD hS hl)
theorem v_ishl {a b : Int32} (hd : decode cc pc = .ok (.ishl, 1)) (hp : pc + 1 = pc') (kk : V l y cc nL ret Rm Qf X pc' lv (.int (a <<< (b &&& 31)) :: st) I L R n ce sl) : V l y cc nL ret Rm Qf X pc lv (.int b :: .int a :: st) I L R n ce sl := by
  subst hp
  intro p e s m args below meth c D cy adl0 adl H locs ls F X0 h1 h2 hP hD hS hl
  exact lv_ishl F.1 F.2.1 hd (kk p e s m args below meth c D cy adl0 adl H locs ls F X0 h1 h2 hP hD hS hl)
theorem v_ishr {a b : Int32} (hd : decode cc pc = .ok (.ishr, 1)) (hp : pc + 1 = pc') (kk : V l y cc nL ret Rm Qf X pc' lv (.int (a >>> (b &&& 31)) :: st) I L R n ce sl) : V l y cc nL ret Rm Qf X pc lv (.int b :: .int a :: st) I L R n ce sl := by
  subst hp
  intro p e s m args below meth c D cy adl0 adl H locs ls F X0 h1 h2 hP hD hS hl
  exact lv_ishr F.1 F.2.1 hd (kk p e s m args below meth c D cy adl0 adl H locs ls F X0 h1 h2 hP hD hS hl)
theorem v_ineg {a : Int32} (hd : decode cc pc = .ok (.ineg, 1)) (hp : pc + 1 = pc') (kk : V l y cc nL ret Rm Qf X pc' lv (.int (-a) :: st) I L R n ce sl) : V l y cc nL ret Rm Qf X pc lv (.int a :: st) I L R n ce sl := by
  subst hp
  intro p e s m args below meth c D cy adl0 adl H locs ls F X0 h1 h2 hP hD hS hl
  exact lv_ineg F.1 F.2.1 hd (kk p e s m args below meth c D cy adl0 adl H locs ls F X0 h1 h2 hP hD hS hl)
theorem v_idiv {a b : Int32} (hd : decode cc pc = .ok (.idiv, 1)) (hp : pc + 1 = pc') (hb : ¬ b = 0) (kk : V l y cc nL ret Rm Qf X pc' lv (.int (a / b) :: st) I L R n ce sl) : V l y cc nL ret Rm Qf X pc lv (.int b :: .int a :: st) I L R n ce sl := by
  subst hp
  intro p e s m args below meth c D cy adl0 adl H locs ls F X0 h1 h2 hP hD hS hl
  exact lv_idiv F.1 F.2.1 hd hb (kk p e s m args below meth c D cy adl0 adl H locs ls F X0 h1 h2 hP hD hS hl)
theorem v_irem {a b : Int32} (hd : decode cc pc = .ok (.irem, 1)) (hp : pc + 1 = pc') (hb : ¬ b = 0) (kk : V l y cc nL ret Rm Qf X pc' lv (.int (a - a / b * b) :: st) I L R n ce sl) : V l y cc nL ret Rm Qf X pc lv (.int b :: .int a :: st) I L R n ce sl := by
  subst hp
  intro p e s m args below meth c D cy adl0 adl H locs ls F X0 h1 h2 hP hD hS hl
  exact lv_irem F.1 F.2.1 hd hb (kk p e s m args below meth c D cy adl0 adl H locs ls F X0 h1 h2 hP hD hS hl)
theorem v_ladd {a b : Int64} (hd : decode cc pc = .ok (.ladd, 1)) (hp : pc + 1 = pc') (kk : V l y cc nL ret Rm Qf X pc' lv (.long (a + b) :: st) I L R n ce sl) : V l y cc nL ret Rm Qf X pc lv (.long b :: .long a :: st) I L R n ce sl := by
  subst hp
  intro p e s m args below meth c D cy adl0 adl H locs ls F X0 h1 h2 hP hD hS hl
  exact lv_ladd F.1 F.2.1 hd (kk p e s m args below meth c D cy adl0 adl H locs ls F X0 h1 h2 hP hD hS hl)
theorem v_lsub {a b : Int64} (hd : decode cc pc = .ok (.lsub, 1)) (hp : pc + 1 = pc') (kk : V l y cc nL ret Rm Qf X pc' lv (.long (a - b) :: st) I L R n ce sl) : V l y cc nL ret Rm Qf X pc lv (.long b :: .long a :: st) I L R n ce sl := by
  subst hp
  intro p e s m args below meth c D cy adl0 adl H locs ls F X0 h1 h2 hP hD hS hl
  exact lv_lsub F.1 F.2.1 hd (kk p e s m args below meth c D cy adl0 adl H locs ls F X0 h1 h2 hP hD hS hl)
theorem v_lmul {a b : Int64} (hd : decode cc pc = .ok (.lmul, 1)) (hp : pc + 1 = pc') (kk : V l y cc nL ret Rm Qf X pc' lv (.long (a * b) :: st) I L R n ce sl) : V l y cc nL ret Rm Qf X pc lv (.long b :: .long a :: st) I L R n ce sl := by
  subst hp
  intro p e s m args below meth c D cy adl0 adl H locs ls F X0 h1 h2 hP hD hS hl
  exact lv_lmul F.1 F.2.1 hd (kk p e s m args below meth c D cy adl0 adl H locs ls F X0 h1 h2 hP hD hS hl)
theorem v_land {a b : Int64} (hd : decode cc pc = .ok (.land, 1)) (hp : pc + 1 = pc') (kk : V l y cc nL ret Rm Qf X pc' lv (.long (a &&& b) :: st) I L R n ce sl) : V l y cc nL ret Rm Qf X pc lv (.long b :: .long a :: st) I L R n ce sl := by
  subst hp
  intro p e s m args below meth c D cy adl0 adl H locs ls F X0 h1 h2 hP hD hS hl
  exact lv_land F.1 F.2.1 hd (kk p e s m args below meth c D cy adl0 adl H locs ls F X0 h1 h2 hP hD hS hl)
theorem v_lor {a b : Int64} (hd : decode cc pc = .ok (.lor, 1)) (hp : pc + 1 = pc') (kk : V l y cc nL ret Rm Qf X pc' lv (.long (a ||| b) :: st) I L R n ce sl) : V l y cc nL ret Rm Qf X pc lv (.long b :: .long a :: st) I L R n ce sl := by
  subst hp
  intro p e s m args below meth c D cy adl0 adl H locs ls F X0 h1 h2 hP hD hS hl
  exact lv_lor F.1 F.2.1 hd (kk p e s m args below meth c D cy adl0 adl H locs ls F X0 h1 h2 hP hD hS hl)
theorem v_lxor {a b : Int64} (hd : decode cc pc = .ok (.lxor, 1)) (hp : pc + 1 = pc') (kk : V l y cc nL ret Rm Qf X pc' lv (.long (a ^^^ b) :: st) I L R n ce sl) : V l y cc nL ret Rm Qf X pc lv (.long b :: .long a :: st) I L R n ce sl := by
  subst hp
  intro p e s m args below meth c D cy adl0 adl H locs ls F X0 h1 h2 hP hD hS hl
  exact lv_lxor F.1 F.2.1 hd (kk p e s m args below meth c D cy adl0 adl H locs ls F X0 h1 h2 hP hD hS hl)
theorem v_ldiv {a b : Int64} (hd : decode cc pc = .ok (.ldiv, 1)) (hp : pc + 1 = pc') (hb : ¬ b = 0) (kk : V l y cc nL ret Rm Qf X pc' lv (.long (a / b) :: st) I L R n ce sl) : V l y cc nL ret Rm Qf X pc lv (.long b :: .long a :: st) I L R n ce sl := by
  subst hp
  intro p e s m args below meth c D cy adl0 adl H locs ls F X0 h1 h2 hP hD hS hl
  exact lv_ldiv F.1 F.2.1 hd hb (kk p e s m args below meth c D cy adl0 adl H locs ls F X0 h1 h2 hP hD hS hl)
theorem v_i2l {a : Int32} (hd : decode cc pc = .ok (.i2l, 1)) (hp : pc + 1 = pc') (kk : V l y cc nL ret Rm Qf X pc' lv (.long a.toInt64 :: st) I L R n ce sl) : V l y cc nL ret Rm Qf X pc lv (.int a :: st) I L R n ce sl := by
  subst hp
  intro p e s m args below meth c D cy adl0 adl H locs ls F X0 h1 h2 hP hD hS hl
  exact lv_i2l F.1 F.2.1 hd rfl (kk p e s m args below meth c D cy adl0 adl H locs ls F X0 h1 h2 hP hD hS hl)
theorem v_l2i {a : Int64} (hd : decode cc pc = .ok (.l2i, 1)) (hp : pc + 1 = pc') (kk : V l y cc nL ret Rm Qf X pc' lv (.int a.toInt32 :: st) I L R n ce sl) : V l y cc nL ret Rm Qf X pc lv (.long a :: st) I L R n ce sl := by
  subst hp
  intro p e s m args below meth c D cy adl0 adl H locs ls F X0 h1 h2 hP hD hS hl
  exact lv_l2i F.1 F.2.1 hd rfl (kk p e s m args below meth c D cy adl0 adl H locs ls F X0 h1 h2 hP hD hS hl)
def lush (a : Int64) (b : Int32) : Int64 := (a.toUInt64 >>> (b.toInt64.toUInt64 &&& Int64.toUInt64 63)).toInt64
def lshf (a : Int64) (b : Int32) : Int64 := a <<< (b.toInt64 &&& 63)
theorem v_lushr {a : Int64} {b : Int32} (hd : decode cc pc = .ok (.lushr, 1)) (hp : pc + 1 = pc') (kk : V l y cc nL ret Rm Qf X pc' lv (.long (lush a b) :: st) I L R n ce sl) : V l y cc nL ret Rm Qf X pc lv (.int b :: .long a :: st) I L R n ce sl := by
  subst hp
  intro p e s m args below meth c D cy adl0 adl H locs ls F X0 h1 h2 hP hD hS hl
  exact lv_lushr F.1 F.2.1 hd rfl (kk p e s m args below meth c D cy adl0 adl H locs ls F X0 h1 h2 hP hD hS hl)
theorem v_lshl {a : Int64} {b : Int32} (hd : decode cc pc = .ok (.lshl, 1)) (hp : pc + 1 = pc') (kk : V l y cc nL ret Rm Qf X pc' lv (.long (lshf a b) :: st) I L R n ce sl) : V l y cc nL ret Rm Qf X pc lv (.int b :: .long a :: st) I L R n ce sl := by
  subst hp
  intro p e s m args below meth c D cy adl0 adl H locs ls F X0 h1 h2 hP hD hS hl
  exact lv_lshl F.1 F.2.1 hd rfl (kk p e s m args below meth c D cy adl0 adl H locs ls F X0 h1 h2 hP hD hS hl)
theorem v_lcmp {a b : Int64} (hd : decode cc pc = .ok (.lcmp, 1)) (hp : pc + 1 = pc') (kk : V l y cc nL ret Rm Qf X pc' lv (.int (lg_cmp a b) :: st) I L R n ce sl) : V l y cc nL ret Rm Qf X pc lv (.long b :: .long a :: st) I L R n ce sl := by
  subst hp
  intro p e s m args below meth c D cy adl0 adl H locs ls F X0 h1 h2 hP hD hS hl
  exact W.lcmp F.1 F.2.1 hd (kk p e s m args below meth c D cy adl0 adl H locs ls F X0 h1 h2 hP hD hS hl)
theorem v_dup {a : Value} (hd : decode cc pc = .ok (.dup, 1)) (hp : pc + 1 = pc') (ha : a.category = 1) (kk : V l y cc nL ret Rm Qf X pc' lv (a :: a :: st) I L R n ce sl) : V l y cc nL ret Rm Qf X pc lv (a :: st) I L R n ce sl := by
  subst hp
  intro p e s m args below meth c D cy adl0 adl H locs ls F X0 h1 h2 hP hD hS hl
  exact lv_dup F.1 F.2.1 hd (by rw [mv_cat]; exact ha) (kk p e s m args below meth c D cy adl0 adl H locs ls F X0 h1 h2 hP hD hS hl)
theorem v_pop {a : Value} (hd : decode cc pc = .ok (.pop, 1)) (hp : pc + 1 = pc') (ha : a.category = 1) (kk : V l y cc nL ret Rm Qf X pc' lv (st) I L R n ce sl) : V l y cc nL ret Rm Qf X pc lv (a :: st) I L R n ce sl := by
  subst hp
  intro p e s m args below meth c D cy adl0 adl H locs ls F X0 h1 h2 hP hD hS hl
  exact lv_pop F.1 F.2.1 hd (by rw [mv_cat]; exact ha) (kk p e s m args below meth c D cy adl0 adl H locs ls F X0 h1 h2 hP hD hS hl)
theorem v_dup2 {a b : Value} (hd : decode cc pc = .ok (.dup2, 1)) (hp : pc + 1 = pc') (ha : a.category = 1) (hb : b.category = 1) (kk : V l y cc nL ret Rm Qf X pc' lv (a :: b :: a :: b :: st) I L R n ce sl) : V l y cc nL ret Rm Qf X pc lv (a :: b :: st) I L R n ce sl := by
  subst hp
  intro p e s m args below meth c D cy adl0 adl H locs ls F X0 h1 h2 hP hD hS hl
  exact lv_dup2_11 F.1 F.2.1 hd (by rw [mv_cat]; exact ha) (by rw [mv_cat]; exact hb) (kk p e s m args below meth c D cy adl0 adl H locs ls F X0 h1 h2 hP hD hS hl)
theorem v_if_eq {a : Int32} {off : Int} (hd : decode cc pc = .ok (.ifCond .eq off, 3)) (hp : pc + 3 = pc') (ht : (pc : Int) + off = (tgt : Int)) (kt : a = 0 → V l y cc nL ret Rm Qf X tgt lv (st) I L R n ce sl) (kf : ¬ (a = 0) → V l y cc nL ret Rm Qf X pc' lv (st) I L R n ce sl) : V l y cc nL ret Rm Qf X pc lv (.int a :: st) I L R n ce sl := by
  subst hp
  intro p e s m args below meth c D cy adl0 adl H locs ls F X0 h1 h2 hP hD hS hl
  exact lv_if_eq F.1 F.2.1 hd ht (fun q => kt q p e s m args below meth c D cy adl0 adl H locs ls F X0 h1 h2 hP hD hS hl) (fun q => kf q p e s m args below meth c D cy adl0 adl H locs ls F X0 h1 h2 hP hD hS hl)
theorem v_icmp_eq {a b : Int32} {off : Int} (hd : decode cc pc = .ok (.if_icmp .eq off, 3)) (hp : pc + 3 = pc') (ht : (pc : Int) + off = (tgt : Int)) (kt : a = b → V l y cc nL ret Rm Qf X tgt lv (st) I L R n ce sl) (kf : ¬ (a = b) → V l y cc nL ret Rm Qf X pc' lv (st) I L R n ce sl) : V l y cc nL ret Rm Qf X pc lv (.int b :: .int a :: st) I L R n ce sl := by
  subst hp
  intro p e s m args below meth c D cy adl0 adl H locs ls F X0 h1 h2 hP hD hS hl
  exact lv_icmp_eq F.1 F.2.1 hd ht (fun q => kt q p e s m args below meth c D cy adl0 adl H locs ls F X0 h1 h2 hP hD hS hl) (fun q => kf q p e s m args below meth c D cy adl0 adl H locs ls F X0 h1 h2 hP hD hS hl)
theorem v_if_ne {a : Int32} {off : Int} (hd : decode cc pc = .ok (.ifCond .ne off, 3)) (hp : pc + 3 = pc') (ht : (pc : Int) + off = (tgt : Int)) (kt : a ≠ 0 → V l y cc nL ret Rm Qf X tgt lv (st) I L R n ce sl) (kf : a = 0 → V l y cc nL ret Rm Qf X pc' lv (st) I L R n ce sl) : V l y cc nL ret Rm Qf X pc lv (.int a :: st) I L R n ce sl := by
  subst hp
  intro p e s m args below meth c D cy adl0 adl H locs ls F X0 h1 h2 hP hD hS hl
  exact lv_if_ne F.1 F.2.1 hd ht (fun q => kt q p e s m args below meth c D cy adl0 adl H locs ls F X0 h1 h2 hP hD hS hl) (fun q => kf q p e s m args below meth c D cy adl0 adl H locs ls F X0 h1 h2 hP hD hS hl)
theorem v_icmp_ne {a b : Int32} {off : Int} (hd : decode cc pc = .ok (.if_icmp .ne off, 3)) (hp : pc + 3 = pc') (ht : (pc : Int) + off = (tgt : Int)) (kt : a ≠ b → V l y cc nL ret Rm Qf X tgt lv (st) I L R n ce sl) (kf : a = b → V l y cc nL ret Rm Qf X pc' lv (st) I L R n ce sl) : V l y cc nL ret Rm Qf X pc lv (.int b :: .int a :: st) I L R n ce sl := by
  subst hp
  intro p e s m args below meth c D cy adl0 adl H locs ls F X0 h1 h2 hP hD hS hl
  exact lv_icmp_ne F.1 F.2.1 hd ht (fun q => kt q p e s m args below meth c D cy adl0 adl H locs ls F X0 h1 h2 hP hD hS hl) (fun q => kf q p e s m args below meth c D cy adl0 adl H locs ls F X0 h1 h2 hP hD hS hl)
theorem v_if_lt {a : Int32} {off : Int} (hd : decode cc pc = .ok (.ifCond .lt off, 3)) (hp : pc + 3 = pc') (ht : (pc : Int) + off = (tgt : Int)) (kt : a < 0 → V l y cc nL ret Rm Qf X tgt lv (st) I L R n ce sl) (kf : ¬ (a < 0) → V l y cc nL ret Rm Qf X pc' lv (st) I L R n ce sl) : V l y cc nL ret Rm Qf X pc lv (.int a :: st) I L R n ce sl := by
  subst hp
  intro p e s m args below meth c D cy adl0 adl H locs ls F X0 h1 h2 hP hD hS hl
  exact lv_if_lt F.1 F.2.1 hd ht (fun q => kt q p e s m args below meth c D cy adl0 adl H locs ls F X0 h1 h2 hP hD hS hl) (fun q => kf q p e s m args below meth c D cy adl0 adl H locs ls F X0 h1 h2 hP hD hS hl)
theorem v_icmp_lt {a b : Int32} {off : Int} (hd : decode cc pc = .ok (.if_icmp .lt off, 3)) (hp : pc + 3 = pc') (ht : (pc : Int) + off = (tgt : Int)) (kt : a < b → V l y cc nL ret Rm Qf X tgt lv (st) I L R n ce sl) (kf : ¬ (a < b) → V l y cc nL ret Rm Qf X pc' lv (st) I L R n ce sl) : V l y cc nL ret Rm Qf X pc lv (.int b :: .int a :: st) I L R n ce sl := by
  subst hp
  intro p e s m args below meth c D cy adl0 adl H locs ls F X0 h1 h2 hP hD hS hl
  exact lv_icmp_lt F.1 F.2.1 hd ht (fun q => kt q p e s m args below meth c D cy adl0 adl H locs ls F X0 h1 h2 hP hD hS hl) (fun q => kf q p e s m args below meth c D cy adl0 adl H locs ls F X0 h1 h2 hP hD hS hl)
theorem v_if_ge {a : Int32} {off : Int} (hd : decode cc pc = .ok (.ifCond .ge off, 3)) (hp : pc + 3 = pc') (ht : (pc : Int) + off = (tgt : Int)) (kt : 0 ≤ a → V l y cc nL ret Rm Qf X tgt lv (st) I L R n ce sl) (kf : ¬ (0 ≤ a) → V l y cc nL ret Rm Qf X pc' lv (st) I L R n ce sl) : V l y cc nL ret Rm Qf X pc lv (.int a :: st) I L R n ce sl := by
  subst hp
  intro p e s m args below meth c D cy adl0 adl H locs ls F X0 h1 h2 hP hD hS hl
  exact lv_if_ge F.1 F.2.1 hd ht (fun q => kt q p e s m args below meth c D cy adl0 adl H locs ls F X0 h1 h2 hP hD hS hl) (fun q => kf q p e s m args below meth c D cy adl0 adl H locs ls F X0 h1 h2 hP hD hS hl)
theorem v_icmp_ge {a b : Int32} {off : Int} (hd : decode cc pc = .ok (.if_icmp .ge off, 3)) (hp : pc + 3 = pc') (ht : (pc : Int) + off = (tgt : Int)) (kt : b ≤ a → V l y cc nL ret Rm Qf X tgt lv (st) I L R n ce sl) (kf : ¬ (b ≤ a) → V l y cc nL ret Rm Qf X pc' lv (st) I L R n ce sl) : V l y cc nL ret Rm Qf X pc lv (.int b :: .int a :: st) I L R n ce sl := by
  subst hp
  intro p e s m args below meth c D cy adl0 adl H locs ls F X0 h1 h2 hP hD hS hl
  exact lv_icmp_ge F.1 F.2.1 hd ht (fun q => kt q p e s m args below meth c D cy adl0 adl H locs ls F X0 h1 h2 hP hD hS hl) (fun q => kf q p e s m args below meth c D cy adl0 adl H locs ls F X0 h1 h2 hP hD hS hl)
theorem v_if_gt {a : Int32} {off : Int} (hd : decode cc pc = .ok (.ifCond .gt off, 3)) (hp : pc + 3 = pc') (ht : (pc : Int) + off = (tgt : Int)) (kt : 0 < a → V l y cc nL ret Rm Qf X tgt lv (st) I L R n ce sl) (kf : ¬ (0 < a) → V l y cc nL ret Rm Qf X pc' lv (st) I L R n ce sl) : V l y cc nL ret Rm Qf X pc lv (.int a :: st) I L R n ce sl := by
  subst hp
  intro p e s m args below meth c D cy adl0 adl H locs ls F X0 h1 h2 hP hD hS hl
  exact lv_if_gt F.1 F.2.1 hd ht (fun q => kt q p e s m args below meth c D cy adl0 adl H locs ls F X0 h1 h2 hP hD hS hl) (fun q => kf q p e s m args below meth c D cy adl0 adl H locs ls F X0 h1 h2 hP hD hS hl)
theorem v_icmp_gt {a b : Int32} {off : Int} (hd : decode cc pc = .ok (.if_icmp .gt off, 3)) (hp : pc + 3 = pc') (ht : (pc : Int) + off = (tgt : Int)) (kt : b < a → V l y cc nL ret Rm Qf X tgt lv (st) I L R n ce sl) (kf : ¬ (b < a) → V l y cc nL ret Rm Qf X pc' lv (st) I L R n ce sl) : V l y cc nL ret Rm Qf X pc lv (.int b :: .int a :: st) I L R n ce sl := by
  subst hp
  intro p e s m args below meth c D cy adl0 adl H locs ls F X0 h1 h2 hP hD hS hl
  exact lv_icmp_gt F.1 F.2.1 hd ht (fun q => kt q p e s m args below meth c D cy adl0 adl H locs ls F X0 h1 h2 hP hD hS hl) (fun q => kf q p e s m args below meth c D cy adl0 adl H locs ls F X0 h1 h2 hP hD hS hl)
theorem v_if_le {a : Int32} {off : Int} (hd : decode cc pc = .ok (.ifCond .le off, 3)) (hp : pc + 3 = pc') (ht : (pc : Int) + off = (tgt : Int)) (kt : a ≤ 0 → V l y cc nL ret Rm Qf X tgt lv (st) I L R n ce sl) (kf : ¬ (a ≤ 0) → V l y cc nL ret Rm Qf X pc' lv (st) I L R n ce sl) : V l y cc nL ret Rm Qf X pc lv (.int a :: st) I L R n ce sl := by
  subst hp
  intro p e s m args below meth c D cy adl0 adl H locs ls F X0 h1 h2 hP hD hS hl
  exact lv_if_le F.1 F.2.1 hd ht (fun q => kt q p e s m args below meth c D cy adl0 adl H locs ls F X0 h1 h2 hP hD hS hl) (fun q => kf q p e s m args below meth c D cy adl0 adl H locs ls F X0 h1 h2 hP hD hS hl)
theorem v_icmp_le {a b : Int32} {off : Int} (hd : decode cc pc = .ok (.if_icmp .le off, 3)) (hp : pc + 3 = pc') (ht : (pc : Int) + off = (tgt : Int)) (kt : a ≤ b → V l y cc nL ret Rm Qf X tgt lv (st) I L R n ce sl) (kf : ¬ (a ≤ b) → V l y cc nL ret Rm Qf X pc' lv (st) I L R n ce sl) : V l y cc nL ret Rm Qf X pc lv (.int b :: .int a :: st) I L R n ce sl := by
  subst hp
  intro p e s m args below meth c D cy adl0 adl H locs ls F X0 h1 h2 hP hD hS hl
  exact lv_icmp_le F.1 F.2.1 hd ht (fun q => kt q p e s m args below meth c D cy adl0 adl H locs ls F X0 h1 h2 hP hD hS hl) (fun q => kf q p e s m args below meth c D cy adl0 adl H locs ls F X0 h1 h2 hP hD hS hl)
theorem v_goto {off : Int} (hd : decode cc pc = .ok (.goto off, 3)) (ht : (pc : Int) + off = (tgt : Int)) (kk : V l y cc nL ret Rm Qf X tgt lv (st) I L R n ce sl) : V l y cc nL ret Rm Qf X pc lv (st) I L R n ce sl := by
  intro p e s m args below meth c D cy adl0 adl H locs ls F X0 h1 h2 hP hD hS hl
  exact lv_goto F.1 F.2.1 hd ht (kk p e s m args below meth c D cy adl0 adl H locs ls F X0 h1 h2 hP hD hS hl)
theorem v_tabOut {dflt lo hi : Int} {offs : Array Int} {len : Nat} {a : Int32} (hd : decode cc pc = .ok (.tableswitch dflt lo hi offs, len)) (h : a.toInt < lo ∨ hi < a.toInt) (ht : (pc : Int) + dflt = (tgt : Int)) (kk : V l y cc nL ret Rm Qf X tgt lv (st) I L R n ce sl) : V l y cc nL ret Rm Qf X pc lv (.int a :: st) I L R n ce sl := by
  intro p e s m args below meth c D cy adl0 adl H locs ls F X0 h1 h2 hP hD hS hl
  exact lv_tableOut F.1 F.2.1 hd h ht (kk p e s m args below meth c D cy adl0 adl H locs ls F X0 h1 h2 hP hD hS hl)
theorem v_tabIn {dflt lo hi off : Int} {offs : Array Int} {len : Nat} {a : Int32} (hd : decode cc pc = .ok (.tableswitch dflt lo hi offs, len)) (hlo : ¬ a.toInt < lo) (hhi : ¬ hi < a.toInt) (ho : offs[(a.toInt - lo).toNat]? = some off) (ht : (pc : Int) + off = (tgt : Int)) (kk : V l y cc nL ret Rm Qf X tgt lv (st) I L R n ce sl) : V l y cc nL ret Rm Qf X pc lv (.int a :: st) I L R n ce sl := by
  intro p e s m args below meth c D cy adl0 adl H locs ls F X0 h1 h2 hP hD hS hl
  exact lv_tableIn F.1 F.2.1 hd hlo hhi ho ht (kk p e s m args below meth c D cy adl0 adl H locs ls F X0 h1 h2 hP hD hS hl)
theorem v_istore_n {k : Fin 4} {x : Int32} (pre t : List (Option Value)) {b : Option Value} (hd : decode cc pc = .ok (.istore_n k, 1)) (hp : pc + 1 = pc') (hk : pre.length = (k : Nat)) (hb : (k : Nat) < nL) (hq : ∀ z, pre.getLast? = some z → nlo z = true) (kk : V l y cc nL ret Rm Qf X pc' (pre ++ some (.int x) :: t) (st) I L R n ce sl) : V l y cc nL ret Rm Qf X pc (pre ++ b :: t) (.int x :: st) I L R n ce sl := by
  subst hp
  intro p e s m args below meth c D cy adl0 adl H locs ls F X0 h1 h2 hP hD hS hl
  refine lv_istore_n F.1 F.2.1 hd rfl hl hb rfl (fun ls' hl' => kk p e s m args below meth c D cy adl0 adl H locs ls' F X0 h1 h2 hP hD hS ⟨hl'.1, hl'.2.1, fun q hq' => hl'.2.2 q ?_⟩)
  exact lvO_set1 (ls := ls) (nL := nL) hk hq hq'
theorem v_istore {k : Nat} {x : Int32} (pre t : List (Option Value)) {b : Option Value} (hd : decode cc pc = .ok (.istore k, 2)) (hp : pc + 2 = pc') (hk : pre.length = (k : Nat)) (hb : k < nL) (hq : ∀ z, pre.getLast? = some z → nlo z = true) (kk : V l y cc nL ret Rm Qf X pc' (pre ++ some (.int x) :: t) (st) I L R n ce sl) : V l y cc nL ret Rm Qf X pc (pre ++ b :: t) (.int x :: st) I L R n ce sl := by
  subst hp
  intro p e s m args below meth c D cy adl0 adl H locs ls F X0 h1 h2 hP hD hS hl
  refine lv_istore F.1 F.2.1 hd hl hb rfl (fun ls' hl' => kk p e s m args below meth c D cy adl0 adl H locs ls' F X0 h1 h2 hP hD hS ⟨hl'.1, hl'.2.1, fun q hq' => hl'.2.2 q ?_⟩)
  exact lvO_set1 (ls := ls) (nL := nL) hk hq hq'
theorem v_astore_n {k : Fin 4} {x : Nat} (pre t : List (Option Value)) {b : Option Value} (hd : decode cc pc = .ok (.astore_n k, 1)) (hp : pc + 1 = pc') (hk : pre.length = (k : Nat)) (hb : (k : Nat) < nL) (hq : ∀ z, pre.getLast? = some z → nlo z = true) (kk : V l y cc nL ret Rm Qf X pc' (pre ++ some (.ref x) :: t) (st) I L R n ce sl) : V l y cc nL ret Rm Qf X pc (pre ++ b :: t) (.ref x :: st) I L R n ce sl := by
  subst hp
  intro p e s m args below meth c D cy adl0 adl H locs ls F X0 h1 h2 hP hD hS hl
  refine lv_astore_n F.1 F.2.1 hd rfl hl hb rfl (fun ls' hl' => kk p e s m args below meth c D cy adl0 adl H locs ls' F X0 h1 h2 hP hD hS ⟨hl'.1, hl'.2.1, fun q hq' => hl'.2.2 q ?_⟩)
  exact lvO_set1 (ls := ls) (nL := nL) hk hq hq'
theorem v_astore {k : Nat} {x : Nat} (pre t : List (Option Value)) {b : Option Value} (hd : decode cc pc = .ok (.astore k, 2)) (hp : pc + 2 = pc') (hk : pre.length = (k : Nat)) (hb : k < nL) (hq : ∀ z, pre.getLast? = some z → nlo z = true) (kk : V l y cc nL ret Rm Qf X pc' (pre ++ some (.ref x) :: t) (st) I L R n ce sl) : V l y cc nL ret Rm Qf X pc (pre ++ b :: t) (.ref x :: st) I L R n ce sl := by
  subst hp
  intro p e s m args below meth c D cy adl0 adl H locs ls F X0 h1 h2 hP hD hS hl
  refine lv_astore F.1 F.2.1 hd hl hb rfl (fun ls' hl' => kk p e s m args below meth c D cy adl0 adl H locs ls' F X0 h1 h2 hP hD hS ⟨hl'.1, hl'.2.1, fun q hq' => hl'.2.2 q ?_⟩)
  exact lvO_set1 (ls := ls) (nL := nL) hk hq hq'
theorem v_lstore_n {k : Fin 4} {x : Int64} (pre t : List (Option Value)) {b b' : Option Value} (hd : decode cc pc = .ok (.lstore_n k, 1)) (hp : pc + 1 = pc') (hk : pre.length = (k : Nat)) (hb : (k : Nat) + 1 < nL) (hq : ∀ z, pre.getLast? = some z → nlo z = true) (kk : V l y cc nL ret Rm Qf X pc' (pre ++ some (.long x) :: none :: t) (st) I L R n ce sl) : V l y cc nL ret Rm Qf X pc (pre ++ b :: b' :: t) (.long x :: st) I L R n ce sl := by
  subst hp
  intro p e s m args below meth c D cy adl0 adl H locs ls F X0 h1 h2 hP hD hS hl
  refine lv_lstore_n F.1 F.2.1 hd rfl hl hb rfl (fun ls' hl' => kk p e s m args below meth c D cy adl0 adl H locs ls' F X0 h1 h2 hP hD hS ⟨hl'.1, hl'.2.1, fun q hq' => hl'.2.2 q ?_⟩)
  exact lvO_set2 (ls := ls) (nL := nL) hk hq hq'
theorem v_lstore {k : Nat} {x : Int64} (pre t : List (Option Value)) {b b' : Option Value} (hd : decode cc pc = .ok (.lstore k, 2)) (hp : pc + 2 = pc') (hk : pre.length = (k : Nat)) (hb : k + 1 < nL) (hq : ∀ z, pre.getLast? = some z → nlo z = true) (kk : V l y cc nL ret Rm Qf X pc' (pre ++ some (.long x) :: none :: t) (st) I L R n ce sl) : V l y cc nL ret Rm Qf X pc (pre ++ b :: b' :: t) (.long x :: st) I L R n ce sl := by
  subst hp
  intro p e s m args below meth c D cy adl0 adl H locs ls F X0 h1 h2 hP hD hS hl
  refine lv_lstore F.1 F.2.1 hd hl hb rfl (fun ls' hl' => kk p e s m args below meth c D cy adl0 adl H locs ls' F X0 h1 h2 hP hD hS ⟨hl'.1, hl'.2.1, fun q hq' => hl'.2.2 q ?_⟩)
  exact lvO_set2 (ls := ls) (nL := nL) hk hq hq'
theorem v_iinc {k : Nat} {z : Int} {a v : Int32} (pre t : List (Option Value)) (hd : decode cc pc = .ok (.iinc k z, 3)) (hp : pc + 3 = pc') (hk : pre.length = k) (hb : k < nL) (hq : ∀ z, pre.getLast? = some z → nlo z = true) (hv : a + Int32.ofInt z = v) (kk : V l y cc nL ret Rm Qf X pc' (pre ++ some (.int v) :: t) (st) I L R n ce sl) : V l y cc nL ret Rm Qf X pc (pre ++ some (.int a) :: t) (st) I L R n ce sl := by
  subst hp
  intro p e s m args below meth c D cy adl0 adl H locs ls F X0 h1 h2 hP hD hS hl
  have hm : (k, Value.int a) ∈ asc adl 0 (pre ++ some (.int a) :: t) := asc_mem.mpr ⟨k, .int a, by rw [← hk]; simp, by simp [mv]⟩
  obtain ⟨j, hj⟩ := List.getElem?_of_mem hm
  refine lv_iinc (k := j) F.1 F.2.1 hd hl hj hv hb rfl (fun ls' hl' => kk p e s m args below meth c D cy adl0 adl H locs ls' F X0 h1 h2 hP hD hS ⟨hl'.1, hl'.2.1, fun q hq' => hl'.2.2 q ?_⟩)
  exact lvO_set1 (ls := ls) (nL := nL) hk hq hq'
theorem v_istore_n0 {t : List (Option Value)} {x : Int32} {b : Option Value} (hd : decode cc pc = .ok (.istore_n 0, 1)) (hp : pc + 1 = pc') (hb : 0 < nL) (kk : V l y cc nL ret Rm Qf X pc' (some (.int x) :: t) (st) I L R n ce sl) : V l y cc nL ret Rm Qf X pc (b :: t) (.int x :: st) I L R n ce sl := v_istore_n [] t hd hp rfl hb (fun z hz => by simp at hz) kk
theorem v_istore0 {t : List (Option Value)} {x : Int32} {b : Option Value} (hd : decode cc pc = .ok (.istore 0, 2)) (hp : pc + 2 = pc') (hb : 0 < nL) (kk : V l y cc nL ret Rm Qf X pc' (some (.int x) :: t) (st) I L R n ce sl) : V l y cc nL ret Rm Qf X pc (b :: t) (.int x :: st) I L R n ce sl := v_istore [] t hd hp rfl hb (fun z hz => by simp at hz) kk
theorem v_astore_n0 {t : List (Option Value)} {x : Nat} {b : Option Value} (hd : decode cc pc = .ok (.astore_n 0, 1)) (hp : pc + 1 = pc') (hb : 0 < nL) (kk : V l y cc nL ret Rm Qf X pc' (some (.ref x) :: t) (st) I L R n ce sl) : V l y cc nL ret Rm Qf X pc (b :: t) (.ref x :: st) I L R n ce sl := v_astore_n [] t hd hp rfl hb (fun z hz => by simp at hz) kk
theorem v_astore0 {t : List (Option Value)} {x : Nat} {b : Option Value} (hd : decode cc pc = .ok (.astore 0, 2)) (hp : pc + 2 = pc') (hb : 0 < nL) (kk : V l y cc nL ret Rm Qf X pc' (some (.ref x) :: t) (st) I L R n ce sl) : V l y cc nL ret Rm Qf X pc (b :: t) (.ref x :: st) I L R n ce sl := v_astore [] t hd hp rfl hb (fun z hz => by simp at hz) kk
theorem v_lstore_n0 {t : List (Option Value)} {x : Int64} {b b' : Option Value} (hd : decode cc pc = .ok (.lstore_n 0, 1)) (hp : pc + 1 = pc') (hb : 0 + 1 < nL) (kk : V l y cc nL ret Rm Qf X pc' (some (.long x) :: none :: t) (st) I L R n ce sl) : V l y cc nL ret Rm Qf X pc (b :: b' :: t) (.long x :: st) I L R n ce sl := v_lstore_n [] t hd hp rfl hb (fun z hz => by simp at hz) kk
theorem v_lstore0 {t : List (Option Value)} {x : Int64} {b b' : Option Value} (hd : decode cc pc = .ok (.lstore 0, 2)) (hp : pc + 2 = pc') (hb : 0 + 1 < nL) (kk : V l y cc nL ret Rm Qf X pc' (some (.long x) :: none :: t) (st) I L R n ce sl) : V l y cc nL ret Rm Qf X pc (b :: b' :: t) (.long x :: st) I L R n ce sl := v_lstore [] t hd hp rfl hb (fun z hz => by simp at hz) kk
theorem v_iinc0 {t : List (Option Value)} {z : Int} {a v : Int32} (hd : decode cc pc = .ok (.iinc 0 z, 3)) (hp : pc + 3 = pc') (hb : 0 < nL) (hv : a + Int32.ofInt z = v) (kk : V l y cc nL ret Rm Qf X pc' (some (.int v) :: t) (st) I L R n ce sl) : V l y cc nL ret Rm Qf X pc (some (.int a) :: t) (st) I L R n ce sl := v_iinc [] t hd hp rfl hb (fun z hz => by simp at hz) hv kk
theorem v_istore_n1 {z0 : Option Value} {t : List (Option Value)} {x : Int32} {b : Option Value} (hd : decode cc pc = .ok (.istore_n 1, 1)) (hp : pc + 1 = pc') (hb : 1 < nL) (hq : nlo z0 = true) (kk : V l y cc nL ret Rm Qf X pc' (z0 :: some (.int x) :: t) (st) I L R n ce sl) : V l y cc nL ret Rm Qf X pc (z0 :: b :: t) (.int x :: st) I L R n ce sl := v_istore_n [z0] t hd hp rfl hb (fun z hz => by simp at hz; rw [← hz]; exact hq) kk
theorem v_istore1 {z0 : Option Value} {t : List (Option Value)} {x : Int32} {b : Option Value} (hd : decode cc pc = .ok (.istore 1, 2)) (hp : pc + 2 = pc') (hb : 1 < nL) (hq : nlo z0 = true) (kk : V l y cc nL ret Rm Qf X pc' (z0 :: some (.int x) :: t) (st) I L R n ce sl) : V l y cc nL ret Rm Qf X pc (z0 :: b :: t) (.int x :: st) I L R n ce sl := v_istore [z0] t hd hp rfl hb (fun z hz => by simp at hz; rw [← hz]; exact hq) kk
theorem v_astore_n1 {z0 : Option Value} {t : List (Option Value)} {x : Nat} {b : Option Value} (hd : decode cc pc = .ok (.astore_n 1, 1)) (hp : pc + 1 = pc') (hb : 1 < nL) (hq : nlo z0 = true) (kk : V l y cc nL ret Rm Qf X pc' (z0 :: some (.ref x) :: t) (st) I L R n ce sl) : V l y cc nL ret Rm Qf X pc (z0 :: b :: t) (.ref x :: st) I L R n ce sl := v_astore_n [z0] t hd hp rfl hb (fun z hz => by simp at hz; rw [← hz]; exact hq) kk
theorem v_astore1 {z0 : Option Value} {t : List (Option Value)} {x : Nat} {b : Option Value} (hd : decode cc pc = .ok (.astore 1, 2)) (hp : pc + 2 = pc') (hb : 1 < nL) (hq : nlo z0 = true) (kk : V l y cc nL ret Rm Qf X pc' (z0 :: some (.ref x) :: t) (st) I L R n ce sl) : V l y cc nL ret Rm Qf X pc (z0 :: b :: t) (.ref x :: st) I L R n ce sl := v_astore [z0] t hd hp rfl hb (fun z hz => by simp at hz; rw [← hz]; exact hq) kk
theorem v_lstore_n1 {z0 : Option Value} {t : List (Option Value)} {x : Int64} {b b' : Option Value} (hd : decode cc pc = .ok (.lstore_n 1, 1)) (hp : pc + 1 = pc') (hb : 1 + 1 < nL) (hq : nlo z0 = true) (kk : V l y cc nL ret Rm Qf X pc' (z0 :: some (.long x) :: none :: t) (st) I L R n ce sl) : V l y cc nL ret Rm Qf X pc (z0 :: b :: b' :: t) (.long x :: st) I L R n ce sl := v_lstore_n [z0] t hd hp rfl hb (fun z hz => by simp at hz; rw [← hz]; exact hq) kk
theorem v_lstore1 {z0 : Option Value} {t : List (Option Value)} {x : Int64} {b b' : Option Value} (hd : decode cc pc = .ok (.lstore 1, 2)) (hp : pc + 2 = pc') (hb : 1 + 1 < nL) (hq : nlo z0 = true) (kk : V l y cc nL ret Rm Qf X pc' (z0 :: some (.long x) :: none :: t) (st) I L R n ce sl) : V l y cc nL ret Rm Qf X pc (z0 :: b :: b' :: t) (.long x :: st) I L R n ce sl := v_lstore [z0] t hd hp rfl hb (fun z hz => by simp at hz; rw [← hz]; exact hq) kk
theorem v_iinc1 {z0 : Option Value} {t : List (Option Value)} {z : Int} {a v : Int32} (hd : decode cc pc = .ok (.iinc 1 z, 3)) (hp : pc + 3 = pc') (hb : 1 < nL) (hq : nlo z0 = true) (hv : a + Int32.ofInt z = v) (kk : V l y cc nL ret Rm Qf X pc' (z0 :: some (.int v) :: t) (st) I L R n ce sl) : V l y cc nL ret Rm Qf X pc (z0 :: some (.int a) :: t) (st) I L R n ce sl := v_iinc [z0] t hd hp rfl hb (fun z hz => by simp at hz; rw [← hz]; exact hq) hv kk
theorem v_istore_n2 {z0 z1 : Option Value} {t : List (Option Value)} {x : Int32} {b : Option Value} (hd : decode cc pc = .ok (.istore_n 2, 1)) (hp : pc + 1 = pc') (hb : 2 < nL) (hq : nlo z1 = true) (kk : V l y cc nL ret Rm Qf X pc' (z0 :: z1 :: some (.int x) :: t) (st) I L R n ce sl) : V l y cc nL ret Rm Qf X pc (z0 :: z1 :: b :: t) (.int x :: st) I L R n ce sl := v_istore_n [z0, z1] t hd hp rfl hb (fun z hz => by simp at hz; rw [← hz]; exact hq) kk
theorem v_istore2 {z0 z1 : Option Value} {t : List (Option Value)} {x : Int32} {b : Option Value} (hd : decode cc pc = .ok (.istore 2, 2)) (hp : pc + 2 = pc') (hb : 2 < nL) (hq : nlo z1 = true) (kk : V l y cc nL ret Rm Qf X pc' (z0 :: z1 :: some (.int x) :: t) (st) I L R n ce sl) : V l y cc nL ret Rm Qf X pc (z0 :: z1 :: b :: t) (.int x :: st) I L R n ce sl := v_istore [z0, z1] t hd hp rfl hb (fun z hz => by simp at hz; rw [← hz]; exact hq) kk
theorem v_astore_n2 {z0 z1 : Option Value} {t : List (Option Value)} {x : Nat} {b : Option Value} (hd : decode cc pc = .ok (.astore_n 2, 1)) (hp : pc + 1 = pc') (hb : 2 < nL) (hq : nlo z1 = true) (kk : V l y cc nL ret Rm Qf X pc' (z0 :: z1 :: some (.ref x) :: t) (st) I L R n ce sl) : V l y cc nL ret Rm Qf X pc (z0 :: z1 :: b :: t) (.ref x :: st) I L R n ce sl := v_astore_n [z0, z1] t hd hp rfl hb (fun z hz => by simp at hz; rw [← hz]; exact hq) kk
theorem v_astore2 {z0 z1 : Option Value} {t : List (Option Value)} {x : Nat} {b : Option Value} (hd : decode cc pc = .ok (.astore 2, 2)) (hp : pc + 2 = pc') (hb : 2 < nL) (hq : nlo z1 = true) (kk : V l y cc nL ret Rm Qf X pc' (z0 :: z1 :: some (.ref x) :: t) (st) I L R n ce sl) : V l y cc nL ret Rm Qf X pc (z0 :: z1 :: b :: t) (.ref x :: st) I L R n ce sl := v_astore [z0, z1] t hd hp rfl hb (fun z hz => by simp at hz; rw [← hz]; exact hq) kk
theorem v_lstore_n2 {z0 z1 : Option Value} {t : List (Option Value)} {x : Int64} {b b' : Option Value} (hd : decode cc pc = .ok (.lstore_n 2, 1)) (hp : pc + 1 = pc') (hb : 2 + 1 < nL) (hq : nlo z1 = true) (kk : V l y cc nL ret Rm Qf X pc' (z0 :: z1 :: some (.long x) :: none :: t) (st) I L R n ce sl) : V l y cc nL ret Rm Qf X pc (z0 :: z1 :: b :: b' :: t) (.long x :: st) I L R n ce sl := v_lstore_n [z0, z1] t hd hp rfl hb (fun z hz => by simp at hz; rw [← hz]; exact hq) kk
theorem v_lstore2 {z0 z1 : Option Value} {t : List (Option Value)} {x : Int64} {b b' : Option Value} (hd : decode cc pc = .ok (.lstore 2, 2)) (hp : pc + 2 = pc') (hb : 2 + 1 < nL) (hq : nlo z1 = true) (kk : V l y cc nL ret Rm Qf X pc' (z0 :: z1 :: some (.long x) :: none :: t) (st) I L R n ce sl) : V l y cc nL ret Rm Qf X pc (z0 :: z1 :: b :: b' :: t) (.long x :: st) I L R n ce sl := v_lstore [z0, z1] t hd hp rfl hb (fun z hz => by simp at hz; rw [← hz]; exact hq) kk
theorem v_iinc2 {z0 z1 : Option Value} {t : List (Option Value)} {z : Int} {a v : Int32} (hd : decode cc pc = .ok (.iinc 2 z, 3)) (hp : pc + 3 = pc') (hb : 2 < nL) (hq : nlo z1 = true) (hv : a + Int32.ofInt z = v) (kk : V l y cc nL ret Rm Qf X pc' (z0 :: z1 :: some (.int v) :: t) (st) I L R n ce sl) : V l y cc nL ret Rm Qf X pc (z0 :: z1 :: some (.int a) :: t) (st) I L R n ce sl := v_iinc [z0, z1] t hd hp rfl hb (fun z hz => by simp at hz; rw [← hz]; exact hq) hv kk
theorem v_istore_n3 {z0 z1 z2 : Option Value} {t : List (Option Value)} {x : Int32} {b : Option Value} (hd : decode cc pc = .ok (.istore_n 3, 1)) (hp : pc + 1 = pc') (hb : 3 < nL) (hq : nlo z2 = true) (kk : V l y cc nL ret Rm Qf X pc' (z0 :: z1 :: z2 :: some (.int x) :: t) (st) I L R n ce sl) : V l y cc nL ret Rm Qf X pc (z0 :: z1 :: z2 :: b :: t) (.int x :: st) I L R n ce sl := v_istore_n [z0, z1, z2] t hd hp rfl hb (fun z hz => by simp at hz; rw [← hz]; exact hq) kk
theorem v_istore3 {z0 z1 z2 : Option Value} {t : List (Option Value)} {x : Int32} {b : Option Value} (hd : decode cc pc = .ok (.istore 3, 2)) (hp : pc + 2 = pc') (hb : 3 < nL) (hq : nlo z2 = true) (kk : V l y cc nL ret Rm Qf X pc' (z0 :: z1 :: z2 :: some (.int x) :: t) (st) I L R n ce sl) : V l y cc nL ret Rm Qf X pc (z0 :: z1 :: z2 :: b :: t) (.int x :: st) I L R n ce sl := v_istore [z0, z1, z2] t hd hp rfl hb (fun z hz => by simp at hz; rw [← hz]; exact hq) kk
theorem v_astore_n3 {z0 z1 z2 : Option Value} {t : List (Option Value)} {x : Nat} {b : Option Value} (hd : decode cc pc = .ok (.astore_n 3, 1)) (hp : pc + 1 = pc') (hb : 3 < nL) (hq : nlo z2 = true) (kk : V l y cc nL ret Rm Qf X pc' (z0 :: z1 :: z2 :: some (.ref x) :: t) (st) I L R n ce sl) : V l y cc nL ret Rm Qf X pc (z0 :: z1 :: z2 :: b :: t) (.ref x :: st) I L R n ce sl := v_astore_n [z0, z1, z2] t hd hp rfl hb (fun z hz => by simp at hz; rw [← hz]; exact hq) kk
theorem v_astore3 {z0 z1 z2 : Option Value} {t : List (Option Value)} {x : Nat} {b : Option Value} (hd : decode cc pc = .ok (.astore 3, 2)) (hp : pc + 2 = pc') (hb : 3 < nL) (hq : nlo z2 = true) (kk : V l y cc nL ret Rm Qf X pc' (z0 :: z1 :: z2 :: some (.ref x) :: t) (st) I L R n ce sl) : V l y cc nL ret Rm Qf X pc (z0 :: z1 :: z2 :: b :: t) (.ref x :: st) I L R n ce sl := v_astore [z0, z1, z2] t hd hp rfl hb (fun z hz => by simp at hz; rw [← hz]; exact hq) kk
theorem v_lstore_n3 {z0 z1 z2 : Option Value} {t : List (Option Value)} {x : Int64} {b b' : Option Value} (hd : decode cc pc = .ok (.lstore_n 3, 1)) (hp : pc + 1 = pc') (hb : 3 + 1 < nL) (hq : nlo z2 = true) (kk : V l y cc nL ret Rm Qf X pc' (z0 :: z1 :: z2 :: some (.long x) :: none :: t) (st) I L R n ce sl) : V l y cc nL ret Rm Qf X pc (z0 :: z1 :: z2 :: b :: b' :: t) (.long x :: st) I L R n ce sl := v_lstore_n [z0, z1, z2] t hd hp rfl hb (fun z hz => by simp at hz; rw [← hz]; exact hq) kk
theorem v_lstore3 {z0 z1 z2 : Option Value} {t : List (Option Value)} {x : Int64} {b b' : Option Value} (hd : decode cc pc = .ok (.lstore 3, 2)) (hp : pc + 2 = pc') (hb : 3 + 1 < nL) (hq : nlo z2 = true) (kk : V l y cc nL ret Rm Qf X pc' (z0 :: z1 :: z2 :: some (.long x) :: none :: t) (st) I L R n ce sl) : V l y cc nL ret Rm Qf X pc (z0 :: z1 :: z2 :: b :: b' :: t) (.long x :: st) I L R n ce sl := v_lstore [z0, z1, z2] t hd hp rfl hb (fun z hz => by simp at hz; rw [← hz]; exact hq) kk
theorem v_iinc3 {z0 z1 z2 : Option Value} {t : List (Option Value)} {z : Int} {a v : Int32} (hd : decode cc pc = .ok (.iinc 3 z, 3)) (hp : pc + 3 = pc') (hb : 3 < nL) (hq : nlo z2 = true) (hv : a + Int32.ofInt z = v) (kk : V l y cc nL ret Rm Qf X pc' (z0 :: z1 :: z2 :: some (.int v) :: t) (st) I L R n ce sl) : V l y cc nL ret Rm Qf X pc (z0 :: z1 :: z2 :: some (.int a) :: t) (st) I L R n ce sl := v_iinc [z0, z1, z2] t hd hp rfl hb (fun z hz => by simp at hz; rw [← hz]; exact hq) hv kk
theorem v_istore4 {z0 z1 z2 z3 : Option Value} {t : List (Option Value)} {x : Int32} {b : Option Value} (hd : decode cc pc = .ok (.istore 4, 2)) (hp : pc + 2 = pc') (hb : 4 < nL) (hq : nlo z3 = true) (kk : V l y cc nL ret Rm Qf X pc' (z0 :: z1 :: z2 :: z3 :: some (.int x) :: t) (st) I L R n ce sl) : V l y cc nL ret Rm Qf X pc (z0 :: z1 :: z2 :: z3 :: b :: t) (.int x :: st) I L R n ce sl := v_istore [z0, z1, z2, z3] t hd hp rfl hb (fun z hz => by simp at hz; rw [← hz]; exact hq) kk
theorem v_astore4 {z0 z1 z2 z3 : Option Value} {t : List (Option Value)} {x : Nat} {b : Option Value} (hd : decode cc pc = .ok (.astore 4, 2)) (hp : pc + 2 = pc') (hb : 4 < nL) (hq : nlo z3 = true) (kk : V l y cc nL ret Rm Qf X pc' (z0 :: z1 :: z2 :: z3 :: some (.ref x) :: t) (st) I L R n ce sl) : V l y cc nL ret Rm Qf X pc (z0 :: z1 :: z2 :: z3 :: b :: t) (.ref x :: st) I L R n ce sl := v_astore [z0, z1, z2, z3] t hd hp rfl hb (fun z hz => by simp at hz; rw [← hz]; exact hq) kk
theorem v_lstore4 {z0 z1 z2 z3 : Option Value} {t : List (Option Value)} {x : Int64} {b b' : Option Value} (hd : decode cc pc = .ok (.lstore 4, 2)) (hp : pc + 2 = pc') (hb : 4 + 1 < nL) (hq : nlo z3 = true) (kk : V l y cc nL ret Rm Qf X pc' (z0 :: z1 :: z2 :: z3 :: some (.long x) :: none :: t) (st) I L R n ce sl) : V l y cc nL ret Rm Qf X pc (z0 :: z1 :: z2 :: z3 :: b :: b' :: t) (.long x :: st) I L R n ce sl := v_lstore [z0, z1, z2, z3] t hd hp rfl hb (fun z hz => by simp at hz; rw [← hz]; exact hq) kk
theorem v_iinc4 {z0 z1 z2 z3 : Option Value} {t : List (Option Value)} {z : Int} {a v : Int32} (hd : decode cc pc = .ok (.iinc 4 z, 3)) (hp : pc + 3 = pc') (hb : 4 < nL) (hq : nlo z3 = true) (hv : a + Int32.ofInt z = v) (kk : V l y cc nL ret Rm Qf X pc' (z0 :: z1 :: z2 :: z3 :: some (.int v) :: t) (st) I L R n ce sl) : V l y cc nL ret Rm Qf X pc (z0 :: z1 :: z2 :: z3 :: some (.int a) :: t) (st) I L R n ce sl := v_iinc [z0, z1, z2, z3] t hd hp rfl hb (fun z hz => by simp at hz; rw [← hz]; exact hq) hv kk
theorem v_istore5 {z0 z1 z2 z3 z4 : Option Value} {t : List (Option Value)} {x : Int32} {b : Option Value} (hd : decode cc pc = .ok (.istore 5, 2)) (hp : pc + 2 = pc') (hb : 5 < nL) (hq : nlo z4 = true) (kk : V l y cc nL ret Rm Qf X pc' (z0 :: z1 :: z2 :: z3 :: z4 :: some (.int x) :: t) (st) I L R n ce sl) : V l y cc nL ret Rm Qf X pc (z0 :: z1 :: z2 :: z3 :: z4 :: b :: t) (.int x :: st) I L R n ce sl := v_istore [z0, z1, z2, z3, z4] t hd hp rfl hb (fun z hz => by simp at hz; rw [← hz]; exact hq) kk
theorem v_astore5 {z0 z1 z2 z3 z4 : Option Value} {t : List (Option Value)} {x : Nat} {b : Option Value} (hd : decode cc pc = .ok (.astore 5, 2)) (hp : pc + 2 = pc') (hb : 5 < nL) (hq : nlo z4 = true) (kk : V l y cc nL ret Rm Qf X pc' (z0 :: z1 :: z2 :: z3 :: z4 :: some (.ref x) :: t) (st) I L R n ce sl) : V l y cc nL ret Rm Qf X pc (z0 :: z1 :: z2 :: z3 :: z4 :: b :: t) (.ref x :: st) I L R n ce sl := v_astore [z0, z1, z2, z3, z4] t hd hp rfl hb (fun z hz => by simp at hz; rw [← hz]; exact hq) kk
theorem v_lstore5 {z0 z1 z2 z3 z4 : Option Value} {t : List (Option Value)} {x : Int64} {b b' : Option Value} (hd : decode cc pc = .ok (.lstore 5, 2)) (hp : pc + 2 = pc') (hb : 5 + 1 < nL) (hq : nlo z4 = true) (kk : V l y cc nL ret Rm Qf X pc' (z0 :: z1 :: z2 :: z3 :: z4 :: some (.long x) :: none :: t) (st) I L R n ce sl) : V l y cc nL ret Rm Qf X pc (z0 :: z1 :: z2 :: z3 :: z4 :: b :: b' :: t) (.long x :: st) I L R n ce sl := v_lstore [z0, z1, z2, z3, z4] t hd hp rfl hb (fun z hz => by simp at hz; rw [← hz]; exact hq) kk
theorem v_iinc5 {z0 z1 z2 z3 z4 : Option Value} {t : List (Option Value)} {z : Int} {a v : Int32} (hd : decode cc pc = .ok (.iinc 5 z, 3)) (hp : pc + 3 = pc') (hb : 5 < nL) (hq : nlo z4 = true) (hv : a + Int32.ofInt z = v) (kk : V l y cc nL ret Rm Qf X pc' (z0 :: z1 :: z2 :: z3 :: z4 :: some (.int v) :: t) (st) I L R n ce sl) : V l y cc nL ret Rm Qf X pc (z0 :: z1 :: z2 :: z3 :: z4 :: some (.int a) :: t) (st) I L R n ce sl := v_iinc [z0, z1, z2, z3, z4] t hd hp rfl hb (fun z hz => by simp at hz; rw [← hz]; exact hq) hv kk
theorem v_istore6 {z0 z1 z2 z3 z4 z5 : Option Value} {t : List (Option Value)} {x : Int32} {b : Option Value} (hd : decode cc pc = .ok (.istore 6, 2)) (hp : pc + 2 = pc') (hb : 6 < nL) (hq : nlo z5 = true) (kk : V l y cc nL ret Rm Qf X pc' (z0 :: z1 :: z2 :: z3 :: z4 :: z5 :: some (.int x) :: t) (st) I L R n ce sl) : V l y cc nL ret Rm Qf X pc (z0 :: z1 :: z2 :: z3 :: z4 :: z5 :: b :: t) (.int x :: st) I L R n ce sl := v_istore [z0, z1, z2, z3, z4, z5] t hd hp rfl hb (fun z hz => by simp at hz; rw [← hz]; exact hq) kk
theorem v_astore6 {z0 z1 z2 z3 z4 z5 : Option Value} {t : List (Option Value)} {x : Nat} {b : Option Value} (hd : decode cc pc = .ok (.astore 6, 2)) (hp : pc + 2 = pc') (hb : 6 < nL) (hq : nlo z5 = true) (kk : V l y cc nL ret Rm Qf X pc' (z0 :: z1 :: z2 :: z3 :: z4 :: z5 :: some (.ref x) :: t) (st) I L R n ce sl) : V l y cc nL ret Rm Qf X pc (z0 :: z1 :: z2 :: z3 :: z4 :: z5 :: b :: t) (.ref x :: st) I L R n ce sl := v_astore [z0, z1, z2, z3, z4, z5] t hd hp rfl hb (fun z hz => by simp at hz; rw [← hz]; exact hq) kk
theorem v_lstore6 {z0 z1 z2 z3 z4 z5 : Option Value} {t : List (Option Value)} {x : Int64} {b b' : Option Value} (hd : decode cc pc = .ok (.lstore 6, 2)) (hp : pc + 2 = pc') (hb : 6 + 1 < nL) (hq : nlo z5 = true) (kk : V l y cc nL ret Rm Qf X pc' (z0 :: z1 :: z2 :: z3 :: z4 :: z5 :: some (.long x) :: none :: t) (st) I L R n ce sl) : V l y cc nL ret Rm Qf X pc (z0 :: z1 :: z2 :: z3 :: z4 :: z5 :: b :: b' :: t) (.long x :: st) I L R n ce sl := v_lstore [z0, z1, z2, z3, z4, z5] t hd hp rfl hb (fun z hz => by simp at hz; rw [← hz]; exact hq) kk
theorem v_iinc6 {z0 z1 z2 z3 z4 z5 : Option Value} {t : List (Option Value)} {z : Int} {a v : Int32} (hd : decode cc pc = .ok (.iinc 6 z, 3)) (hp : pc + 3 = pc') (hb : 6 < nL) (hq : nlo z5 = true) (hv : a + Int32.ofInt z = v) (kk : V l y cc nL ret Rm Qf X pc' (z0 :: z1 :: z2 :: z3 :: z4 :: z5 :: some (.int v) :: t) (st) I L R n ce sl) : V l y cc nL ret Rm Qf X pc (z0 :: z1 :: z2 :: z3 :: z4 :: z5 :: some (.int a) :: t) (st) I L R n ce sl := v_iinc [z0, z1, z2, z3, z4, z5] t hd hp rfl hb (fun z hz => by simp at hz; rw [← hz]; exact hq) hv kk
theorem v_istore7 {z0 z1 z2 z3 z4 z5 z6 : Option Value} {t : List (Option Value)} {x : Int32} {b : Option Value} (hd : decode cc pc = .ok (.istore 7, 2)) (hp : pc + 2 = pc') (hb : 7 < nL) (hq : nlo z6 = true) (kk : V l y cc nL ret Rm Qf X pc' (z0 :: z1 :: z2 :: z3 :: z4 :: z5 :: z6 :: some (.int x) :: t) (st) I L R n ce sl) : V l y cc nL ret Rm Qf X pc (z0 :: z1 :: z2 :: z3 :: z4 :: z5 :: z6 :: b :: t) (.int x :: st) I L R n ce sl := v_istore [z0, z1, z2, z3, z4, z5, z6] t hd hp rfl hb (fun z hz => by simp at hz; rw [← hz]; exact hq) kk
theorem v_astore7 {z0 z1 z2 z3 z4 z5 z6 : Option Value} {t : List (Option Value)} {x : Nat} {b : Option Value} (hd : decode cc pc = .ok (.astore 7, 2)) (hp : pc + 2 = pc') (hb : 7 < nL) (hq : nlo z6 = true) (kk : V l y cc nL ret Rm Qf X pc' (z0 :: z1 :: z2 :: z3 :: z4 :: z5 :: z6 :: some (.ref x) :: t) (st) I L R n ce sl) : V l y cc nL ret Rm Qf X pc (z0 :: z1 :: z2 :: z3 :: z4 :: z5 :: z6 :: b :: t) (.ref x :: st) I L R n ce sl := v_astore [z0, z1, z2, z3, z4, z5, z6] t hd hp rfl hb (fun z hz => by simp at hz; rw [← hz]; exact hq) kk
theorem v_lstore7 {z0 z1 z2 z3 z4 z5 z6 : Option Value} {t : List (Option Value)} {x : Int64} {b b' : Option Value} (hd : decode cc pc = .ok (.lstore 7, 2)) (hp : pc + 2 = pc') (hb : 7 + 1 < nL) (hq : nlo z6 = true) (kk : V l y cc nL ret Rm Qf X pc' (z0 :: z1 :: z2 :: z3 :: z4 :: z5 :: z6 :: some (.long x) :: none :: t) (st) I L R n ce sl) : V l y cc nL ret Rm Qf X pc (z0 :: z1 :: z2 :: z3 :: z4 :: z5 :: z6 :: b :: b' :: t) (.long x :: st) I L R n ce sl := v_lstore [z0, z1, z2, z3, z4, z5, z6] t hd hp rfl hb (fun z hz => by simp at hz; rw [← hz]; exact hq) kk
theorem v_iinc7 {z0 z1 z2 z3 z4 z5 z6 : Option Value} {t : List (Option Value)} {z : Int} {a v : Int32} (hd : decode cc pc = .ok (.iinc 7 z, 3)) (hp : pc + 3 = pc') (hb : 7 < nL) (hq : nlo z6 = true) (hv : a + Int32.ofInt z = v) (kk : V l y cc nL ret Rm Qf X pc' (z0 :: z1 :: z2 :: z3 :: z4 :: z5 :: z6 :: some (.int v) :: t) (st) I L R n ce sl) : V l y cc nL ret Rm Qf X pc (z0 :: z1 :: z2 :: z3 :: z4 :: z5 :: z6 :: some (.int a) :: t) (st) I L R n ce sl := v_iinc [z0, z1, z2, z3, z4, z5, z6] t hd hp rfl hb (fun z hz => by simp at hz; rw [← hz]; exact hq) hv kk
theorem v_istore8 {z0 z1 z2 z3 z4 z5 z6 z7 : Option Value} {t : List (Option Value)} {x : Int32} {b : Option Value} (hd : decode cc pc = .ok (.istore 8, 2)) (hp : pc + 2 = pc') (hb : 8 < nL) (hq : nlo z7 = true) (kk : V l y cc nL ret Rm Qf X pc' (z0 :: z1 :: z2 :: z3 :: z4 :: z5 :: z6 :: z7 :: some (.int x) :: t) (st) I L R n ce sl) : V l y cc nL ret Rm Qf X pc (z0 :: z1 :: z2 :: z3 :: z4 :: z5 :: z6 :: z7 :: b :: t) (.int x :: st) I L R n ce sl := v_istore [z0, z1, z2, z3, z4, z5, z6, z7] t hd hp rfl hb (fun z hz => by simp at hz; rw [← hz]; exact hq) kk
theorem v_astore8 {z0 z1 z2 z3 z4 z5 z6 z7 : Option Value} {t : List (Option Value)} {x : Nat} {b : Option Value} (hd : decode cc pc = .ok (.astore 8, 2)) (hp : pc + 2 = pc') (hb : 8 < nL) (hq : nlo z7 = true) (kk : V l y cc nL ret Rm Qf X pc' (z0 :: z1 :: z2 :: z3 :: z4 :: z5 :: z6 :: z7 :: some (.ref x) :: t) (st) I L R n ce sl) : V l y cc nL ret Rm Qf X pc (z0 :: z1 :: z2 :: z3 :: z4 :: z5 :: z6 :: z7 :: b :: t) (.ref x :: st) I L R n ce sl := v_astore [z0, z1, z2, z3, z4, z5, z6, z7] t hd hp rfl hb (fun z hz => by simp at hz; rw [← hz]; exact hq) kk
theorem v_lstore8 {z0 z1 z2 z3 z4 z5 z6 z7 : Option Value} {t : List (Option Value)} {x : Int64} {b b' : Option Value} (hd : decode cc pc = .ok (.lstore 8, 2)) (hp : pc + 2 = pc') (hb : 8 + 1 < nL) (hq : nlo z7 = true) (kk : V l y cc nL ret Rm Qf X pc' (z0 :: z1 :: z2 :: z3 :: z4 :: z5 :: z6 :: z7 :: some (.long x) :: none :: t) (st) I L R n ce sl) : V l y cc nL ret Rm Qf X pc (z0 :: z1 :: z2 :: z3 :: z4 :: z5 :: z6 :: z7 :: b :: b' :: t) (.long x :: st) I L R n ce sl := v_lstore [z0, z1, z2, z3, z4, z5, z6, z7] t hd hp rfl hb (fun z hz => by simp at hz; rw [← hz]; exact hq) kk
theorem v_iinc8 {z0 z1 z2 z3 z4 z5 z6 z7 : Option Value} {t : List (Option Value)} {z : Int} {a v : Int32} (hd : decode cc pc = .ok (.iinc 8 z, 3)) (hp : pc + 3 = pc') (hb : 8 < nL) (hq : nlo z7 = true) (hv : a + Int32.ofInt z = v) (kk : V l y cc nL ret Rm Qf X pc' (z0 :: z1 :: z2 :: z3 :: z4 :: z5 :: z6 :: z7 :: some (.int v) :: t) (st) I L R n ce sl) : V l y cc nL ret Rm Qf X pc (z0 :: z1 :: z2 :: z3 :: z4 :: z5 :: z6 :: z7 :: some (.int a) :: t) (st) I L R n ce sl := v_iinc [z0, z1, z2, z3, z4, z5, z6, z7] t hd hp rfl hb (fun z hz => by simp at hz; rw [← hz]; exact hq) hv kk
theorem v_istore9 {z0 z1 z2 z3 z4 z5 z6 z7 z8 : Option Value} {t : List (Option Value)} {x : Int32} {b : Option Value} (hd : decode cc pc = .ok (.istore 9, 2)) (hp : pc + 2 = pc') (hb : 9 < nL) (hq : nlo z8 = true) (kk : V l y cc nL ret Rm Qf X pc' (z0 :: z1 :: z2 :: z3 :: z4 :: z5 :: z6 :: z7 :: z8 :: some (.int x) :: t) (st) I L R n ce sl) : V l y cc nL ret Rm Qf X pc (z0 :: z1 :: z2 :: z3 :: z4 :: z5 :: z6 :: z7 :: z8 :: b :: t) (.int x :: st) I L R n ce sl := v_istore [z0, z1, z2, z3, z4, z5, z6, z7, z8] t hd hp rfl hb (fun z hz => by simp at hz; rw [← hz]; exact hq) kk
theorem v_astore9 {z0 z1 z2 z3 z4 z5 z6 z7 z8 : Option Value} {t : List (Option Value)} {x : Nat} {b : Option Value} (hd : decode cc pc = .ok (.astore 9, 2)) (hp : pc + 2 = pc') (hb : 9 < nL) (hq : nlo z8 = true) (kk : V l y cc nL ret Rm Qf X pc' (z0 :: z1 :: z2 :: z3 :: z4 :: z5 :: z6 :: z7 :: z8 :: some (.ref x) :: t) (st) I L R n ce sl) : V l y cc nL ret Rm Qf X pc (z0 :: z1 :: z2 :: z3 :: z4 :: z5 :: z6 :: z7 :: z8 :: b :: t) (.ref x :: st) I L R n ce sl := v_astore [z0, z1, z2, z3, z4, z5, z6, z7, z8] t hd hp rfl hb (fun z hz => by simp at hz; rw [← hz]; exact hq) kk
theorem v_lstore9 {z0 z1 z2 z3 z4 z5 z6 z7 z8 : Option Value} {t : List (Option Value)} {x : Int64} {b b' : Option Value} (hd : decode cc pc = .ok (.lstore 9, 2)) (hp : pc + 2 = pc') (hb : 9 + 1 < nL) (hq : nlo z8 = true) (kk : V l y cc nL ret Rm Qf X pc' (z0 :: z1 :: z2 :: z3 :: z4 :: z5 :: z6 :: z7 :: z8 :: some (.long x) :: none :: t) (st) I L R n ce sl) : V l y cc nL ret Rm Qf X pc (z0 :: z1 :: z2 :: z3 :: z4 :: z5 :: z6 :: z7 :: z8 :: b :: b' :: t) (.long x :: st) I L R n ce sl := v_lstore [z0, z1, z2, z3, z4, z5, z6, z7, z8] t hd hp rfl hb (fun z hz => by simp at hz; rw [← hz]; exact hq) kk
theorem v_iinc9 {z0 z1 z2 z3 z4 z5 z6 z7 z8 : Option Value} {t : List (Option Value)} {z : Int} {a v : Int32} (hd : decode cc pc = .ok (.iinc 9 z, 3)) (hp : pc + 3 = pc') (hb : 9 < nL) (hq : nlo z8 = true) (hv : a + Int32.ofInt z = v) (kk : V l y cc nL ret Rm Qf X pc' (z0 :: z1 :: z2 :: z3 :: z4 :: z5 :: z6 :: z7 :: z8 :: some (.int v) :: t) (st) I L R n ce sl) : V l y cc nL ret Rm Qf X pc (z0 :: z1 :: z2 :: z3 :: z4 :: z5 :: z6 :: z7 :: z8 :: some (.int a) :: t) (st) I L R n ce sl := v_iinc [z0, z1, z2, z3, z4, z5, z6, z7, z8] t hd hp rfl hb (fun z hz => by simp at hz; rw [← hz]; exact hq) hv kk
theorem v_istore10 {z0 z1 z2 z3 z4 z5 z6 z7 z8 z9 : Option Value} {t : List (Option Value)} {x : Int32} {b : Option Value} (hd : decode cc pc = .ok (.istore 10, 2)) (hp : pc + 2 = pc') (hb : 10 < nL) (hq : nlo z9 = true) (kk : V l y cc nL ret Rm Qf X pc' (z0 :: z1 :: z2 :: z3 :: z4 :: z5 :: z6 :: z7 :: z8 :: z9 :: some (.int x) :: t) (st) I L R n ce sl) : V l y cc nL ret Rm Qf X pc (z0 :: z1 :: z2 :: z3 :: z4 :: z5 :: z6 :: z7 :: z8 :: z9 :: b :: t) (.int x :: st) I L R n ce sl := v_istore [z0, z1, z2, z3, z4, z5, z6, z7, z8, z9] t hd hp rfl hb (fun z hz => by simp at hz; rw [← hz]; exact hq) kk
theorem v_astore10 {z0 z1 z2 z3 z4 z5 z6 z7 z8 z9 : Option Value} {t : List (Option Value)} {x : Nat} {b : Option Value} (hd : decode cc pc = .ok (.astore 10, 2)) (hp : pc + 2 = pc') (hb : 10 < nL) (hq : nlo z9 = true) (kk : V l y cc nL ret Rm Qf X pc' (z0 :: z1 :: z2 :: z3 :: z4 :: z5 :: z6 :: z7 :: z8 :: z9 :: some (.ref x) :: t) (st) I L R n ce sl) : V l y cc nL ret Rm Qf X pc (z0 :: z1 :: z2 :: z3 :: z4 :: z5 :: z6 :: z7 :: z8 :: z9 :: b :: t) (.ref x :: st) I L R n ce sl := v_astore [z0, z1, z2, z3, z4, z5, z6, z7, z8, z9] t hd hp rfl hb (fun z hz => by simp at hz; rw [← hz]; exact hq) kk
theorem v_lstore10 {z0 z1 z2 z3 z4 z5 z6 z7 z8 z9 : Option Value} {t : List (Option Value)} {x : Int64} {b b' : Option Value} (hd : decode cc pc = .ok (.lstore 10, 2)) (hp : pc + 2 = pc') (hb : 10 + 1 < nL) (hq : nlo z9 = true) (kk : V l y cc nL ret Rm Qf X pc' (z0 :: z1 :: z2 :: z3 :: z4 :: z5 :: z6 :: z7 :: z8 :: z9 :: some (.long x) :: none :: t) (st) I L R n ce sl) : V l y cc nL ret Rm Qf X pc (z0 :: z1 :: z2 :: z3 :: z4 :: z5 :: z6 :: z7 :: z8 :: z9 :: b :: b' :: t) (.long x :: st) I L R n ce sl := v_lstore [z0, z1, z2, z3, z4, z5, z6, z7, z8, z9] t hd hp rfl hb (fun z hz => by simp at hz; rw [← hz]; exact hq) kk
theorem v_iinc10 {z0 z1 z2 z3 z4 z5 z6 z7 z8 z9 : Option Value} {t : List (Option Value)} {z : Int} {a v : Int32} (hd : decode cc pc = .ok (.iinc 10 z, 3)) (hp : pc + 3 = pc') (hb : 10 < nL) (hq : nlo z9 = true) (hv : a + Int32.ofInt z = v) (kk : V l y cc nL ret Rm Qf X pc' (z0 :: z1 :: z2 :: z3 :: z4 :: z5 :: z6 :: z7 :: z8 :: z9 :: some (.int v) :: t) (st) I L R n ce sl) : V l y cc nL ret Rm Qf X pc (z0 :: z1 :: z2 :: z3 :: z4 :: z5 :: z6 :: z7 :: z8 :: z9 :: some (.int a) :: t) (st) I L R n ce sl := v_iinc [z0, z1, z2, z3, z4, z5, z6, z7, z8, z9] t hd hp rfl hb (fun z hz => by simp at hz; rw [← hz]; exact hq) hv kk
theorem v_istore11 {z0 z1 z2 z3 z4 z5 z6 z7 z8 z9 z10 : Option Value} {t : List (Option Value)} {x : Int32} {b : Option Value} (hd : decode cc pc = .ok (.istore 11, 2)) (hp : pc + 2 = pc') (hb : 11 < nL) (hq : nlo z10 = true) (kk : V l y cc nL ret Rm Qf X pc' (z0 :: z1 :: z2 :: z3 :: z4 :: z5 :: z6 :: z7 :: z8 :: z9 :: z10 :: some (.int x) :: t) (st) I L R n ce sl) : V l y cc nL ret Rm Qf X pc (z0 :: z1 :: z2 :: z3 :: z4 :: z5 :: z6 :: z7 :: z8 :: z9 :: z10 :: b :: t) (.int x :: st) I L R n ce sl := v_istore [z0, z1, z2, z3, z4, z5, z6, z7, z8, z9, z10] t hd hp rfl hb (fun z hz => by simp at hz; rw [← hz]; exact hq) kk
theorem v_astore11 {z0 z1 z2 z3 z4 z5 z6 z7 z8 z9 z10 : Option Value} {t : List (Option Value)} {x : Nat} {b : Option Value} (hd : decode cc pc = .ok (.astore 11, 2)) (hp : pc + 2 = pc') (hb : 11 < nL) (hq : nlo z10 = true) (kk : V l y cc nL ret Rm Qf X pc' (z0 :: z1 :: z2 :: z3 :: z4 :: z5 :: z6 :: z7 :: z8 :: z9 :: z10 :: some (.ref x) :: t) (st) I L R n ce sl) : V l y cc nL ret Rm Qf X pc (z0 :: z1 :: z2 :: z3 :: z4 :: z5 :: z6 :: z7 :: z8 :: z9 :: z10 :: b :: t) (.ref x :: st) I L R n ce sl := v_astore [z0, z1, z2, z3, z4, z5, z6, z7, z8, z9, z10] t hd hp rfl hb (fun z hz => by simp at hz; rw [← hz]; exact hq) kk
theorem v_lstore11 {z0 z1 z2 z3 z4 z5 z6 z7 z8 z9 z10 : Option Value} {t : List (Option Value)} {x : Int64} {b b' : Option Value} (hd : decode cc pc = .ok (.lstore 11, 2)) (hp : pc + 2 = pc') (hb : 11 + 1 < nL) (hq : nlo z10 = true) (kk : V l y cc nL ret Rm Qf X pc' (z0 :: z1 :: z2 :: z3 :: z4 :: z5 :: z6 :: z7 :: z8 :: z9 :: z10 :: some (.long x) :: none :: t) (st) I L R n ce sl) : V l y cc nL ret Rm Qf X pc (z0 :: z1 :: z2 :: z3 :: z4 :: z5 :: z6 :: z7 :: z8 :: z9 :: z10 :: b :: b' :: t) (.long x :: st) I L R n ce sl := v_lstore [z0, z1, z2, z3, z4, z5, z6, z7, z8, z9, z10] t hd hp rfl hb (fun z hz => by simp at hz; rw [← hz]; exact hq) kk
theorem v_iinc11 {z0 z1 z2 z3 z4 z5 z6 z7 z8 z9 z10 : Option Value} {t : List (Option Value)} {z : Int} {a v : Int32} (hd : decode cc pc = .ok (.iinc 11 z, 3)) (hp : pc + 3 = pc') (hb : 11 < nL) (hq : nlo z10 = true) (hv : a + Int32.ofInt z = v) (kk : V l y cc nL ret Rm Qf X pc' (z0 :: z1 :: z2 :: z3 :: z4 :: z5 :: z6 :: z7 :: z8 :: z9 :: z10 :: some (.int v) :: t) (st) I L R n ce sl) : V l y cc nL ret Rm Qf X pc (z0 :: z1 :: z2 :: z3 :: z4 :: z5 :: z6 :: z7 :: z8 :: z9 :: z10 :: some (.int a) :: t) (st) I L R n ce sl := v_iinc [z0, z1, z2, z3, z4, z5, z6, z7, z8, z9, z10] t hd hp rfl hb (fun z hz => by simp at hz; rw [← hz]; exact hq) hv kk
theorem v_istore12 {z0 z1 z2 z3 z4 z5 z6 z7 z8 z9 z10 z11 : Option Value} {t : List (Option Value)} {x : Int32} {b : Option Value} (hd : decode cc pc = .ok (.istore 12, 2)) (hp : pc + 2 = pc') (hb : 12 < nL) (hq : nlo z11 = true) (kk : V l y cc nL ret Rm Qf X pc' (z0 :: z1 :: z2 :: z3 :: z4 :: z5 :: z6 :: z7 :: z8 :: z9 :: z10 :: z11 :: some (.int x) :: t) (st) I L R n ce sl) : V l y cc nL ret Rm Qf X pc (z0 :: z1 :: z2 :: z3 :: z4 :: z5 :: z6 :: z7 :: z8 :: z9 :: z10 :: z11 :: b :: t) (.int x :: st) I L R n ce sl := v_istore [z0, z1, z2, z3, z4, z5, z6, z7, z8, z9, z10, z11] t hd hp rfl hb (fun z hz => by simp at hz; rw [← hz]; exact hq) kk
theorem v_astore12 {z0 z1 z2 z3 z4 z5 z6 z7 z8 z9 z10 z11 : Option Value} {t : List (Option Value)} {x : Nat} {b : Option Value} (hd : decode cc pc = .ok (.astore 12, 2)) (hp : pc + 2 = pc') (hb : 12 < nL) (hq : nlo z11 = true) (kk : V l y cc nL ret Rm Qf X pc' (z0 :: z1 :: z2 :: z3 :: z4 :: z5 :: z6 :: z7 :: z8 :: z9 :: z10 :: z11 :: some (.ref x) :: t) (st) I L R n ce sl) : V l y cc nL ret Rm Qf X pc (z0 :: z1 :: z2 :: z3 :: z4 :: z5 :: z6 :: z7 :: z8 :: z9 :: z10 :: z11 :: b :: t) (.ref x :: st) I L R n ce sl := v_astore [z0, z1, z2, z3, z4, z5, z6, z7, z8, z9, z10, z11] t hd hp rfl hb (fun z hz => by simp at hz; rw [← hz]; exact hq) kk
theorem v_lstore12 {z0 z1 z2 z3 z4 z5 z6 z7 z8 z9 z10 z11 : Option Value} {t : List (Option Value)} {x : Int64} {b b' : Option Value} (hd : decode cc pc = .ok (.lstore 12, 2)) (hp : pc + 2 = pc') (hb : 12 + 1 < nL) (hq : nlo z11 = true) (kk : V l y cc nL ret Rm Qf X pc' (z0 :: z1 :: z2 :: z3 :: z4 :: z5 :: z6 :: z7 :: z8 :: z9 :: z10 :: z11 :: some (.long x) :: none :: t) (st) I L R n ce sl) : V l y cc nL ret Rm Qf X pc (z0 :: z1 :: z2 :: z3 :: z4 :: z5 :: z6 :: z7 :: z8 :: z9 :: z10 :: z11 :: b :: b' :: t) (.long x :: st) I L R n ce sl := v_lstore [z0, z1, z2, z3, z4, z5, z6, z7, z8, z9, z10, z11] t hd hp rfl hb (fun z hz => by simp at hz; rw [← hz]; exact hq) kk
theorem v_iinc12 {z0 z1 z2 z3 z4 z5 z6 z7 z8 z9 z10 z11 : Option Value} {t : List (Option Value)} {z : Int} {a v : Int32} (hd : decode cc pc = .ok (.iinc 12 z, 3)) (hp : pc + 3 = pc') (hb : 12 < nL) (hq : nlo z11 = true) (hv : a + Int32.ofInt z = v) (kk : V l y cc nL ret Rm Qf X pc' (z0 :: z1 :: z2 :: z3 :: z4 :: z5 :: z6 :: z7 :: z8 :: z9 :: z10 :: z11 :: some (.int v) :: t) (st) I L R n ce sl) : V l y cc nL ret Rm Qf X pc (z0 :: z1 :: z2 :: z3 :: z4 :: z5 :: z6 :: z7 :: z8 :: z9 :: z10 :: z11 :: some (.int a) :: t) (st) I L R n ce sl := v_iinc [z0, z1, z2, z3, z4, z5, z6, z7, z8, z9, z10, z11] t hd hp rfl hb (fun z hz => by simp at hz; rw [← hz]; exact hq) hv kk
theorem v_istore13 {z0 z1 z2 z3 z4 z5 z6 z7 z8 z9 z10 z11 z12 : Option Value} {t : List (Option Value)} {x : Int32} {b : Option Value} (hd : decode cc pc = .ok (.istore 13, 2)) (hp : pc + 2 = pc') (hb : 13 < nL) (hq : nlo z12 = true) (kk : V l y cc nL ret Rm Qf X pc' (z0 :: z1 :: z2 :: z3 :: z4 :: z5 :: z6 :: z7 :: z8 :: z9 :: z10 :: z11 :: z12 :: some (.int x) :: t) (st) I L R n ce sl) : V l y cc nL ret Rm Qf X pc (z0 :: z1 :: z2 :: z3 :: z4 :: z5 :: z6 :: z7 :: z8 :: z9 :: z10 :: z11 :: z12 :: b :: t) (.int x :: st) I L R n ce sl := v_istore [z0, z1, z2, z3, z4, z5, z6, z7, z8, z9, z10, z11, z12] t hd hp rfl hb (fun z hz => by simp at hz; rw [← hz]; exact hq) kk
theorem v_astore13 {z0 z1 z2 z3 z4 z5 z6 z7 z8 z9 z10 z11 z12 : Option Value} {t : List (Option Value)} {x : Nat} {b : Option Value} (hd : decode cc pc = .ok (.astore 13, 2)) (hp : pc + 2 = pc') (hb : 13 < nL) (hq : nlo z12 = true) (kk : V l y cc nL ret Rm Qf X pc' (z0 :: z1 :: z2 :: z3 :: z4 :: z5 :: z6 :: z7 :: z8 :: z9 :: z10 :: z11 :: z12 :: some (.ref x) :: t) (st) I L R n ce sl) : V l y cc nL ret Rm Qf X pc (z0 :: z1 :: z2 :: z3 :: z4 :: z5 :: z6 :: z7 :: z8 :: z9 :: z10 :: z11 :: z12 :: b :: t) (.ref x :: st) I L R n ce sl := v_astore [z0, z1, z2, z3, z4, z5, z6, z7, z8, z9, z10, z11, z12] t hd hp rfl hb (fun z hz => by simp at hz; rw [← hz]; exact hq) kk
theorem v_lstore13 {z0 z1 z2 z3 z4 z5 z6 z7 z8 z9 z10 z11 z12 : Option Value} {t : List (Option Value)} {x : Int64} {b b' : Option Value} (hd : decode cc pc = .ok (.lstore 13, 2)) (hp : pc + 2 = pc') (hb : 13 + 1 < nL) (hq : nlo z12 = true) (kk : V l y cc nL ret Rm Qf X pc' (z0 :: z1 :: z2 :: z3 :: z4 :: z5 :: z6 :: z7 :: z8 :: z9 :: z10 :: z11 :: z12 :: some (.long x) :: none :: t) (st) I L R n ce sl) : V l y cc nL ret Rm Qf X pc (z0 :: z1 :: z2 :: z3 :: z4 :: z5 :: z6 :: z7 :: z8 :: z9 :: z10 :: z11 :: z12 :: b :: b' :: t) (.long x :: st) I L R n ce sl := v_lstore [z0, z1, z2, z3, z4, z5, z6, z7, z8, z9, z10, z11, z12] t hd hp rfl hb (fun z hz => by simp at hz; rw [← hz]; exact hq) kk
theorem v_iinc13 {z0 z1 z2 z3 z4 z5 z6 z7 z8 z9 z10 z11 z12 : Option Value} {t : List (Option Value)} {z : Int} {a v : Int32} (hd : decode cc pc = .ok (.iinc 13 z, 3)) (hp : pc + 3 = pc') (hb : 13 < nL) (hq : nlo z12 = true) (hv : a + Int32.ofInt z = v) (kk : V l y cc nL ret Rm Qf X pc' (z0 :: z1 :: z2 :: z3 :: z4 :: z5 :: z6 :: z7 :: z8 :: z9 :: z10 :: z11 :: z12 :: some (.int v) :: t) (st) I L R n ce sl) : V l y cc nL ret Rm Qf X pc (z0 :: z1 :: z2 :: z3 :: z4 :: z5 :: z6 :: z7 :: z8 :: z9 :: z10 :: z11 :: z12 :: some (.int a) :: t) (st) I L R n ce sl := v_iinc [z0, z1, z2, z3, z4, z5, z6, z7, z8, z9, z10, z11, z12] t hd hp rfl hb (fun z hz => by simp at hz; rw [← hz]; exact hq) hv kk
end ROWS
