/-! ===== the law's walk: the script, the ends ===== -/
/-- the script of Ls ints xs at the cell b, all cells of the world are new -/
def XS (b Ls : Nat) (xs : Nat → Int32) (s : State) (adl0 : List Nat) : Prop := adl0 = [] ∧ va_X b Ls xs s s.heap ∧ b < s.heap.size
abbrev QL : QF := fun below args s _ _ _ => lw_Z below args s
abbrev VL (l : Launch) (nm : String) (b Ls : Nat) (xs : Nat → Int32) (pc : Nat) (lv : List (Option Value)) (st : List Value) (I : MI) (L : ML) (R : MR) (n ce sl : Nat) : Prop := V l ⟨RL, nm, "([I)Z"⟩ cL_law 4 (some .boolean) room_1 QL (XS b Ls xs) pc lv st I L R n ce sl
abbrev LV (b i : Nat) : List (Option Value) := [some (.ref (1000000 + b)), some (.ref 0), some (.ref 278), some (.int (nI i))]
theorem XS_A {b Ls : Nat} {xs : Nat → Int32} {s : State} {adl0 : List Nat} (h : XS b Ls xs s adl0) : ¬ A0 adl0 s.heap.size b := by
  obtain ⟨rfl, _, h3⟩ := h
  rintro (q | q)
  · exact absurd q List.not_mem_nil
  · omega
section LAW
variable {l : Launch} {nm : String} {b Ls i j pc pc' tgt : Nat} {xs : Nat → Int32} {lv : List (Option Value)} {st : List Value} {I : MI} {L : ML} {R : MR} {n ce sl : Nat}
theorem v_sld {k : Nat} {a : Int32} (hd : decode cL_law pc = .ok (.iaload, 1)) (hp : pc + 1 = pc') (ha : a = nI k) (hk : k < Ls) (hk2 : Ls < 2 ^ 31) (kk : VL l nm b Ls xs pc' lv (.int (xs k) :: st) I L R n ce sl) : VL l nm b Ls xs pc lv (.int a :: .ref (1000000 + b) :: st) I L R n ce sl := by
  subst hp
  subst ha
  intro p e s m args below meth c D cy adl0 adl H locs ls F X0 h1 h2 hP hD hS hl
  have := kk p e s m args below meth c D cy adl0 adl H locs ls F X0 h1 h2 hP hD hS hl
  have e1 : (Value.int (nI k) :: .ref (1000000 + b) :: st).map (mv adl) = .int (nI k) :: .ref b :: st.map (mv adl) := by
    show .int (nI k) :: .ref (mva adl (1000000 + b)) :: st.map (mv adl) = _
    rw [mva_raw]
  rw [e1]
  refine va_sld F.1 F.2.1 X0.2.1 X0.2.2 (XS_A X0) hS (vp_in_nI hk hk2) hd ?_
  rw [nI_clamp (by omega)]
  exact this
theorem v_slen (hd : decode cL_law pc = .ok (.arraylength, 1)) (hp : pc + 1 = pc') (kk : VL l nm b Ls xs pc' lv (.int (nI Ls) :: st) I L R n ce sl) : VL l nm b Ls xs pc lv (.ref (1000000 + b) :: st) I L R n ce sl := by
  subst hp
  intro p e s m args below meth c D cy adl0 adl H locs ls F X0 h1 h2 hP hD hS hl
  have := kk p e s m args below meth c D cy adl0 adl H locs ls F X0 h1 h2 hP hD hS hl
  have e1 : (Value.ref (1000000 + b) :: st).map (mv adl) = .ref b :: st.map (mv adl) := by
    show .ref (mva adl (1000000 + b)) :: st.map (mv adl) = _
    rw [mva_raw]
  rw [e1]
  exact va_slen F.1 F.2.1 X0.2.1 X0.2.2 (XS_A X0) hS hd this
theorem v_scr {k : Int} (d0 : decode cL_law pc = .ok (.aload_n 0, 1)) (d1 : decode cL_law (pc + 1) = .ok (.iload_n 3, 1)) (d2 : decode cL_law (pc + 2) = .ok (.iconst k, 1)) (d3 : decode cL_law (pc + 3) = .ok (.iadd, 1)) (d4 : decode cL_law (pc + 4) = .ok (.iaload, 1)) (hp : pc + 5 = pc') (hj : Int32.ofInt k = nI j) (h1 : i + j < Ls) (h2 : Ls < 2 ^ 31)
    (kk : VL l nm b Ls xs pc' (LV b i) (.int (xs (i + j)) :: st) I L R n ce sl) : VL l nm b Ls xs pc (LV b i) st I L R n ce sl := by
  refine v_aload_n (pc' := pc + 1) d0 rfl rfl ?_
  refine v_iload_n (pc' := pc + 2) d1 rfl rfl ?_
  refine v_iconst (v := nI j) (pc' := pc + 3) d2 rfl hj ?_
  refine v_iadd (pc' := pc + 4) d3 rfl ?_
  exact v_sld (pc' := pc') d4 hp (nI_add _ _) h1 h2 kk
def bz (a : Int32) : Int32 := if a = 0 then nI 0 else nI 1
theorem bz_or (a : Int32) : bz a = nI 0 ∨ bz a = nI 1 := by
  unfold bz
  split
  · exact Or.inl rfl
  · exact Or.inr rfl
theorem v_bz {a : Int32} (d0 : decode cL_law pc = .ok (.ifCond .eq 7, 3)) (d1 : decode cL_law (pc + 3) = .ok (.iconst 1, 1)) (d2 : decode cL_law (pc + 4) = .ok (.goto 4, 3)) (d3 : decode cL_law (pc + 7) = .ok (.iconst 0, 1)) (hp : pc + 8 = pc')
    (kk : VL l nm b Ls xs pc' lv (.int (bz a) :: st) I L R n ce sl) : VL l nm b Ls xs pc lv (.int a :: st) I L R n ce sl := by
  subst hp
  refine v_if_eq (pc' := pc + 3) (tgt := pc + 7) d0 rfl (by omega) (fun hb => ?_) (fun hb => ?_)
  · refine v_iconst (v := nI 0) (pc' := pc + 8) d3 rfl (by decide) ?_
    rw [show bz a = nI 0 from if_pos hb] at kk
    exact kk
  · refine v_iconst (v := nI 1) (pc' := pc + 4) d1 rfl (by decide) ?_
    refine v_goto (tgt := pc + 8) d2 (by omega) ?_
    rw [show bz a = nI 1 from if_neg hb] at kk
    exact kk
theorem lcmp_same (a : Int64) : lg_cmp a a = 0 := by simp [lg_cmp]
/-- the law's end -/
theorem l_ret {p : Program} {e : Env} {s : State} {m : MethodId} {args : Array Value} {below : List Frame} {meth : Method} {c : Code} (hx : p.tables.exec = Jvm.exec) (hb : c.code = code) (hr : meth.sig.returnType = ret) (hlocks : meth.locks = false) {H : Heap} {ls : Array Slot} (hdg : decode code pc = .ok (.ireturn, 1)) : W p l e room_1 s m args below meth c H [] 600000 7302250 (lw_Z below args s) (F0 m pc ls [.int 1]) := by
  intro T hT X
  obtain ⟨fs, hret, hrun, hended, hW, hframe⟩ := X.leave (v := some (.int 1)) (hlocks := hlocks) (fun h => by rw [hr] at h; cases h)
  have hmeth' : T.vm.method? m = some meth := X.method'
  refine ⟨T.setFrames fs, ?_, .returned (some (.int 1)), hrun, hended, rfl, ⟨_, rfl⟩, hW, hframe⟩
  jvm_step X.here [X.here.top, hx, hb, hdg, hmeth', hr, ret, narrow_b1]
  (try refine ⟨rfl, ?_⟩); (try refine ⟨rfl, ?_⟩)
  first | (intro acts; rw [hret _ acts rfl rfl rfl]) | rw [hret _ _ rfl rfl rfl]
  exact Steps.refl _
theorem v_end (hd : decode cL_law pc = .ok (.ireturn, 1)) (hc : ce ≤ 600000) (hs : sl ≤ 7302250) : VL l nm b Ls xs pc lv [.int (nI 1)] I L R n ce sl := by
  intro p e s m args below meth c D cy adl0 adl H locs ls F X0 h1 h2 hP hD hS hl
  refine W.widen hc hs ?_
  refine va_forget (fun q hq => ?_) (l_ret F.1 F.2.1 F.2.2.2.2.2.1 F.2.2.2.2.2.2.1 hd)
  have := hS.2.2 q hq
  obtain ⟨rfl, _, _⟩ := X0
  rcases this with z | z
  · exact absurd z List.not_mem_nil
  · exact z
end LAW
