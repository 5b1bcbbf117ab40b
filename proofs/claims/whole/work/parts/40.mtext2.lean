/-! ===== the model's memory while it reads ===== -/
def MX (cd : Nat → Nat) (n : Nat) (k0 : Int32 × MI) (I : MI) (p : Nat) (ws : List Nat) (sv : Nat) : Prop :=
  I 21 0 = k0.1 ∧ I 21 4 = nI n ∧ (∀ i, i < n → I 27 i = nI (cd i)) ∧ MF I ∧ I 21 5 = nI p ∧ I 21 6 = nI sv ∧ I 21 1 = nI ws.length ∧ ws.length ≤ 5 ∧ (∀ i, i < ws.length → I 25 i = nI (ws.getD i 0)) ∧ (∀ u, u ≠ 21 → u ≠ 25 → I u = k0.2 u)
theorem MF_st {I : MI} {g j : Nat} {v : Int32} (h : MF I) (h1 : g ≠ 22) (h2 : g ≠ 23) : MF (stI I g j v) := fun f hf => by
  rw [stI_r (Ne.symm h1), stI_r (Ne.symm h2)]
  exact h f hf
theorem MX_at {cd : Nat → Nat} {n p q sv : Nat} {k0 : Int32 × MI} {I : MI} {ws : List Nat} (h : MX cd n k0 I p ws sv) : MX cd n k0 (stI I 21 5 (nI q)) q ws sv := by
  obtain ⟨a0, a1, a2, a3, a4, a5, a6, a7, a8, a9⟩ := h
  refine ⟨?_, ?_, fun i hi => ?_, MF_st a3 (by decide) (by decide), stI_self _ _ _ _, ?_, ?_, a7, fun i hi => ?_, fun u h1 h2 => by rw [stI_r h1]; exact a9 u h1 h2⟩
  · rw [stI_ne (by decide)]; exact a0
  · rw [stI_ne (by decide)]; exact a1
  · rw [stI_ne (by omega)]; exact a2 i hi
  · rw [stI_ne (by decide)]; exact a5
  · rw [stI_ne (by decide)]; exact a6
  · rw [stI_ne (by omega)]; exact a8 i hi
theorem MX_sv {cd : Nat → Nat} {n p sv sv' : Nat} {k0 : Int32 × MI} {I : MI} {ws : List Nat} (h : MX cd n k0 I p ws sv) : MX cd n k0 (stI I 21 6 (nI sv')) p ws sv' := by
  obtain ⟨a0, a1, a2, a3, a4, a5, a6, a7, a8, a9⟩ := h
  refine ⟨?_, ?_, fun i hi => ?_, MF_st a3 (by decide) (by decide), ?_, stI_self _ _ _ _, ?_, a7, fun i hi => ?_, fun u h1 h2 => by rw [stI_r h1]; exact a9 u h1 h2⟩
  · rw [stI_ne (by decide)]; exact a0
  · rw [stI_ne (by decide)]; exact a1
  · rw [stI_ne (by omega)]; exact a2 i hi
  · rw [stI_ne (by decide)]; exact a4
  · rw [stI_ne (by decide)]; exact a6
  · rw [stI_ne (by omega)]; exact a8 i hi
theorem MX_gw {cd : Nat → Nat} {n p sv fh : Nat} {k0 : Int32 × MI} {I : MI} {ws ws' : List Nat} (h : MX cd n k0 I p ws sv) (hl : ws'.length ≤ 5) : MX cd n k0 (gw I ws' fh) p ws' sv := by
  obtain ⟨a0, a1, a2, a3, a4, a5, a6, a7, a8, a9⟩ := h
  have e : ∀ j, j ≠ 1 → j ≠ 2 → j ≠ 3 → gw I ws' fh 21 j = I 21 j := fun j h1 h2 h3 => by
    rw [gw_21]
    unfold gN
    rw [va_up_ne _ _ h3, va_up_ne _ _ h2, va_up_ne _ _ h1]
  refine ⟨?_, ?_, fun i hi => ?_, MF_gw a3, ?_, ?_, ?_, hl, fun i hi => ?_, fun u h1 h2 => by rw [gw_o h1 h2]; exact a9 u h1 h2⟩
  · rw [e 0 (by decide) (by decide) (by decide)]; exact a0
  · rw [e 4 (by decide) (by decide) (by decide)]; exact a1
  · rw [gw_o (by decide) (by decide)]; exact a2 i hi
  · rw [e 5 (by decide) (by decide) (by decide)]; exact a4
  · rw [e 6 (by decide) (by decide) (by decide)]; exact a5
  · rw [gw_21]; rfl
  · rw [gw_25]
    exact if_pos hi
/-- the requests of a text, one after another: the row, the way, how many were served -/
abbrev QS : Type := Row × List Nat × Nat
def rq1 (m : Msk) (q : Nat × Nat) (s : QS) : QS := (rReq q.1 q.2 (gQ s.1) s.1 m, (skW s.1 m q.1 q.2 (gQ s.1)).1, if (skW s.1 m q.1 q.2 (gQ s.1)).2.1 = 5 then s.2.2 else s.2.2 + 1)
def rqF (m : Msk) (l : List (Nat × Nat)) (s : QS) : QS := l.foldl (fun s q => rq1 m q s) s
theorem rqF_push {m : Msk} {l : List (Nat × Nat)} {q : Nat × Nat} {s : QS} : rqF m (l ++ [q]) s = rq1 m q (rqF m l s) := by
  unfold rqF
  rw [List.foldl_append]
  rfl
theorem rqF_Inv {m : Msk} : ∀ {l : List (Nat × Nat)} {s : QS}, Inv s.1 → (∀ q ∈ l, q.1 < 5 ∧ q.2 < 1000) → Inv (rqF m l s).1
  | [], _, h, _ => h
  | q :: l, s, h, hq => by
    have h1 := hq q (List.mem_cons_self ..)
    exact rqF_Inv (m := m) (l := l) (s := rq1 m q s) (rReq_Inv h h1.1 h1.2) (fun z hz => hq z (List.mem_cons_of_mem _ hz))
def exq (real : Bool) (m : Msk) (l : List (Nat × Nat)) (s : QS) : QS := if real = true then rqF m l s else s
theorem stI_stI {I : MI} {g j : Nat} {a b : Int32} : stI (stI I g j a) g j b = stI I g j b := by
  unfold stI
  rw [va_up_self, bx_uu, bx_uu]
theorem code_tab : ((List.range 256).all fun t => decide (noC (nI t - nI 48)) == !(decide (48 ≤ t) && decide (t ≤ 52))) = true := by decide +kernel
theorem code_noC {t : Nat} (ht : t < 256) : noC (nI t - nI 48) ↔ ¬ (48 ≤ t ∧ t ≤ 52) := by
  have h := List.all_eq_true.mp code_tab t (List.mem_range.mpr ht)
  rw [beq_iff_eq] at h
  constructor
  · intro q z
    rw [decide_eq_true q, decide_eq_true z.1, decide_eq_true z.2] at h
    exact absurd h (by decide)
  · intro z
    refine of_decide_eq_true ?_
    rw [h]
    by_cases a : 48 ≤ t
    · rw [decide_eq_true a, decide_eq_false (fun q => z ⟨a, q⟩)]
      rfl
    · rw [decide_eq_false a]
      rfl
section B40
variable {l : Launch} {I : MI} {L : ML} {R : MR} {r X : Row} {m Y : Msk} {cd : Nat → Nat} {n : Nat} {k0 : Int32 × MI}
theorem m_here {p k sv : Nat} {ws : List Nat} (hR : RS R) (hn : n ≤ 100) (hcd : ∀ i, i < n → cd i < 256) (hp : p + k = n) (hX : MX cd n k0 I p ws sv) : Ok l yX8_here cX8_here 1 (some .int) 0 0 0 [.ref 278] (mm I r X) L R 287 (eqP (some (.int (if ns cd k p < k then nI (cd (p + ns cd k p)) else -1))) (mm (stI I 21 5 (nI (p + ns cd k p))) r X) L R 287) := by
  refine Ok.ofV [some (.ref 278)] rfl (by decide) (Nat.le_of_ble_eq_true rfl) ?_
  have loop : ∀ (k p : Nat) (J : MI), p + k = n → MX cd n k0 J p ws sv → V l yX8_here cX8_here 1 (some .int) (rmd 0 0 0) (QM 0 0 (eqP (some (.int (if ns cd k p < k then nI (cd (p + ns cd k p)) else -1))) (mm (stI J 21 5 (nI (p + ns cd k p))) r X) L R 287)) (fun _ _ => True) 0 [some (.ref 278)] [] (mm J r X) L R 287 0 0 := by
    intro k
    induction k with
    | zero =>
      intro p J hp hX
      obtain ⟨a0, a1, a2, a3, a4, a5⟩ := id hX
      have e4 : mm J r X 21 4 = nI n := by rw [mm_o (by decide)]; exact a1
      have e5 : mm J r X 21 5 = nI p := by rw [mm_o (by decide)]; exact a4
      refine v_aload_n (pc' := 1) dX8_here_0 rfl rfl ?_
      refine v_gI (o := 5) (pc' := 4) dX8_here_1 rfl gf_X8_151 kp_M rfl rfl ?_
      refine v_aload_n (pc' := 5) dX8_here_4 rfl rfl ?_
      refine v_gI (o := 4) (pc' := 8) dX8_here_5 rfl gf_X8_148 kp_M rfl rfl ?_
      refine v_icmp_ge (pc' := 11) (tgt := 38) dX8_here_8 rfl (by decide) (fun hb => ?_) (fun hb => ?_)
      · refine v_aload_n (pc' := 39) dX8_here_38 rfl rfl ?_
        refine v_gI (o := 5) (pc' := 42) dX8_here_39 rfl gf_X8_151 kp_M rfl rfl ?_
        refine v_aload_n (pc' := 43) dX8_here_42 rfl rfl ?_
        refine v_gI (o := 4) (pc' := 46) dX8_here_43 rfl gf_X8_148 kp_M rfl rfl ?_
        refine v_icmp_ge (pc' := 49) (tgt := 61) dX8_here_46 rfl (by decide) (fun hq => ?_) (fun hq => ?_)
        · refine v_iconst (v := -1) (pc' := 62) dX8_here_61 rfl (by decide) ?_
          exact v_iret dX8_here_62 rfl (Nat.le_refl _) (Nat.le_refl _) ⟨rfl, by rw [show p + ns cd 0 p = p from rfl, ← a4, show stI J 21 5 (J 21 5) = J by unfold stI; rw [up_same, up_same]], rfl, rfl, rfl⟩
        · rw [e4, e5] at hq
          exact absurd (nI_le (by omega) (by omega)) hq
      · rw [e4, e5] at hb
        exact absurd (nI_le (by omega) (by omega)) hb
    | succ k ih =>
      intro p J hp hX
      obtain ⟨a0, a1, a2, a3, a4, a5⟩ := id hX
      have e4 : mm J r X 21 4 = nI n := by rw [mm_o (by decide)]; exact a1
      have e5 : mm J r X 21 5 = nI p := by rw [mm_o (by decide)]; exact a4
      have e27 : mm J r X 27 p = nI (cd p) := by rw [mm_o (by decide)]; exact a2 p (by omega)
      have hc := hcd p (by omega)
      refine v_aload_n (pc' := 1) dX8_here_0 rfl rfl ?_
      refine v_gI (o := 5) (pc' := 4) dX8_here_1 rfl gf_X8_151 kp_M rfl rfl ?_
      refine v_aload_n (pc' := 5) dX8_here_4 rfl rfl ?_
      refine v_gI (o := 4) (pc' := 8) dX8_here_5 rfl gf_X8_148 kp_M rfl rfl ?_
      refine v_icmp_ge (pc' := 11) (tgt := 38) dX8_here_8 rfl (by decide) (fun hb => ?_) (fun hb => ?_)
      · rw [e4, e5] at hb
        exact absurd hb (nI_ge (by omega) (by omega))
      · refine v_aload_n (pc' := 12) dX8_here_11 rfl rfl ?_
        refine v_getQ (pc' := 15) dX8_here_12 rfl gf_X8_32 kp_M rfl (rf_M_text hR) ?_
        refine v_aload_n (pc' := 16) dX8_here_15 rfl rfl ?_
        refine v_gI (o := 5) (pc' := 19) dX8_here_16 rfl gf_X8_151 kp_M rfl rfl ?_
        refine v_ial (pc' := 20) dX8_here_19 rfl kp_mtext (Nat.zero_add _) e5 (by omega) ?_
        refine v_bipush (v := nI 32) (pc' := 22) dX8_here_20 rfl (by decide) ?_
        refine v_icmp_ne (pc' := 25) (tgt := 38) dX8_here_22 rfl (by decide) (fun hq => ?_) (fun hq => ?_)
        · rw [e27] at hq
          have hq : ¬ cd p = 32 := fun z => hq (by rw [z])
          have e : ns cd (k + 1) p = 0 := if_neg hq
          rw [e, if_pos (by omega), Nat.add_zero]
          refine v_aload_n (pc' := 39) dX8_here_38 rfl rfl ?_
          refine v_gI (o := 5) (pc' := 42) dX8_here_39 rfl gf_X8_151 kp_M rfl rfl ?_
          refine v_aload_n (pc' := 43) dX8_here_42 rfl rfl ?_
          refine v_gI (o := 4) (pc' := 46) dX8_here_43 rfl gf_X8_148 kp_M rfl rfl ?_
          refine v_icmp_ge (pc' := 49) (tgt := 61) dX8_here_46 rfl (by decide) (fun hz => ?_) (fun hz => ?_)
          · rw [e4, e5] at hz
            exact absurd hz (nI_ge (by omega) (by omega))
          · refine v_aload_n (pc' := 50) dX8_here_49 rfl rfl ?_
            refine v_getQ (pc' := 53) dX8_here_50 rfl gf_X8_32 kp_M rfl (rf_M_text hR) ?_
            refine v_aload_n (pc' := 54) dX8_here_53 rfl rfl ?_
            refine v_gI (o := 5) (pc' := 57) dX8_here_54 rfl gf_X8_151 kp_M rfl rfl ?_
            refine v_ial (pc' := 58) dX8_here_57 rfl kp_mtext (Nat.zero_add _) e5 (by omega) ?_
            refine v_goto (tgt := 62) dX8_here_58 (by decide) ?_
            exact v_iret dX8_here_62 rfl (Nat.le_refl _) (Nat.le_refl _) ⟨by rw [e27], by rw [← a4, show stI J 21 5 (J 21 5) = J by unfold stI; rw [up_same, up_same]], rfl, rfl, rfl⟩
        · rw [e27] at hq
          have hq : cd p = 32 := (nI_eq (by omega) (by omega)).mp hq
          have e : ns cd (k + 1) p = ns cd k (p + 1) + 1 := if_pos hq
          have nxt := ih (p + 1) (stI J 21 5 (nI (p + 1))) (by omega) (MX_at hX)
          rw [stI_stI] at nxt
          have e2 : (if ns cd k (p + 1) + 1 < k + 1 then nI (cd (p + (ns cd k (p + 1) + 1))) else (-1 : Int32)) = (if ns cd k (p + 1) < k then nI (cd (p + 1 + ns cd k (p + 1))) else -1) := by
            rw [show p + (ns cd k (p + 1) + 1) = p + 1 + ns cd k (p + 1) by omega]
            by_cases c : ns cd k (p + 1) < k
            · rw [if_pos c, if_pos (by omega)]
            · rw [if_neg c, if_neg (by omega)]
          rw [e, e2, show p + (ns cd k (p + 1) + 1) = p + 1 + ns cd k (p + 1) by omega]
          refine v_aload_n (pc' := 26) dX8_here_25 rfl rfl ?_
          refine v_dup (pc' := 27) dX8_here_26 rfl rfl ?_
          refine v_gI (o := 5) (pc' := 30) dX8_here_27 rfl gf_X8_151 kp_M rfl rfl ?_
          refine v_iconst (v := nI 1) (pc' := 31) dX8_here_30 rfl (by decide) ?_
          refine v_iadd (pc' := 32) dX8_here_31 rfl ?_
          rw [e5, nI_add]
          refine v_pI (o := 5) (pc' := 35) dX8_here_32 rfl gf_X8_151 pf_X8_151 kp_M rfl rfl (Or.inl rfl) rfl rfl ?_
          refine v_goto (tgt := 0) dX8_here_35 (by decide) ?_
          rw [mm_st2 (by decide)]
          exact nxt
  exact loop k p I hp hX
theorem m_number {p k sv p1 d : Nat} {ws : List Nat} (hR : RS R) (hn : n ≤ 100) (hcd : ∀ i, i < n → cd i < 256) (hp : p + k = n) (hX : MX cd n k0 I p ws sv) (hp1 : p + ns cd k p = p1) (hd : nd cd (k - ns cd k p) p1 = d) : Ok l yX8_number cX8_number 4 (some .int) 1 0 0 [.ref 278] (mm I r X) L R 287 (eqP (some (.int (if d = 0 ∨ 3 < d then -1 else nI (dv cd p1 d)))) (mm (stI I 21 5 (nI (if d = 0 ∨ 3 < d then p1 else p1 + d))) r X) L R 287) := by
  have hns := ns_le (cd := cd) k p
  have hnd := nd_le (cd := cd) (k - ns cd k p) p1
  have hX1 := MX_at (q := p1) hX
  obtain ⟨a0, a1, a2, a3, a4, a5⟩ := id hX1
  have e4 : mm (stI I 21 5 (nI p1)) r X 21 4 = nI n := by rw [mm_o (by decide)]; exact a1
  have e5 : mm (stI I 21 5 (nI p1)) r X 21 5 = nI p1 := by rw [mm_o (by decide)]; exact a4
  have e27 : ∀ i, i < n → mm (stI I 21 5 (nI p1)) r X 27 i = nI (cd i) := fun i hi => by rw [mm_o (by decide)]; exact a2 i hi
  have hh := m_here (l := l) (r := r) (X := X) (L := L) hR hn hcd hp hX
  rw [hp1] at hh
  refine Ok.ofV [some (.ref 278), none, none, none] rfl (by decide) (Nat.le_of_ble_eq_true rfl) ?_
  refine v_aload_n (pc' := 1) dX8_number_0 rfl rfl ?_
  refine v_cV0i (pc' := 4) dX8_number_1 rfl cv_X8_154 kp_M (Nat.le_of_ble_eq_true rfl) rfl (hh) ?_
  refine v_istore_n1 (pc' := 5) dX8_number_4 rfl (by decide) rfl ?_
  refine v_aload_n (pc' := 6) dX8_number_5 rfl rfl ?_
  refine v_gI (o := 5) (pc' := 9) dX8_number_6 rfl gf_X8_151 kp_M rfl rfl ?_
  refine v_istore_n2 (pc' := 10) dX8_number_9 rfl (by decide) rfl ?_
  refine v_iconst (v := nI 0) (pc' := 11) dX8_number_10 rfl (by decide) ?_
  refine v_istore_n3 (pc' := 12) dX8_number_11 rfl (by decide) rfl ?_
  rw [e5]
  have fin : ∀ (w : Int32) (v : Int32), v = nI (dv cd p1 d) → V l yX8_number cX8_number 4 (some .int) (rmd 1 0 0) (QM 0 0 (eqP (some (.int (if d = 0 ∨ 3 < d then -1 else nI (dv cd p1 d)))) (mm (stI I 21 5 (nI (if d = 0 ∨ 3 < d then p1 else p1 + d))) r X) L R 287)) (fun _ _ => True) 75 [some (.ref 278), some (.int w), some (.int (nI (p1 + d))), some (.int v)] [] (mm (stI I 21 5 (nI p1)) r X) L R 287 0 0 := by
    intro w v hv
    refine v_iload_n (pc' := 76) dX8_number_75 rfl rfl ?_
    refine v_aload_n (pc' := 77) dX8_number_76 rfl rfl ?_
    refine v_gI (o := 5) (pc' := 80) dX8_number_77 rfl gf_X8_151 kp_M rfl rfl ?_
    refine v_icmp_eq (pc' := 83) (tgt := 93) dX8_number_80 rfl (by decide) (fun hb => ?_) (fun hb => ?_)
    · rw [e5] at hb
      have hb := (nI_eq (by omega) (by omega)).mp hb
      refine v_iconst (v := -1) (pc' := 94) dX8_number_93 rfl (by decide) ?_
      exact v_iret dX8_number_94 rfl (Nat.le_refl _) (Nat.le_refl _) ⟨by rw [if_pos (Or.inl (by omega))], by rw [if_pos (Or.inl (by omega))], rfl, rfl, rfl⟩
    · rw [e5] at hb
      have hb : d ≠ 0 := fun z => hb (by rw [z]; rfl)
      refine v_iload_n (pc' := 84) dX8_number_83 rfl rfl ?_
      refine v_aload_n (pc' := 85) dX8_number_84 rfl rfl ?_
      refine v_gI (o := 5) (pc' := 88) dX8_number_85 rfl gf_X8_151 kp_M rfl rfl ?_
      refine v_isub (pc' := 89) dX8_number_88 rfl ?_
      refine v_iconst (v := nI 3) (pc' := 90) dX8_number_89 rfl (by decide) ?_
      refine v_icmp_le (pc' := 93) (tgt := 95) dX8_number_90 rfl (by decide) (fun hq => ?_) (fun hq => ?_)
      · rw [e5, nI_sub (by omega), show p1 + d - p1 = d by omega] at hq
        have hq : d ≤ 3 := (nI_leI (by omega) (by omega)).mp hq
        refine v_aload_n (pc' := 96) dX8_number_95 rfl rfl ?_
        refine v_iload_n (pc' := 97) dX8_number_96 rfl rfl ?_
        refine v_pI (o := 5) (pc' := 100) dX8_number_97 rfl gf_X8_151 pf_X8_151 kp_M rfl rfl (Or.inl rfl) rfl rfl ?_
        refine v_iload_n (pc' := 101) dX8_number_100 rfl rfl ?_
        exact v_iret dX8_number_101 rfl (Nat.le_refl _) (Nat.le_refl _) ⟨by rw [if_neg (by omega), hv], by rw [if_neg (by omega), mm_st2 (by decide), stI_stI], rfl, rfl, rfl⟩
      · rw [e5, nI_sub (by omega), show p1 + d - p1 = d by omega] at hq
        have hq : 3 < d := by
          have : ¬ d ≤ 3 := fun z => hq (nI_le z (by omega))
          omega
        refine v_iconst (v := -1) (pc' := 94) dX8_number_93 rfl (by decide) ?_
        exact v_iret dX8_number_94 rfl (Nat.le_refl _) (Nat.le_refl _) ⟨by rw [if_pos (Or.inr hq)], by rw [if_pos (Or.inr hq)], rfl, rfl, rfl⟩
  by_cases hk : ns cd k p < k
  · rw [if_pos hk]
    have loop : ∀ (g j : Nat), j + g = d → V l yX8_number cX8_number 4 (some .int) (rmd 1 0 0) (QM 0 0 (eqP (some (.int (if d = 0 ∨ 3 < d then -1 else nI (dv cd p1 d)))) (mm (stI I 21 5 (nI (if d = 0 ∨ 3 < d then p1 else p1 + d))) r X) L R 287)) (fun _ _ => True) 12 [some (.ref 278), some (.int (nI (cd p1))), some (.int (nI (p1 + j))), some (.int (nI (dv cd p1 j)))] [] (mm (stI I 21 5 (nI p1)) r X) L R 287 0 0 := by
      intro g
      induction g with
      | zero =>
        intro j hj
        have hj : j = d := by omega
        subst hj
        have hc := hcd p1 (by omega)
        refine v_iload_n (pc' := 13) dX8_number_12 rfl rfl ?_
        refine v_if_lt (pc' := 16) (tgt := 75) dX8_number_13 rfl (by decide) (fun hb => ?_) (fun hb => ?_)
        · exact absurd hb (nI_pos (by omega))
        · refine v_iload_n (pc' := 17) dX8_number_16 rfl rfl ?_
          refine v_aload_n (pc' := 18) dX8_number_17 rfl rfl ?_
          refine v_gI (o := 4) (pc' := 21) dX8_number_18 rfl gf_X8_148 kp_M rfl rfl ?_
          refine v_icmp_ge (pc' := 24) (tgt := 75) dX8_number_21 rfl (by decide) (fun hq => ?_) (fun hq => ?_)
          · exact fin _ _ rfl
          · rw [e4] at hq
            have hq : p1 + j < n := (nI_ltI (by omega) (by omega)).mp (Int32.not_le.mp hq)
            have hst := nd_stop (cd := cd) (k - ns cd k p) p1 (by omega)
            rw [hd] at hst
            have hcj := hcd (p1 + j) hq
            refine v_aload_n (pc' := 25) dX8_number_24 rfl rfl ?_
            refine v_getQ (pc' := 28) dX8_number_25 rfl gf_X8_32 kp_M rfl (rf_M_text hR) ?_
            refine v_iload_n (pc' := 29) dX8_number_28 rfl rfl ?_
            refine v_ial (pc' := 30) dX8_number_29 rfl kp_mtext (Nat.zero_add _) rfl (by omega) ?_
            rw [e27 _ hq]
            refine v_bipush (v := nI 48) (pc' := 32) dX8_number_30 rfl (by decide) ?_
            refine v_bipush (v := nI 57) (pc' := 34) dX8_number_32 rfl (by decide) ?_
            refine v_cS3i (pc' := 37) dX8_number_34 rfl cs_X8_47 (Nat.le_of_ble_eq_true rfl) rfl (m_in) ?_
            refine v_if_eq (pc' := 40) (tgt := 75) dX8_number_37 rfl (by decide) (fun hz => ?_) (fun hz => ?_)
            · exact fin _ _ rfl
            · refine absurd (ite10.mpr ?_) hz
              by_cases c : cd (p1 + j) < 48
              · exact Or.inl (nI_lt c (by decide))
              · exact Or.inr (nI_lt (by omega) (by omega))
      | succ g ih =>
        intro j hj
        have hc := hcd p1 (by omega)
        have hdg := nd_in (cd := cd) (k - ns cd k p) p1 j (by omega)
        have hjn : p1 + j < n := by omega
        have nxt := ih (j + 1) (by omega)
        refine v_iload_n (pc' := 13) dX8_number_12 rfl rfl ?_
        refine v_if_lt (pc' := 16) (tgt := 75) dX8_number_13 rfl (by decide) (fun hb => ?_) (fun hb => ?_)
        · exact absurd hb (nI_pos (by omega))
        · refine v_iload_n (pc' := 17) dX8_number_16 rfl rfl ?_
          refine v_aload_n (pc' := 18) dX8_number_17 rfl rfl ?_
          refine v_gI (o := 4) (pc' := 21) dX8_number_18 rfl gf_X8_148 kp_M rfl rfl ?_
          refine v_icmp_ge (pc' := 24) (tgt := 75) dX8_number_21 rfl (by decide) (fun hq => ?_) (fun hq => ?_)
          · rw [e4] at hq
            exact absurd hq (nI_ge (by omega) (by omega))
          · refine v_aload_n (pc' := 25) dX8_number_24 rfl rfl ?_
            refine v_getQ (pc' := 28) dX8_number_25 rfl gf_X8_32 kp_M rfl (rf_M_text hR) ?_
            refine v_iload_n (pc' := 29) dX8_number_28 rfl rfl ?_
            refine v_ial (pc' := 30) dX8_number_29 rfl kp_mtext (Nat.zero_add _) rfl (by omega) ?_
            rw [e27 _ hjn]
            refine v_bipush (v := nI 48) (pc' := 32) dX8_number_30 rfl (by decide) ?_
            refine v_bipush (v := nI 57) (pc' := 34) dX8_number_32 rfl (by decide) ?_
            refine v_cS3i (pc' := 37) dX8_number_34 rfl cs_X8_47 (Nat.le_of_ble_eq_true rfl) rfl (m_in) ?_
            refine v_if_eq (pc' := 40) (tgt := 75) dX8_number_37 rfl (by decide) (fun hz => ?_) (fun hz => ?_)
            · exact absurd (ite10.mp hz) (inr hdg.1 hdg.2 (by decide))
            · refine v_iload_n (pc' := 41) dX8_number_40 rfl rfl ?_
              refine v_aload_n (pc' := 42) dX8_number_41 rfl rfl ?_
              refine v_gI (o := 5) (pc' := 45) dX8_number_42 rfl gf_X8_151 kp_M rfl rfl ?_
              refine v_isub (pc' := 46) dX8_number_45 rfl ?_
              refine v_iconst (v := nI 4) (pc' := 47) dX8_number_46 rfl (by decide) ?_
              refine v_icmp_ge (pc' := 50) (tgt := 67) dX8_number_47 rfl (by decide) (fun hy => ?_) (fun hy => ?_)
              · rw [e5, nI_sub (by omega), show p1 + j - p1 = j by omega] at hy
                have hy : ¬ j < 4 := fun z => absurd hy (nI_ge z (by decide))
                refine v_iload_n (pc' := 68) dX8_number_67 rfl rfl ?_
                refine v_istore_n3 (pc' := 69) dX8_number_68 rfl (by decide) rfl ?_
                refine v_iinc2 (pc' := 72) dX8_number_69 rfl (by decide) rfl (inc_nI _) ?_
                refine v_goto (tgt := 12) dX8_number_72 (by decide) ?_
                rw [show dv cd p1 (j + 1) = dv cd p1 j from if_neg hy] at nxt
                exact nxt
              · rw [e5, nI_sub (by omega), show p1 + j - p1 = j by omega] at hy
                have hy : j < 4 := (nI_ltI (by omega) (by omega)).mp (Int32.not_le.mp hy)
                refine v_bipush (v := nI 10) (pc' := 52) dX8_number_50 rfl (by decide) ?_
                refine v_iload_n (pc' := 53) dX8_number_52 rfl rfl ?_
                refine v_imul (pc' := 54) dX8_number_53 rfl ?_
                refine v_aload_n (pc' := 55) dX8_number_54 rfl rfl ?_
                refine v_getQ (pc' := 58) dX8_number_55 rfl gf_X8_32 kp_M rfl (rf_M_text hR) ?_
                refine v_iload_n (pc' := 59) dX8_number_58 rfl rfl ?_
                refine v_ial (pc' := 60) dX8_number_59 rfl kp_mtext (Nat.zero_add _) rfl (by omega) ?_
                rw [e27 _ hjn]
                refine v_iadd (pc' := 61) dX8_number_60 rfl ?_
                refine v_bipush (v := nI 48) (pc' := 63) dX8_number_61 rfl (by decide) ?_
                refine v_isub (pc' := 64) dX8_number_63 rfl ?_
                refine v_goto (tgt := 68) dX8_number_64 (by decide) ?_
                refine v_istore_n3 (pc' := 69) dX8_number_68 rfl (by decide) rfl ?_
                refine v_iinc2 (pc' := 72) dX8_number_69 rfl (by decide) rfl (inc_nI _) ?_
                refine v_goto (tgt := 12) dX8_number_72 (by decide) ?_
                rw [show dv cd p1 (j + 1) = 10 * dv cd p1 j + (cd (p1 + j) - 48) from if_pos hy] at nxt
                rw [pk_mul, nI_add, nI_sub (by omega), show 10 * dv cd p1 j + cd (p1 + j) - 48 = 10 * dv cd p1 j + (cd (p1 + j) - 48) by omega]
                exact nxt
    exact loop d 0 (by omega)
  · rw [if_neg hk]
    have hd0 : d = 0 := by
      rw [show k - ns cd k p = 0 by omega] at hd
      exact hd.symm
    refine v_iload_n (pc' := 13) dX8_number_12 rfl rfl ?_
    refine v_if_lt (pc' := 16) (tgt := 75) dX8_number_13 rfl (by decide) (fun hb => ?_) (fun hb => ?_)
    · have := fin (-1) (nI 0) (by rw [hd0]; rfl)
      rw [hd0] at this ⊢
      exact this
    · exact absurd (by decide) hb
end B40
