theorem PI_step {v at_ : Nat} {s : PS} (h : PI at_ s) (hn : (pStep v at_ s).2 = none) : PI (at_ + 1) (pStep v at_ s).1 := by
  obtain ⟨nx, oc, ok, rq⟩ := s
  obtain ⟨h1, h2, h3, h4, h5⟩ := h
  simp only at h1 h2 h3 h4 h5
  unfold pStep at hn ⊢
  simp only at hn ⊢
  by_cases a : v = 32
  · rw [if_pos a]
    refine ⟨?_, by simp only; omega, ?_, h4, ?_⟩
    · show (if nx = 3 then 4 else nx) ≤ 4
      split <;> omega
    · intro q
      refine h3 ?_
      have q : 1 ≤ (if nx = 3 then 4 else nx) := q
      split at q <;> omega
    · intro q
      have q : (if nx = 3 then 4 else nx) = 3 := q
      split at q <;> omega
  · rw [if_neg a] at hn ⊢
    by_cases b0 : nx = 0
    · rw [if_pos b0] at hn ⊢
      by_cases c : 48 ≤ v ∧ v ≤ 52
      · rw [if_pos c]
        exact ⟨by simp only; omega, by simp only; omega, fun _ => ⟨v - 48, by omega, rfl⟩, h4, fun q => by cases q⟩
      · rw [if_neg c] at hn
        cases hn
    · rw [if_neg b0] at hn ⊢
      obtain ⟨c, hc, hoc⟩ := h3 (by omega)
      by_cases b1 : nx = 1
      · rw [if_pos b1] at hn ⊢
        by_cases d : v = 58
        · rw [if_pos d]
          exact ⟨by simp only; omega, by simp only; omega, fun _ => ⟨c, hc, hoc⟩, h4, fun q => by cases q⟩
        · rw [if_neg d] at hn
          cases hn
      · rw [if_neg b1] at hn ⊢
        by_cases b2 : nx = 2
        · rw [if_pos b2] at hn ⊢
          by_cases d : 48 ≤ v ∧ v ≤ 57
          · rw [if_pos d]
            refine ⟨by show 3 ≤ 4; omega, by simp; omega, fun _ => ⟨c, hc, hoc⟩, fun q hq => ?_, fun _ => ⟨at_, rfl, by omega, by omega, by simp, ?_⟩⟩
            · rcases List.mem_append.mp hq with z | z
              · exact h4 q z
              · rw [List.mem_singleton.mp z, hoc]
                exact ⟨hc, by show v - 48 < 1000; omega⟩
            · show ((rq ++ [(oc.getD 0, v - 48)]).getLastD (0, 0)).2 < _
              rw [List.getLastD_concat, show at_ + 1 - at_ = 1 by omega]
              show v - 48 < 10 ^ 1
              omega
          · rw [if_neg d] at hn
            cases hn
        · rw [if_neg b2] at hn ⊢
          have mark : (if v = 44 then (((2 : Nat), oc, ok, rq), (none : Option Nat)) else if v = 59 then ((0, oc, ok, rq), none) else ((nx, oc, ok, rq), some at_)).2 = none → PI (at_ + 1) (if v = 44 then (((2 : Nat), oc, ok, rq), (none : Option Nat)) else if v = 59 then ((0, oc, ok, rq), none) else ((nx, oc, ok, rq), some at_)).1 := by
            intro hz
            by_cases e1 : v = 44
            · rw [if_pos e1]
              exact ⟨by simp only; omega, by simp only; omega, fun _ => ⟨c, hc, hoc⟩, h4, fun q => by cases q⟩
            · rw [if_neg e1] at hz ⊢
              by_cases e2 : v = 59
              · rw [if_pos e2]
                exact ⟨by simp only; omega, by simp only; omega, fun _ => ⟨c, hc, hoc⟩, h4, fun q => by cases q⟩
              · rw [if_neg e2] at hz
                cases hz
          by_cases b3 : nx = 3 ∧ 48 ≤ v ∧ v ≤ 57
          · rw [if_pos b3] at hn ⊢
            obtain ⟨k, hk, hk1, hk2, hk3, hk4⟩ := h5 b3.1
            have ek : ok.getD 0 = k := by rw [hk]; rfl
            rw [ek] at hn ⊢
            by_cases f : 3 ≤ at_ - k
            · rw [if_pos f] at hn
              cases hn
            · rw [if_neg f]
              have hs := rq_split hk3
              have hlt : 10 * (rq.getLastD (0, 0)).2 + (v - 48) < 10 ^ (at_ + 1 - k) := by
                rw [show at_ + 1 - k = (at_ - k) + 1 by omega, Nat.pow_succ]
                omega
              have h1000 : 10 ^ (at_ + 1 - k) ≤ 10 ^ 3 := Nat.pow_le_pow_right (by decide) (by omega)
              have hmem : rq.getLastD (0, 0) ∈ rq := by
                rw [List.getLastD_eq_getLast?, List.getLast?_eq_some_getLast hk3]
                exact List.getLast_mem hk3
              refine ⟨by show 3 ≤ 4; omega, ?_, fun _ => ⟨c, hc, hoc⟩, fun q hq => ?_, fun _ => ⟨k, hk, by omega, by omega, ?_, ?_⟩⟩
              · show (exL rq (v - 48)).length ≤ at_ + 1
                unfold exL
                have : rq.length ≠ 0 := fun z => hk3 (List.length_eq_zero_iff.mp z)
                simp
                omega
              · have hq : q ∈ exL rq (v - 48) := hq
                unfold exL at hq
                rcases List.mem_append.mp hq with z | z
                · exact h4 q (by rw [hs]; exact List.mem_append_left _ z)
                · rw [List.mem_singleton.mp z]
                  exact ⟨(h4 _ hmem).1, by show 10 * (rq.getLastD (0, 0)).2 + (v - 48) < 1000; omega⟩
              · show exL rq (v - 48) ≠ []
                unfold exL
                simp
              · show ((exL rq (v - 48)).getLastD (0, 0)).2 < _
                unfold exL
                rw [List.getLastD_concat]
                exact hlt
          · rw [if_neg b3] at hn ⊢
            exact mark hn
theorem fault_lt {v at_ f : Nat} {s : PS} (h : PI at_ s) (hn : (pStep v at_ s).2 = some f) : f ≤ at_ := by
  obtain ⟨nx, oc, ok, rq⟩ := s
  obtain ⟨h1, h2, h3, h4, h5⟩ := h
  simp only at h1 h2 h3 h4 h5
  unfold pStep at hn
  simp only at hn
  repeat' split at hn
  all_goals first | (cases hn; done) | (cases hn; omega) | skip
  all_goals
    rename_i a b
    obtain ⟨k, hk, hk1, -⟩ := h5 (by omega)
    rw [hk] at hn
    cases hn
    show k ≤ at_
    omega
section B23
variable {l : Launch} {I : MI} {L : ML} {R : MR}
theorem ok_read {s : PS} {v at_ : Nat} (hR : RS R) (hv : v < 256) (hat : at_ < 100) (hp : PI at_ s) : Ok l yX5_read cX5_read 3 (some .int) 2 0 0 [.ref 268, .int (nI v), .int (nI at_)] (pM I s) L R 287 (eqP (some (.int (oIx (pStep v at_ s).2))) (pM I (pStep v at_ s).1) L R 287) := by
  obtain ⟨h1, h2, h3, h4, h5⟩ := id hp
  have e52 : pM I s 5 2 = nI s.1 := pM_52
  refine Ok.ofV [some (.ref 268), some (.int (nI v)), some (.int (nI at_))] rfl (by decide) (Nat.le_of_ble_eq_true rfl) ?_
  refine v_iload_n (pc' := 1) dX5_read_0 rfl rfl ?_
  refine v_bipush (v := nI 32) (pc' := 3) dX5_read_1 rfl (by decide) ?_
  refine v_icmp_ne (pc' := 6) (tgt := 28) dX5_read_3 rfl (by decide) (fun hb => ?_) (fun hb => ?_)
  · have hb : ¬ v = 32 := fun z => hb (by rw [z])
    refine v_aload_n (pc' := 29) dX5_read_28 rfl rfl ?_
    refine v_gI (o := 2) (pc' := 32) dX5_read_29 rfl gf_X5_28 kp_X rfl rfl ?_
    rw [e52]
    rcases (show s.1 = 0 ∨ s.1 = 1 ∨ s.1 = 2 ∨ s.1 = 3 ∨ s.1 = 4 by omega) with q | q | q | q | q
    · have e : pStep v at_ s = (if 48 ≤ v ∧ v ≤ 52 then ((1, some (v - 48), s.2.2), none) else (s, some at_)) := by
        unfold pStep
        rw [if_neg hb, if_pos q]
      rw [q]
      refine v_tabIn (off := 32) (tgt := 64) dX5_read_32 (by decide) (by decide) (by decide) (by decide) ?_
      refine v_aload_n (pc' := 65) dX5_read_64 rfl rfl ?_
      refine v_iload_n (pc' := 66) dX5_read_65 rfl rfl ?_
      refine v_iload_n (pc' := 67) dX5_read_66 rfl rfl ?_
      refine v_cV2i (pc' := 70) dX5_read_67 rfl cv_X5_41 kp_X (Nat.le_of_ble_eq_true rfl) rfl (ok_readCache hR hv) ?_
      exact v_iret dX5_read_70 rfl (Nat.le_refl _) (Nat.le_refl _) ⟨by rw [e]; split <;> rfl, by rw [e]; split <;> rfl, rfl, rfl, rfl⟩
    · have e : pStep v at_ s = (if v = 58 then ((2, s.2), none) else (s, some at_)) := by
        unfold pStep
        rw [if_neg hb, if_neg (by omega), if_pos q]
      rw [q]
      refine v_tabIn (off := 39) (tgt := 71) dX5_read_32 (by decide) (by decide) (by decide) (by decide) ?_
      refine v_aload_n (pc' := 72) dX5_read_71 rfl rfl ?_
      refine v_iload_n (pc' := 73) dX5_read_72 rfl rfl ?_
      refine v_iload_n (pc' := 74) dX5_read_73 rfl rfl ?_
      refine v_cV2i (pc' := 77) dX5_read_74 rfl cv_X5_44 kp_X (Nat.le_of_ble_eq_true rfl) rfl (ok_readColon hR hv) ?_
      exact v_iret dX5_read_77 rfl (Nat.le_refl _) (Nat.le_refl _) ⟨by rw [e]; split <;> rfl, by rw [e]; split <;> rfl, rfl, rfl, rfl⟩
    · have e : pStep v at_ s = (if 48 ≤ v ∧ v ≤ 57 then ((3, s.2.1, some at_, s.2.2.2 ++ [(s.2.1.getD 0, v - 48)]), none) else (s, some at_)) := by
        unfold pStep
        rw [if_neg hb, if_neg (by omega), if_neg (by omega), if_pos q]
      rw [q]
      refine v_tabIn (off := 46) (tgt := 78) dX5_read_32 (by decide) (by decide) (by decide) (by decide) ?_
      obtain ⟨c, hc, hoc⟩ := h3 (by omega)
      refine v_iload_n (pc' := 79) dX5_read_78 rfl rfl ?_
      refine v_cS1i (pc' := 82) dX5_read_79 rfl cs_X5_47 (Nat.le_of_ble_eq_true rfl) rfl (ok_isDigit hv) ?_
      refine v_if_eq (pc' := 85) (tgt := 94) dX5_read_82 rfl (by decide) (fun hd => ?_) (fun hd => ?_)
      · have hd := ite01.mp hd
        refine v_iload_n (pc' := 95) dX5_read_94 rfl rfl ?_
        exact v_iret dX5_read_95 rfl (Nat.le_refl _) (Nat.le_refl _) ⟨by rw [e, if_neg hd]; rfl, by rw [e, if_neg hd], rfl, rfl, rfl⟩
      · have hd := Classical.not_not.mp (fun z => hd (ite01.mpr z))
        refine v_aload_n (pc' := 86) dX5_read_85 rfl rfl ?_
        refine v_iload_n (pc' := 87) dX5_read_86 rfl rfl ?_
        refine v_iload_n (pc' := 88) dX5_read_87 rfl rfl ?_
        refine v_cV2i (pc' := 91) dX5_read_88 rfl cv_X5_51 kp_X (Nat.le_of_ble_eq_true rfl) rfl (ok_startNumber hR hd hoc (by omega)) ?_
        refine v_goto (tgt := 95) dX5_read_91 (by decide) ?_
        exact v_iret dX5_read_95 rfl (Nat.le_refl _) (Nat.le_refl _) ⟨by rw [e, if_pos hd]; rfl, by rw [e, if_pos hd, hoc]; rfl, rfl, rfl, rfl⟩
    · rw [q]
      refine v_tabIn (off := 64) (tgt := 96) dX5_read_32 (by decide) (by decide) (by decide) (by decide) ?_
      obtain ⟨k, hk, hk1, hk2, hk3, hk4⟩ := h5 q
      refine v_iload_n (pc' := 97) dX5_read_96 rfl rfl ?_
      refine v_cS1i (pc' := 100) dX5_read_97 rfl cs_X5_47 (Nat.le_of_ble_eq_true rfl) rfl (ok_isDigit hv) ?_
      refine v_if_eq (pc' := 103) (tgt := 112) dX5_read_100 rfl (by decide) (fun hd => ?_) (fun hd => ?_)
      · have hd := ite01.mp hd
        have e : pStep v at_ s = (if v = 44 then ((2, s.2), none) else if v = 59 then ((0, s.2), none) else (s, some at_)) := by
          unfold pStep
          rw [if_neg hb, if_neg (by omega), if_neg (by omega), if_neg (by omega), if_neg (fun z => hd z.2)]
        refine v_aload_n (pc' := 113) dX5_read_112 rfl rfl ?_
        refine v_iload_n (pc' := 114) dX5_read_113 rfl rfl ?_
        refine v_iload_n (pc' := 115) dX5_read_114 rfl rfl ?_
        refine v_cV2i (pc' := 118) dX5_read_115 rfl cv_X5_57 kp_X (Nat.le_of_ble_eq_true rfl) rfl (ok_readMark hR hv) ?_
        exact v_iret dX5_read_118 rfl (Nat.le_refl _) (Nat.le_refl _) ⟨by
              rw [e]
              by_cases a : v = 44
              · rw [if_pos a, if_pos (Or.inl a)]; rfl
              · by_cases b : v = 59
                · rw [if_neg a, if_pos b, if_pos (Or.inr b)]; rfl
                · rw [if_neg a, if_neg b, if_neg (by omega)]; rfl, by
              rw [e]
              by_cases a : v = 44
              · rw [if_pos a, if_pos a]
              · by_cases b : v = 59
                · rw [if_neg a, if_pos b, if_neg a, if_pos b]
                · rw [if_neg a, if_neg b, if_neg a, if_neg b], rfl, rfl, rfl⟩
      · have hd := Classical.not_not.mp (fun z => hd (ite01.mpr z))
        have e : pStep v at_ s = (if 3 ≤ at_ - k then (s, some k) else ((3, s.2.1, s.2.2.1, exL s.2.2.2 (v - 48)), none)) := by
          unfold pStep
          rw [if_neg hb, if_neg (by omega), if_neg (by omega), if_neg (by omega), if_pos ⟨q, hd⟩, show s.2.2.1.getD 0 = k by rw [hk]; rfl]
        refine v_aload_n (pc' := 104) dX5_read_103 rfl rfl ?_
        refine v_iload_n (pc' := 105) dX5_read_104 rfl rfl ?_
        refine v_iload_n (pc' := 106) dX5_read_105 rfl rfl ?_
        refine v_cV2i (pc' := 109) dX5_read_106 rfl cv_X5_54 kp_X (Nat.le_of_ble_eq_true rfl) rfl (ok_extendNumber hR hd hk (by omega) hat (by omega) hk3) ?_
        refine v_goto (tgt := 118) dX5_read_109 (by decide) ?_
        exact v_iret dX5_read_118 rfl (Nat.le_refl _) (Nat.le_refl _) ⟨by rw [e]; split <;> rfl, by
              rw [e]
              split
              · rfl
              · rw [q], rfl, rfl, rfl⟩
    · have e : pStep v at_ s = (if v = 44 then ((2, s.2), none) else if v = 59 then ((0, s.2), none) else (s, some at_)) := by
        unfold pStep
        rw [if_neg hb, if_neg (by omega), if_neg (by omega), if_neg (by omega), if_neg (by omega)]
      rw [q]
      refine v_tabOut (tgt := 119) dX5_read_32 (by decide) (by decide) ?_
      refine v_aload_n (pc' := 120) dX5_read_119 rfl rfl ?_
      refine v_iload_n (pc' := 121) dX5_read_120 rfl rfl ?_
      refine v_iload_n (pc' := 122) dX5_read_121 rfl rfl ?_
      refine v_cV2i (pc' := 125) dX5_read_122 rfl cv_X5_57 kp_X (Nat.le_of_ble_eq_true rfl) rfl (ok_readMark hR hv) ?_
      exact v_iret dX5_read_125 rfl (Nat.le_refl _) (Nat.le_refl _) ⟨by
            rw [e]
            by_cases a : v = 44
            · rw [if_pos a, if_pos (Or.inl a)]; rfl
            · by_cases b : v = 59
              · rw [if_neg a, if_pos b, if_pos (Or.inr b)]; rfl
              · rw [if_neg a, if_neg b, if_neg (by omega)]; rfl, by
            rw [e]
            by_cases a : v = 44
            · rw [if_pos a, if_pos a]
            · by_cases b : v = 59
              · rw [if_neg a, if_pos b, if_neg a, if_pos b]
              · rw [if_neg a, if_neg b, if_neg a, if_neg b], rfl, rfl, rfl⟩
  · have hb := (nI_eq (by omega) (by omega)).mp hb
    have e : pStep v at_ s = ((if s.1 = 3 then 4 else s.1, s.2), none) := by
      unfold pStep
      rw [if_pos hb]
    refine v_aload_n (pc' := 7) dX5_read_6 rfl rfl ?_
    refine v_aload_n (pc' := 8) dX5_read_7 rfl rfl ?_
    refine v_gI (o := 2) (pc' := 11) dX5_read_8 rfl gf_X5_28 kp_X rfl rfl ?_
    rw [e52]
    refine v_iconst (v := nI 3) (pc' := 12) dX5_read_11 rfl (by decide) ?_
    refine v_icmp_ne (pc' := 15) (tgt := 19) dX5_read_12 rfl (by decide) (fun hq => ?_) (fun hq => ?_)
    · have hq : ¬ s.1 = 3 := fun z => hq (by rw [z])
      refine v_aload_n (pc' := 20) dX5_read_19 rfl rfl ?_
      refine v_gI (o := 2) (pc' := 23) dX5_read_20 rfl gf_X5_28 kp_X rfl rfl ?_
      rw [e52]
      refine v_pI (o := 2) (pc' := 26) dX5_read_23 rfl gf_X5_28 pf_X5_28 kp_X rfl rfl (Or.inl rfl) rfl rfl ?_
      refine v_iconst (v := -1) (pc' := 27) dX5_read_26 rfl (by decide) ?_
      exact v_iret dX5_read_27 rfl (Nat.le_refl _) (Nat.le_refl _) ⟨by rw [e]; rfl, by rw [e, if_neg hq, pM_nx], rfl, rfl, rfl⟩
    · have hq := (nI_eq (by omega) (by omega)).mp hq
      refine v_iconst (v := nI 4) (pc' := 16) dX5_read_15 rfl (by decide) ?_
      refine v_goto (tgt := 23) dX5_read_16 (by decide) ?_
      refine v_pI (o := 2) (pc' := 26) dX5_read_23 rfl gf_X5_28 pf_X5_28 kp_X rfl rfl (Or.inl rfl) rfl rfl ?_
      refine v_iconst (v := -1) (pc' := 27) dX5_read_26 rfl (by decide) ?_
      exact v_iret dX5_read_27 rfl (Nat.le_refl _) (Nat.le_refl _) ⟨by rw [e]; rfl, by rw [e, if_pos hq, pM_nx], rfl, rfl, rfl⟩
/-- what parse answers -/
def aPar (q : PS × Option Nat) (n : Nat) : Int32 := match q.2 with
  | some f => nI f
  | none => if q.1.1 = 3 ∨ q.1.1 = 4 then -1 else nI n
def cdN (w : Row) : Nat → Nat := fun i => nn (w i)
/-- the text: its length, its bytes -/
def TX (I : MI) (n : Nat) : Prop := I 5 0 = nI n ∧ n ≤ 100 ∧ ∀ i, i < n → I 6 i = nI (cdN (I 6) i) ∧ cdN (I 6) i < 256
def pS0 : PS := (0, none, none, [])
theorem ok_parse {n : Nat} {TI : MI} {ta : Int32} (hR : RS R) (ht : TX I n) (hTI : pM I (pRun (cdN (I 6)) n 0 pS0).1 = TI) (hta : aPar (pRun (cdN (I 6)) n 0 pS0) n = ta) : Ok l yX5_parse cX5_parse 3 (some .int) 3 0 0 [.ref 268] I L R 287 (eqP (some (.int ta)) TI L R 287) := by
  obtain ⟨t1, t2, t3⟩ := ht
  refine Ok.ofV [some (.ref 268), none, none] rfl (by decide) (Nat.le_of_ble_eq_true rfl) ?_
  refine v_aload_n (pc' := 1) dX5_parse_0 rfl rfl ?_
  refine v_iconst (v := nI 0) (pc' := 2) dX5_parse_1 rfl (by decide) ?_
  refine v_pI (o := 1) (pc' := 5) dX5_parse_2 rfl gf_X5_25 pf_X5_25 kp_X rfl rfl (Or.inl rfl) rfl rfl ?_
  refine v_aload_n (pc' := 6) dX5_parse_5 rfl rfl ?_
  refine v_iconst (v := nI 0) (pc' := 7) dX5_parse_6 rfl (by decide) ?_
  refine v_pI (o := 2) (pc' := 10) dX5_parse_7 rfl gf_X5_28 pf_X5_28 kp_X rfl rfl (Or.inl rfl) rfl rfl ?_
  refine v_iconst (v := nI 0) (pc' := 11) dX5_parse_10 rfl (by decide) ?_
  refine v_istore_n1 (pc' := 12) dX5_parse_11 rfl (by decide) rfl ?_
  have e0 : stI (stI I 5 1 (nI 0)) 5 2 (nI 0) = pM I pS0 := by
    refine pM_ext ?_ ?_ ?_ (fun u h5 h7 h8 => by rw [stI_r h5, stI_r h5])
    · rw [stI_g, stI_g]
      funext j
      simp only [txR, va_up, pS0, ov, List.length_nil]
      repeat' split
      all_goals first | rfl | (exfalso; omega) | (congr 1)
    · rw [stI_r (by decide), stI_r (by decide)]
      exact (wsA_nil _).symm
    · rw [stI_r (by decide), stI_r (by decide)]
      exact (wsA_nil _).symm
  rw [e0]
  have loop : ∀ (k at_ : Nat) (s : PS) (w : Option Value), at_ + k = n → PI at_ s → pRun (cdN (I 6)) n 0 pS0 = pRun (cdN (I 6)) k at_ s → V l yX5_parse cX5_parse 3 (some .int) (rmd 3 0 0) (QM 0 0 (eqP (some (.int ta)) TI L R 287)) (fun _ _ => True) 12 [some (.ref 268), some (.int (nI at_)), w] [] (pM I s) L R 287 0 0 := by
    intro k
    induction k with
    | zero =>
      intro at_ s w hk hp hr
      have hr : pRun (cdN (I 6)) n 0 pS0 = (s, none) := hr
      have eta : ta = if s.1 = 3 ∨ s.1 = 4 then -1 else nI n := by rw [← hta, hr]; rfl
      have eTI : TI = pM I s := by rw [← hTI, hr]
      have h14 := hp.1
      refine v_iload_n (pc' := 13) dX5_parse_12 rfl rfl ?_
      refine v_aload_n (pc' := 14) dX5_parse_13 rfl rfl ?_
      refine v_gI (o := 0) (pc' := 17) dX5_parse_14 rfl gf_X5_15 kp_X rfl rfl ?_
      refine v_icmp_ge (pc' := 20) (tgt := 45) dX5_parse_17 rfl (by decide) (fun hb => ?_) (fun hb => ?_)
      · refine v_aload_n (pc' := 46) dX5_parse_45 rfl rfl ?_
        refine v_gI (o := 2) (pc' := 49) dX5_parse_46 rfl gf_X5_28 kp_X rfl rfl ?_
        rw [pM_52]
        refine v_iconst (v := nI 3) (pc' := 50) dX5_parse_49 rfl (by decide) ?_
        refine v_icmp_eq (pc' := 53) (tgt := 61) dX5_parse_50 rfl (by decide) (fun hq => ?_) (fun hq => ?_)
        · have hq := (nI_eq (by omega) (by omega)).mp hq
          refine v_iconst (v := -1) (pc' := 62) dX5_parse_61 rfl (by decide) ?_
          refine v_goto (tgt := 69) dX5_parse_62 (by decide) ?_
          exact v_iret dX5_parse_69 rfl (Nat.le_refl _) (Nat.le_refl _) ⟨by rw [eta, if_pos (Or.inl hq)], eTI.symm, rfl, rfl, rfl⟩
        · have hq : ¬ s.1 = 3 := fun z => hq (by rw [z])
          refine v_aload_n (pc' := 54) dX5_parse_53 rfl rfl ?_
          refine v_gI (o := 2) (pc' := 57) dX5_parse_54 rfl gf_X5_28 kp_X rfl rfl ?_
          rw [pM_52]
          refine v_iconst (v := nI 4) (pc' := 58) dX5_parse_57 rfl (by decide) ?_
          refine v_icmp_ne (pc' := 61) (tgt := 65) dX5_parse_58 rfl (by decide) (fun hz => ?_) (fun hz => ?_)
          · have hz : ¬ s.1 = 4 := fun z => hz (by rw [z])
            refine v_aload_n (pc' := 66) dX5_parse_65 rfl rfl ?_
            refine v_gI (o := 0) (pc' := 69) dX5_parse_66 rfl gf_X5_15 kp_X rfl rfl ?_
            rw [pM_50, t1]
            exact v_iret dX5_parse_69 rfl (Nat.le_refl _) (Nat.le_refl _) ⟨by rw [eta, if_neg (by omega)], eTI.symm, rfl, rfl, rfl⟩
          · have hz := (nI_eq (by omega) (by omega)).mp hz
            refine v_iconst (v := -1) (pc' := 62) dX5_parse_61 rfl (by decide) ?_
            refine v_goto (tgt := 69) dX5_parse_62 (by decide) ?_
            exact v_iret dX5_parse_69 rfl (Nat.le_refl _) (Nat.le_refl _) ⟨by rw [eta, if_pos (Or.inr hz)], eTI.symm, rfl, rfl, rfl⟩
      · exact absurd (by rw [pM_50, t1]; exact nI_le (by omega) (by omega)) hb
    | succ k ih =>
      intro at_ s w hk hp hr
      refine v_iload_n (pc' := 13) dX5_parse_12 rfl rfl ?_
      refine v_aload_n (pc' := 14) dX5_parse_13 rfl rfl ?_
      refine v_gI (o := 0) (pc' := 17) dX5_parse_14 rfl gf_X5_15 kp_X rfl rfl ?_
      refine v_icmp_ge (pc' := 20) (tgt := 45) dX5_parse_17 rfl (by decide) (fun hb => ?_) (fun hb => ?_)
      · exact absurd (by rw [pM_50, t1] at hb; exact hb) (nI_ge (by omega) (by omega))
      · refine v_aload_n (pc' := 21) dX5_parse_20 rfl rfl ?_
        refine v_aload_n (pc' := 22) dX5_parse_21 rfl rfl ?_
        refine v_getQ (pc' := 25) dX5_parse_22 rfl gf_X5_11 kp_X rfl (rf_X_codes hR) ?_
        refine v_iload_n (pc' := 26) dX5_parse_25 rfl rfl ?_
        refine v_ial (pc' := 27) dX5_parse_26 rfl kp_codes (Nat.zero_add _) rfl (by omega) ?_
        rw [pM_o (by decide) (by decide) (by decide), (t3 at_ (by omega)).1]
        refine v_iload_n (pc' := 28) dX5_parse_27 rfl rfl ?_
        refine v_cV2i (pc' := 31) dX5_parse_28 rfl cv_X5_37 kp_X (Nat.le_of_ble_eq_true rfl) rfl (ok_read hR (t3 at_ (by omega)).2 (by omega) hp) ?_
        refine v_istore_n2 (pc' := 32) dX5_parse_31 rfl (by decide) rfl ?_
        refine v_iload_n (pc' := 33) dX5_parse_32 rfl rfl ?_
        refine v_iconst (v := -1) (pc' := 34) dX5_parse_33 rfl (by decide) ?_
        refine v_icmp_eq (pc' := 37) (tgt := 39) dX5_parse_34 rfl (by decide) (fun hq => ?_) (fun hq => ?_)
        · have hno : (pStep (cdN (I 6) at_) at_ s).2 = none := (oIx_m1 (n := at_ + 1) (fun f hf => by have := fault_lt hp hf; omega) (by omega)).mp hq
          refine v_iinc1 (pc' := 42) dX5_parse_39 rfl (by decide) rfl (inc_nI _) ?_
          refine v_goto (tgt := 12) dX5_parse_42 (by decide) ?_
          refine ih (at_ + 1) _ _ (by omega) (PI_step hp hno) ?_
          rw [hr]
          conv => lhs; unfold pRun
          rw [hno]
        · cases hs : (pStep (cdN (I 6) at_) at_ s).2 with
          | none => exact absurd (by rw [hs]; rfl) hq
          | some f =>
            have hr2 : pRun (cdN (I 6)) n 0 pS0 = ((pStep (cdN (I 6) at_) at_ s).1, some f) := by
              rw [hr]
              conv => lhs; unfold pRun
              rw [hs]
            refine v_iload_n (pc' := 38) dX5_parse_37 rfl rfl ?_
            exact v_iret dX5_parse_38 rfl (Nat.le_refl _) (Nat.le_refl _) ⟨by rw [← hta, hr2]; rfl, by rw [← hTI, hr2], rfl, rfl, rfl⟩
  exact loop n 0 pS0 none (by omega) ⟨by decide, by decide, fun q => absurd q (by decide), fun q hq => (by cases hq), fun q => absurd q (by decide)⟩ rfl
end B23
