def wkM (I : MI) (g gp ln fh : Nat) (ws : List Nat) : MI := va_up (va_up I g (va_up (va_up (I g) 0 (nI ln)) 2 (nI fh))) gp (wsA ws (I gp))
def wkF (I : MI) (g gp : Nat) (q : List Nat × Nat × Nat) (fm : Nat) : MI := va_up (va_up I g (wkN q.1.length q.2.1 q.2.2 fm (I g))) gp (wsA q.1 (I gp))
theorem wkM_g {I : MI} {g gp ln fh : Nat} {ws : List Nat} (hg : g ≠ gp) : wkM I g gp ln fh ws g = va_up (va_up (I g) 0 (nI ln)) 2 (nI fh) := by
  unfold wkM
  rw [va_up_ne _ _ hg, va_up_self]
theorem wkM_p {I : MI} {g gp ln fh : Nat} {ws : List Nat} : wkM I g gp ln fh ws gp = wsA ws (I gp) := va_up_self _ _ _
theorem wkM_o {I : MI} {g gp ln fh u : Nat} {ws : List Nat} (h1 : u ≠ g) (h2 : u ≠ gp) : wkM I g gp ln fh ws u = I u := by
  unfold wkM
  rw [va_up_ne _ _ h2, va_up_ne _ _ h1]
theorem wkM_enter {I : MI} {g gp ln fh b : Nat} {ws : List Nat} (hg : g ≠ gp) (hl : ws.length = ln) : stI (stI (wkM I g gp ln fh ws) gp ln (nI b)) g 0 (nI (ln + 1)) = wkM I g gp (ln + 1) fh (ws ++ [b]) := by
  funext u
  by_cases h1 : u = gp
  · subst h1
    have e : stI (stI (wkM I g u ln fh ws) u ln (nI b)) g 0 (nI (ln + 1)) u = stI (wkM I g u ln fh ws) u ln (nI b) u := funext fun v => stI_ne (fun z => hg z.1.symm)
    rw [e, wkM_p]
    unfold stI
    rw [va_up_self, wkM_p, ← hl, wsA_push]
  · by_cases h2 : u = g
    · subst h2
      unfold stI
      rw [va_up_self, va_up_ne _ _ h1, wkM_g hg, wkM_g hg]
      funext v
      unfold va_up
      repeat' split
      all_goals first | rfl | (exfalso; omega)
    · have e : stI (stI (wkM I g gp ln fh ws) gp ln (nI b)) g 0 (nI (ln + 1)) u = wkM I g gp ln fh ws u := funext fun v => by rw [stI_ne (fun z => h2 z.1), stI_ne (fun z => h1 z.1)]
      rw [e, wkM_o h2 h1, wkM_o h2 h1]
theorem wkM_fh {I : MI} {g gp ln fh fh' : Nat} {ws : List Nat} (hg : g ≠ gp) : stI (wkM I g gp ln fh ws) g 2 (nI fh') = wkM I g gp ln fh' ws := by
  funext u
  by_cases h2 : u = g
  · subst h2
    unfold stI
    rw [va_up_self, wkM_g hg, wkM_g hg, bx_uu]
  · have e : stI (wkM I g gp ln fh ws) g 2 (nI fh') u = wkM I g gp ln fh ws u := funext fun v => stI_ne (fun z => h2 z.1)
    rw [e]
    by_cases h1 : u = gp
    · rw [h1, wkM_p, wkM_p]
    · rw [wkM_o h2 h1, wkM_o h2 h1]
theorem wkM_0 {I : MI} {g gp : Nat} (hg : g ≠ gp) : stI (stI I g 0 (nI 0)) g 2 (nI 0) = wkM I g gp 0 0 [] := by
  unfold wkM stI
  rw [wsA_nil, va_up_self, bx_uu, up_comm _ hg, up_id]
section B21
variable {l : Launch} {I : MI} {L : ML} {R : MR} {p q g gp : Nat}
theorem ok_seek {c x lim : Nat} {TI : MI} (hR : RS R) (kW : KP 287 p (6, g, 0, 0, 0)) (rW : R p 0 = some q ∧ q < 1000) (kWp : KP 287 q (9, gp, 0, 0, 5)) (hg : g ≠ gp) (hg0 : 0 ≠ g) (hgp0 : 0 ≠ gp) (hc : c < 5) (hx : x < 1000) (hlim : lim ≤ 4) (hm : IM (I 0)) (hi : ∀ c, c < 5 → IS (I 0) c) (hd : ∀ c, c < 5 → ID (I 0) c)
    (hTI : wkF I g gp (skW (I 0) (L 0) c x lim) (skM (I 0) (L 0) c x lim) = TI) : Ok l yX6_seek cX6_seek 9 none 4 0 0 [.ref p, .ref (pb 0), .int (nI c), .int (nI x), .int (nI lim)] I L R 287 (eqP (none) TI L R 287) := by
  have h05 : (0 : Nat) < 5 := by decide
  have hhas : ∀ (J : MI) (a : Nat), a < 5 → J 0 = I 0 → Ok l yX0_has cX0_has 2 (some .boolean) 1 0 0 [.ref (pq 0 a), .int (nI x)] J L R 287 (eqP (some (.int (if hl (I 0) x a then nI 1 else nI 0))) J L R 287) := by
    intro J a ha hJ
    obtain ⟨i1, i2, i3, i4⟩ := hi a ha
    have := ok_has (l := l) (I := J) (L := L) (x := x) (sz := gS (I 0) a) hR h05 ha (by rw [hJ]; exact i1) i2 (by rw [hJ]; exact i4)
    rw [hJ] at this
    exact this
  refine Ok.ofV [some (.ref p), some (.ref (pb 0)), some (.int (nI c)), some (.int (nI x)), some (.int (nI lim)), none, none, none, none] rfl (by decide) (Nat.le_of_ble_eq_true rfl) ?_
  have ex : ∀ (ws : List Nat) (a fh : Nat) (hp : Int32) (w : Option Value), (∀ w ∈ ws, w < 5) → ws.length ≤ 5 → a < 5 → skW (I 0) (L 0) c x lim = (ws, (if hl (I 0) x a then a else 5), fh) → V l yX6_seek cX6_seek 9 none (rmd 4 0 0) (QM 0 0 (eqP (none) TI L R 287)) (fun _ _ => True) 113 [some (.ref p), some (.ref (pb 0)), some (.int (nI c)), some (.int (nI x)), some (.int (nI lim)), some (.int (nI a)), some (.int (if hl (I 0) x a then nI 1 else nI 0)), some (.int hp), w] [] (wkM I g gp ws.length fh ws) L R 287 0 0 := by
    intro ws a fh hp w hws hl5 ha hsk
    have fin : ∀ (sv fm : Nat), sv = (if hl (I 0) x a then a else 5) → fm = skM (I 0) (L 0) c x lim → stI (stI (wkM I g gp ws.length fh ws) g 1 (nI sv)) g 3 (nI fm) = TI := by
      intro sv fm h1 h2
      rw [← hTI, hsk, ← h2, ← h1]
      funext u
      by_cases hu : u = g
      · subst hu
        unfold stI wkF wkN
        rw [va_up_self, va_up_self, wkM_g hg, va_up_ne _ _ hg, va_up_self]
      · have e : stI (stI (wkM I g gp ws.length fh ws) g 1 (nI sv)) g 3 (nI fm) u = wkM I g gp ws.length fh ws u := funext fun v => by rw [stI_ne (fun z => hu z.1), stI_ne (fun z => hu z.1)]
        rw [e]
        unfold wkF
        by_cases hu2 : u = gp
        · rw [hu2, wkM_p, va_up_self]
        · rw [wkM_o hu hu2, va_up_ne _ _ hu2, va_up_ne _ _ hu]
    refine v_aload_n (pc' := 114) dX6_seek_113 rfl rfl ?_
    refine v_iload (pc' := 116) dX6_seek_114 rfl rfl ?_
    refine v_if_eq (pc' := 119) (tgt := 124) dX6_seek_116 rfl (by decide) (fun hb => ?_) (fun hb => ?_)
    · have hb := ite01.mp hb
      refine v_iconst (v := nI 5) (pc' := 125) dX6_seek_124 rfl (by decide) ?_
      refine v_pI (o := 1) (pc' := 128) dX6_seek_125 rfl gf_X6_19 pf_X6_19 kW rfl rfl (Or.inl rfl) rfl rfl ?_
      refine v_aload_n (pc' := 129) dX6_seek_128 rfl rfl ?_
      refine v_iload (pc' := 131) dX6_seek_129 rfl rfl ?_
      refine v_if_ne (pc' := 134) (tgt := 147) dX6_seek_131 rfl (by decide) (fun hq => ?_) (fun hq => ?_)
      · exact absurd (by rw [if_neg hb]; rfl) hq
      · have eJ : ∀ u, u ≠ g → stI (wkM I g gp ws.length fh ws) g 1 (nI 5) u = wkM I g gp ws.length fh ws u := fun u hu => funext fun v => stI_ne (fun z => hu z.1)
        have e0 : stI (wkM I g gp ws.length fh ws) g 1 (nI 5) 0 = I 0 := by rw [eJ 0 hg0, wkM_o hg0 hgp0]
        refine v_aload_n (pc' := 135) dX6_seek_134 rfl rfl ?_
        refine v_aload_n (pc' := 136) dX6_seek_135 rfl rfl ?_
        refine v_iload_n (pc' := 137) dX6_seek_136 rfl rfl ?_
        refine v_cV2i (pc' := 140) dX6_seek_137 rfl cv_X6_48 kW (Nat.le_of_ble_eq_true rfl) rfl (ok_isHeldElsewhere (ws := ws) hR kW rW kWp (by rw [stI_ne (by omega), wkM_g hg, va_up_ne _ _ (by decide), va_up_self]) hl5 hws (fun i hi => by rw [eJ gp (Ne.symm hg), wkM_p]; exact if_pos hi) (fun d hd => by rw [e0]; exact hi d hd)) ?_
        refine v_if_eq (pc' := 143) (tgt := 147) dX6_seek_140 rfl (by decide) (fun hr => ?_) (fun hr => ?_)
        · have hr := ite01.mp hr
          rw [e0] at hr
          refine v_iconst (v := nI 0) (pc' := 148) dX6_seek_147 rfl (by decide) ?_
          refine v_pI (o := 3) (pc' := 151) dX6_seek_148 rfl gf_X6_25 pf_X6_25 kW rfl rfl (Or.inl rfl) rfl rfl ?_
          exact v_vret dX6_seek_151 rfl (Nat.le_refl _) (Nat.le_refl _) ⟨rfl, fin 5 0 (by rw [if_neg hb]) (by unfold skM; rw [if_neg]; rw [hsk]; exact fun z => hr z.2), rfl, rfl, rfl⟩
        · have hr := Classical.not_not.mp (fun z => hr (ite01.mpr z))
          rw [e0] at hr
          refine v_iconst (v := nI 1) (pc' := 144) dX6_seek_143 rfl (by decide) ?_
          refine v_goto (tgt := 148) dX6_seek_144 (by decide) ?_
          refine v_pI (o := 3) (pc' := 151) dX6_seek_148 rfl gf_X6_25 pf_X6_25 kW rfl rfl (Or.inl rfl) rfl rfl ?_
          exact v_vret dX6_seek_151 rfl (Nat.le_refl _) (Nat.le_refl _) ⟨rfl, fin 5 1 (by rw [if_neg hb]) (by unfold skM; rw [if_pos]; rw [hsk]; exact ⟨if_neg hb, hr⟩), rfl, rfl, rfl⟩
    · have hb := Classical.not_not.mp (fun z => hb (ite01.mpr z))
      refine v_iload (pc' := 121) dX6_seek_119 rfl rfl ?_
      refine v_goto (tgt := 125) dX6_seek_121 (by decide) ?_
      refine v_pI (o := 1) (pc' := 128) dX6_seek_125 rfl gf_X6_19 pf_X6_19 kW rfl rfl (Or.inl rfl) rfl rfl ?_
      refine v_aload_n (pc' := 129) dX6_seek_128 rfl rfl ?_
      refine v_iload (pc' := 131) dX6_seek_129 rfl rfl ?_
      refine v_if_ne (pc' := 134) (tgt := 147) dX6_seek_131 rfl (by decide) (fun hq => ?_) (fun hq => ?_)
      · refine v_iconst (v := nI 0) (pc' := 148) dX6_seek_147 rfl (by decide) ?_
        refine v_pI (o := 3) (pc' := 151) dX6_seek_148 rfl gf_X6_25 pf_X6_25 kW rfl rfl (Or.inl rfl) rfl rfl ?_
        exact v_vret dX6_seek_151 rfl (Nat.le_refl _) (Nat.le_refl _) ⟨rfl, fin a 0 (by rw [if_pos hb]) (by unfold skM; rw [if_neg]; rw [hsk]; intro z; have z1 := z.1; simp only [if_pos hb] at z1; omega), rfl, rfl, rfl⟩
      · exact absurd hq (by rw [if_pos hb]; decide)
  have loop : ∀ (n : Nat) (ws : List Nat) (a fh : Nat) (w : Option Value), lim + 1 = n + ws.length → (∀ w ∈ ws, w < 5) → ws.length ≤ 5 → 1 ≤ ws.length → a < 5 → skW (I 0) (L 0) c x lim = sk (I 0) (L 0) x lim (n + 1) ws a fh → V l yX6_seek cX6_seek 9 none (rmd 4 0 0) (QM 0 0 (eqP (none) TI L R 287)) (fun _ _ => True) 34 [some (.ref p), some (.ref (pb 0)), some (.int (nI c)), some (.int (nI x)), some (.int (nI lim)), some (.int (nI a)), some (.int (if hl (I 0) x a then nI 1 else nI 0)), some (.int (nI (ws.length - 1))), w] [] (wkM I g gp ws.length fh ws) L R 287 0 0 := by
    intro n
    induction n with
    | zero =>
      intro ws a fh w hn hws hl5 hl1 ha hsk
      have hsk2 : skW (I 0) (L 0) c x lim = (ws, (if hl (I 0) x a then a else 5), fh) := by
        rw [hsk]
        unfold sk
        by_cases hh : hl (I 0) x a
        · rw [if_pos hh, if_pos hh]
        · rw [if_neg hh, if_neg hh, if_neg (by omega)]
      refine v_iload (pc' := 36) dX6_seek_34 rfl rfl ?_
      refine v_iload (pc' := 38) dX6_seek_36 rfl rfl ?_
      refine v_icmp_ge (pc' := 41) (tgt := 113) dX6_seek_38 rfl (by decide) (fun hb => ?_) (fun hb => ?_)
      · exact ex ws a fh _ w hws hl5 ha hsk2
      · exact absurd (nI_le (by omega) (by omega)) hb
    | succ n ih =>
      intro ws a fh w hn hws hl5 hl1 ha hsk
      refine v_iload (pc' := 36) dX6_seek_34 rfl rfl ?_
      refine v_iload (pc' := 38) dX6_seek_36 rfl rfl ?_
      refine v_icmp_ge (pc' := 41) (tgt := 113) dX6_seek_38 rfl (by decide) (fun hb => ?_) (fun hb => ?_)
      · exact absurd hb (nI_ge (by omega) (by omega))
      · refine v_iload (pc' := 43) dX6_seek_41 rfl rfl ?_
        refine v_if_ne (pc' := 46) (tgt := 113) dX6_seek_43 rfl (by decide) (fun hq => ?_) (fun hq => ?_)
        · have hq := Classical.not_not.mp (fun z => hq (ite01.mpr z))
          refine ex ws a fh _ w hws hl5 ha ?_
          rw [hsk]
          unfold sk
          rw [if_pos hq, if_pos hq]
        · have hq := ite01.mp hq
          generalize hJ : wkM I g gp ws.length fh ws = J
          have e0 : J 0 = I 0 := by rw [← hJ, wkM_o hg0 hgp0]
          have eg : J g 0 = nI ws.length := by rw [← hJ, wkM_g hg, va_up_ne _ _ (by decide), va_up_self]
          have ep : ∀ i, i < ws.length → J gp i = nI (ws.getD i 0) := fun i hi => by rw [← hJ, wkM_p]; exact if_pos hi
          refine v_aload_n (pc' := 47) dX6_seek_46 rfl rfl ?_
          refine v_aload_n (pc' := 48) dX6_seek_47 rfl rfl ?_
          refine v_iload (pc' := 50) dX6_seek_48 rfl rfl ?_
          refine v_iload_n (pc' := 51) dX6_seek_50 rfl rfl ?_
          refine v_cV3i (pc' := 54) dX6_seek_51 rfl cv_X6_44 kW (Nat.le_of_ble_eq_true rfl) rfl (ok_nextPlace (ws := ws) hR kW rW kWp eg hl5 hws ep ha hx (by rw [e0]; exact hm) (by rw [e0]; exact hd a ha)) ?_
          refine v_istore8 (pc' := 56) dX6_seek_54 rfl (by decide) rfl ?_
          refine v_iload (pc' := 58) dX6_seek_56 rfl rfl ?_
          refine v_iconst (v := -1) (pc' := 59) dX6_seek_58 rfl (by decide) ?_
          refine v_icmp_ne (pc' := 62) (tgt := 65) dX6_seek_59 rfl (by decide) (fun hz => ?_) (fun hz => ?_)
          · rw [e0] at hz ⊢
            cases hnx : nx (I 0) (L 0) ws a x 5 with
            | none => exact absurd (by rw [hnx]; rfl) hz
            | some b =>
              have hto : b < 5 := (nx_lt hnx).1
              have hlen : (ws ++ [b]).length = ws.length + 1 := by simp
              have eJ2 : stI (stI J gp ws.length (nI b)) g 0 (nI (ws.length + 1)) = wkM I g gp (ws.length + 1) fh (ws ++ [b]) := by rw [← hJ]; exact wkM_enter hg rfl
              show V l yX6_seek cX6_seek 9 none (rmd 4 0 0) (QM 0 0 (eqP (none) TI L R 287)) (fun _ _ => True) 65 [some (.ref p), some (.ref (pb 0)), some (.int (nI c)), some (.int (nI x)), some (.int (nI lim)), some (.int (nI a)), some (.int (if hl (I 0) x a then nI 1 else nI 0)), some (.int (nI (ws.length - 1))), some (.int (nI b))] [] J L R 287 0 0
              refine v_aload_n (pc' := 66) dX6_seek_65 rfl rfl ?_
              refine v_iload (pc' := 68) dX6_seek_66 rfl rfl ?_
              refine v_cV1v (pc' := 71) dX6_seek_68 rfl cv_X6_28 kW (Nat.le_of_ble_eq_true rfl) rfl (ok_enter kW rW kWp hg eg (by omega)) ?_
              refine v_iload (pc' := 73) dX6_seek_71 rfl rfl ?_
              refine v_istore5 (pc' := 75) dX6_seek_73 rfl (by decide) rfl ?_
              rw [eJ2]
              have t103 : ∀ v : Nat, v = (if hl (I 0) x b then 0 else 1) → V l yX6_seek cX6_seek 9 none (rmd 4 0 0) (QM 0 0 (eqP (none) TI L R 287)) (fun _ _ => True) 103 [some (.ref p), some (.ref (pb 0)), some (.int (nI c)), some (.int (nI x)), some (.int (nI lim)), some (.int (nI b)), some (.int (if hl (I 0) x b then nI 1 else nI 0)), some (.int (nI (ws.length - 1))), some (.int (nI b))] [.int (nI v), .int (nI fh), .ref p] (wkM I g gp (ws.length + 1) fh (ws ++ [b])) L R 287 0 0 := by
                intro v hv
                refine v_iadd (pc' := 104) dX6_seek_103 rfl ?_
                rw [nI_add]
                refine v_pI (o := 2) (pc' := 107) dX6_seek_104 rfl gf_X6_22 pf_X6_22 kW rfl rfl (Or.inl rfl) rfl rfl ?_
                refine v_iinc7 (pc' := 110) dX6_seek_107 rfl (by decide) rfl (inc_nI _) ?_
                refine v_goto (tgt := 34) dX6_seek_110 (by decide) ?_
                rw [wkM_fh hg]
                have hh : fh + v = (if hl (I 0) x b then fh else fh + 1) := by
                  rw [hv]
                  split <;> rfl
                have := ih (ws ++ [b]) b (fh + v) (some (.int (nI b))) (by omega) (fun w hw => by
                    rcases List.mem_append.mp hw with h | h
                    · exact hws w h
                    · rw [List.mem_singleton.mp h]; exact hto) (by omega) (by omega) hto (by
                    rw [hsk, hh]
                    conv => lhs; unfold sk
                    rw [if_neg hq, if_pos (by omega), hnx])
                rw [hlen, show ws.length + 1 - 1 = ws.length - 1 + 1 by omega] at this
                exact this
              refine v_aload_n (pc' := 76) dX6_seek_75 rfl rfl ?_
              refine v_getQ (pc' := 79) dX6_seek_76 rfl gf_X6_32 (kp_T h05) rfl (rf_T_caches hR h05) ?_
              refine v_iload (pc' := 81) dX6_seek_79 rfl rfl ?_
              refine v_aaloadQ (pc' := 82) dX6_seek_81 rfl (kp_CA h05) rfl hto (rf_CA hR h05 hto) ?_
              refine v_iload_n (pc' := 83) dX6_seek_82 rfl rfl ?_
              refine v_cV1i (pc' := 86) dX6_seek_83 rfl cv_X6_38 (kp_C h05 hto) (Nat.le_of_ble_eq_true rfl) rfl (hhas _ b hto (wkM_o hg0 hgp0)) ?_
              refine v_istore6 (pc' := 88) dX6_seek_86 rfl (by decide) rfl ?_
              refine v_aload_n (pc' := 89) dX6_seek_88 rfl rfl ?_
              refine v_dup (pc' := 90) dX6_seek_89 rfl rfl ?_
              refine v_gI (o := 2) (pc' := 93) dX6_seek_90 rfl gf_X6_22 kW rfl rfl ?_
              rw [wkM_g hg, va_up_self]
              refine v_iload (pc' := 95) dX6_seek_93 rfl rfl ?_
              refine v_if_eq (pc' := 98) (tgt := 102) dX6_seek_95 rfl (by decide) (fun hy => ?_) (fun hy => ?_)
              · have hy := ite01.mp hy
                refine v_iconst (v := nI 1) (pc' := 103) dX6_seek_102 rfl (by decide) ?_
                exact t103 1 (by rw [if_neg hy])
              · have hy := Classical.not_not.mp (fun z => hy (ite01.mpr z))
                refine v_iconst (v := nI 0) (pc' := 99) dX6_seek_98 rfl (by decide) ?_
                refine v_goto (tgt := 103) dX6_seek_99 (by decide) ?_
                exact t103 0 (by rw [if_pos hy])
          · rw [e0] at hz
            have hnx : nx (I 0) (L 0) ws a x 5 = none := (oIx_m1 (n := 5) (fun k hk => (nx_lt hk).1) (by decide)).mp hz
            refine v_goto (tgt := 113) dX6_seek_62 (by decide) ?_
            rw [← hJ]
            refine ex ws a fh _ _ hws hl5 ha ?_
            rw [hsk]
            unfold sk
            rw [if_neg hq, if_pos (by omega), hnx, if_neg hq]
  have e1 : stI (stI (stI (stI I g 0 (nI 0)) g 2 (nI 0)) gp 0 (nI c)) g 0 (nI (0 + 1)) = wkM I g gp 1 0 [c] := by
    rw [wkM_0 hg]
    exact wkM_enter hg rfl
  refine v_aload_n (pc' := 1) dX6_seek_0 rfl rfl ?_
  refine v_iconst (v := nI 0) (pc' := 2) dX6_seek_1 rfl (by decide) ?_
  refine v_pI (o := 0) (pc' := 5) dX6_seek_2 rfl gf_X6_15 pf_X6_15 kW rfl rfl (Or.inl rfl) rfl rfl ?_
  refine v_aload_n (pc' := 6) dX6_seek_5 rfl rfl ?_
  refine v_iconst (v := nI 0) (pc' := 7) dX6_seek_6 rfl (by decide) ?_
  refine v_pI (o := 2) (pc' := 10) dX6_seek_7 rfl gf_X6_22 pf_X6_22 kW rfl rfl (Or.inl rfl) rfl rfl ?_
  refine v_aload_n (pc' := 11) dX6_seek_10 rfl rfl ?_
  refine v_iload_n (pc' := 12) dX6_seek_11 rfl rfl ?_
  refine v_cV1v (pc' := 15) dX6_seek_12 rfl cv_X6_28 kW (Nat.le_of_ble_eq_true rfl) rfl (ok_enter (ln := 0) kW rW kWp hg (by rw [stI_ne (by omega), stI_self]) (by decide)) ?_
  refine v_iload_n (pc' := 16) dX6_seek_15 rfl rfl ?_
  refine v_istore5 (pc' := 18) dX6_seek_16 rfl (by decide) rfl ?_
  rw [e1]
  refine v_aload_n (pc' := 19) dX6_seek_18 rfl rfl ?_
  refine v_getQ (pc' := 22) dX6_seek_19 rfl gf_X6_32 (kp_T h05) rfl (rf_T_caches hR h05) ?_
  refine v_iload (pc' := 24) dX6_seek_22 rfl rfl ?_
  refine v_aaloadQ (pc' := 25) dX6_seek_24 rfl (kp_CA h05) rfl hc (rf_CA hR h05 hc) ?_
  refine v_iload_n (pc' := 26) dX6_seek_25 rfl rfl ?_
  refine v_cV1i (pc' := 29) dX6_seek_26 rfl cv_X6_38 (kp_C h05 hc) (Nat.le_of_ble_eq_true rfl) rfl (hhas _ c hc (wkM_o hg0 hgp0)) ?_
  refine v_istore6 (pc' := 31) dX6_seek_29 rfl (by decide) rfl ?_
  refine v_iconst (v := nI 0) (pc' := 32) dX6_seek_31 rfl (by decide) ?_
  refine v_istore7 (pc' := 34) dX6_seek_32 rfl (by decide) rfl ?_
  exact loop lim [c] c 0 none (by simp) (fun w hw => by rw [List.mem_singleton.mp hw]; exact hc) (by simp) (by simp) hc rfl
end B21
