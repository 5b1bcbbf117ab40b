/-! ===== the model reads requests ===== -/
def FQ (cd : Nat → Nat) (n : Nat) (k0 : Int32 × MI) (real : Bool) (m : Msk) (q0 : QS) (Z : PS × Option Nat) (p0 : Nat) (b : Bool) (TI : MI) (q : Nat) (s' : PS) (t : QS) : Prop :=
  MX cd n k0 TI q t.2.1 t.2.2 ∧ q ≤ n ∧ Inv t.1 ∧ (real = false → t = q0) ∧ (b = false → aPar Z n = nI q ∧ (q < n → cd q ≠ 32)) ∧ (b = true → (s'.1 = 3 ∨ s'.1 = 4) ∧ Z = pRun cd (n - q) q s' ∧ (q < n → cd q ≠ 32 ∧ cd q ≠ 44 ∧ ¬ (s'.1 = 3 ∧ 48 ≤ cd q ∧ cd q ≤ 57)) ∧ p0 < q ∧ t = exq real m s'.2.2.2 q0)
theorem FQ_lo {cd : Nat → Nat} {n : Nat} {k0 : Int32 × MI} {real : Bool} {m : Msk} {q0 : QS} {Z : PS × Option Nat} {p0 p1 : Nat} {b : Bool} {TI : MI} {q : Nat} {s' : PS} {t : QS} (hp : p0 ≤ p1) (h : FQ cd n k0 real m q0 Z p1 b TI q s' t) : FQ cd n k0 real m q0 Z p0 b TI q s' t := by
  obtain ⟨a1, a2, a3, a4, a5, a6⟩ := h
  refine ⟨a1, a2, a3, a4, a5, fun hb => ?_⟩
  obtain ⟨b1, b2, b3, b4, b5⟩ := a6 hb
  exact ⟨b1, b2, b3, by omega, b5⟩
section B41
variable {l : Launch} {I : MI} {L : ML} {R : MR} {r X : Row} {m Y : Msk} {cd : Nat → Nat} {n : Nat} {k0 : Int32 × MI} {real : Bool} {q0 : QS} {Z : PS × Option Nat}
theorem exq_push {lst : List (Nat × Nat)} {q : Nat × Nat} : exq real m (lst ++ [q]) q0 = if real = true then rq1 m q (exq real m lst q0) else q0 := by
  unfold exq
  cases real
  · rfl
  · exact rqF_push
theorem m_numbers (hR : RS R) (hn : n ≤ 100) (hcd : ∀ i, i < n → cd i < 256) {c : Nat} (hc : c < 5) : ∀ (g p : Nat) (I : MI) (s : PS) (t0 : QS) (v4 : Option Value), p + g = n → p < n → s.1 = 2 → s.2.1 = some c → Z = pRun cd (n - (p + 1)) (p + 1) s → t0 = exq real m s.2.2.2 q0 → Inv t0.1 → MX cd n k0 I p t0.2.1 t0.2.2 → ∃ (b : Bool) (TI : MI) (q : Nat) (s' : PS) (t : QS), FQ cd n k0 real m q0 Z p b TI q s' t ∧ V l yX8_readsOne cX8_readsOne 5 (some .boolean) (rmd 6 0 0) (QM 0 0 (eqP (some (.int (if b = true then nI 1 else nI 0))) (mm TI t.1 X) (mL L m Y) R 287)) (fun _ _ => True) 40 [some (.ref 278), some (.int (if real = true then nI 1 else nI 0)), some (.int (nI c)), some (.int (nI 1)), v4] [] (mm I t0.1 X) (mL L m Y) R 287 0 0 := by
  -- Ok l yX8_readsOne cX8_readsOne 5 (some .boolean) 6 0 0 [.ref 278, .int 0] I L R 287 (eqP (none) I L R 287)
  intro g
  induction g using Nat.strongRecOn with
  | ind g ih =>
    intro p I s t0 v4 hpg hpn hs2 hsc hZ ht0 hI0 hX
    have hX1 := MX_at (q := p + 1) hX
    generalize hp1 : p + 1 + ns cd (n - (p + 1)) (p + 1) = p1
    generalize hd : nd cd (n - (p + 1) - ns cd (n - (p + 1)) (p + 1)) p1 = d
    have hnum := m_number (l := l) (r := t0.1) (X := X) (L := mL L m Y) hR hn hcd (show p + 1 + (n - (p + 1)) = n by omega) hX1 hp1 hd
    rw [stI_stI] at hnum
    have hns := ns_le (cd := cd) (n - (p + 1)) (p + 1)
    have hndl := nd_le (cd := cd) (n - (p + 1) - ns cd (n - (p + 1)) (p + 1)) p1
    rw [hd] at hndl
    have e5 : mm I t0.1 X 21 5 = nI p := by rw [mm_o (by decide)]; exact hX.2.2.2.2.1
    have hZ1 : Z = pRun cd (n - (p + 1) - ns cd (n - (p + 1)) (p + 1)) p1 s := by rw [hZ, pRun_ns _ _ s (by omega), hp1]
    have hkk : n - (p + 1) - ns cd (n - (p + 1)) (p + 1) = n - p1 := by omega
    rw [hkk] at hZ1 hd hndl
    have hsp : 0 < n - p1 → cd p1 ≠ 32 := fun z => by
      rw [← hp1]
      exact ns_stop (cd := cd) _ _ (by omega)
    by_cases hbad : d = 0 ∨ 3 < d
    · rw [if_pos hbad, if_pos hbad] at hnum
      refine ⟨false, stI I 21 5 (nI p1), p1, s, t0, ⟨MX_at hX, by omega, hI0, fun hr => ?_, fun _ => ⟨?_, fun z => hsp (by omega)⟩, fun z => by cases z⟩, ?_⟩
      · rw [ht0]
        unfold exq
        rw [hr]
        rfl
      · rcases hbad with h0 | h3
        · rw [hZ1]
          exact flt2 (by omega) hs2 hsp (by rw [hd]; exact h0)
        · obtain ⟨nx, oc, ok, rq⟩ := s
          simp only at hs2 hsc
          subst hs2
          obtain ⟨t, ht⟩ := pRun_dgF (cd := cd) (k := n - p1) (p := p1) (ok := ok) (rq := rq) hsc (by rw [hd]; exact h3)
          rw [hZ1, ht]
          rfl
      · refine v_iload_n (pc' := 41) dX8_readsOne_40 rfl rfl ?_
        refine v_if_eq (pc' := 44) (tgt := 120) dX8_readsOne_41 rfl (by decide) (fun hb => ?_) (fun hb => ?_)
        · exact absurd hb (by decide)
        · refine v_aload_n (pc' := 45) dX8_readsOne_44 rfl rfl ?_
          refine v_dup (pc' := 46) dX8_readsOne_45 rfl rfl ?_
          refine v_gI (o := 5) (pc' := 49) dX8_readsOne_46 rfl gf_X8_151 kp_M rfl rfl ?_
          refine v_iconst (v := nI 1) (pc' := 50) dX8_readsOne_49 rfl (by decide) ?_
          refine v_iadd (pc' := 51) dX8_readsOne_50 rfl ?_
          rw [e5, nI_add]
          refine v_pI (o := 5) (pc' := 54) dX8_readsOne_51 rfl gf_X8_151 pf_X8_151 kp_M rfl rfl (Or.inl rfl) rfl rfl ?_
          rw [mm_st2 (by decide)]
          refine v_aload_n (pc' := 55) dX8_readsOne_54 rfl rfl ?_
          refine v_cV0i (pc' := 58) dX8_readsOne_55 rfl cv_X8_158 kp_M (Nat.le_of_ble_eq_true rfl) rfl (hnum) ?_
          refine v_istore4 (pc' := 60) dX8_readsOne_58 rfl (by decide) rfl ?_
          refine v_iload (pc' := 62) dX8_readsOne_60 rfl rfl ?_
          refine v_if_ge (pc' := 65) (tgt := 67) dX8_readsOne_62 rfl (by decide) (fun hq => ?_) (fun hq => ?_)
          · exact absurd hq (by decide)
          · refine v_iconst (v := nI 0) (pc' := 66) dX8_readsOne_65 rfl (by decide) ?_
            exact v_zret dX8_readsOne_66 rfl rfl (Nat.le_refl _) (Nat.le_refl _) ⟨rfl, rfl, rfl, rfl, rfl⟩
    · rw [if_neg hbad, if_neg hbad] at hnum
      have hx : dv cd p1 d < 1000 := by
        have h1 := dv_lt (cd := cd) (p := p1) d (fun i hi => nd_in (cd := cd) (n - p1) p1 i (by omega))
        have h2 : min d 4 ≤ 3 := by omega
        have h3 : 10 ^ min d 4 ≤ 10 ^ 3 := Nat.pow_le_pow_right (by decide) h2
        omega
      generalize hxv : dv cd p1 d = x at hnum hx
      have hZ3 : Z = pRun cd (n - (p1 + d)) (p1 + d) (3, s.2.1, some p1, s.2.2.2 ++ [(c, x)]) := by
        obtain ⟨nx, oc, ok, rq⟩ := s
        simp only at hs2 hsc
        subst hs2
        rw [hZ1, pRun_dg hsc d (by omega) (by omega) (by omega), hxv, show n - p1 - d = n - (p1 + d) by omega]
      -- the state of the requests then
      generalize ht1 : (if real = true then rq1 m (c, x) t0 else t0) = t1
      have ht1e : t1 = exq real m (s.2.2.2 ++ [(c, x)]) q0 := by
        rw [exq_push, ← ht1, ← ht0]
        cases real
        · rw [ht0]
          rfl
        · rfl
      have hI1 : Inv t1.1 := by
        rw [← ht1]
        split
        · exact rReq_Inv hI0 hc hx
        · exact hI0
      have hgq : gQ t0.1 ≤ 4 ∧ t0.1 5 = nI (gQ t0.1) := by
        obtain ⟨i1, i2, i3, i4, q, iq1, iq2⟩ := hI0
        have : gQ t0.1 = q := nn_at iq2 (by omega)
        rw [this]
        exact ⟨iq1, iq2⟩
      generalize hq1 : p1 + d + ns cd (n - (p1 + d)) (p1 + d) = q1
      generalize hs4 : (if ns cd (n - (p1 + d)) (p1 + d) = 0 then ((3 : Nat), s.2.1, some p1, s.2.2.2 ++ [(c, x)]) else (4, s.2.1, some p1, s.2.2.2 ++ [(c, x)])) = s4
      have hns3 := ns_le (cd := cd) (n - (p1 + d)) (p1 + d)
      have hZ4 : Z = pRun cd (n - q1) q1 s4 := by
        rw [hZ3, pRun_ns3 rfl, hq1, ← hs4, show n - (p1 + d) - ns cd (n - (p1 + d)) (p1 + d) = n - q1 by omega]
      have h4s : s4.1 = 3 ∨ s4.1 = 4 := by
        rw [← hs4]
        split
        · exact Or.inl rfl
        · exact Or.inr rfl
      have h4r : s4.2.2.2 = s.2.2.2 ++ [(c, x)] := by
        rw [← hs4]
        split <;> rfl
      have h4c : s4.2.1 = some c := by
        rw [← hs4]
        split <;> exact hsc
      have hsp4 : q1 < n → cd q1 ≠ 32 := fun z => by
        rw [← hq1]
        exact ns_stop (cd := cd) _ _ (by omega)
      have hdg4 : q1 < n → ¬ (s4.1 = 3 ∧ 48 ≤ cd q1 ∧ cd q1 ≤ 57) := by
        intro z w
        have h0 : ns cd (n - (p1 + d)) (p1 + d) = 0 := by
          by_cases hc0 : ns cd (n - (p1 + d)) (p1 + d) = 0
          · exact hc0
          · rw [← hs4, if_neg hc0] at w
            exact absurd w.1 (by show ¬ (4 : Nat) = 3; omega)
        have := nd_stop (cd := cd) (n - p1) p1 (by omega)
        rw [hd] at this
        rw [← hq1, h0] at w
        exact this w.2
      have hlast : ∀ (J : MI) (w4 : Option Value), MX cd n k0 J (p1 + d) t1.2.1 t1.2.2 → ∃ (b : Bool) (TI : MI) (q : Nat) (s' : PS) (t : QS), FQ cd n k0 real m q0 Z p b TI q s' t ∧ V l yX8_readsOne cX8_readsOne 5 (some .boolean) (rmd 6 0 0) (QM 0 0 (eqP (some (.int (if b = true then nI 1 else nI 0))) (mm TI t.1 X) (mL L m Y) R 287)) (fun _ _ => True) 102 [some (.ref 278), some (.int (if real = true then nI 1 else nI 0)), some (.int (nI c)), some (.int (nI 1)), w4] [] (mm J t1.1 X) (mL L m Y) R 287 0 0 := by
        intro J w4 hJ
        have hh := m_here (l := l) (r := t1.1) (X := X) (L := mL L m Y) hR hn hcd (show p1 + d + (n - (p1 + d)) = n by omega) hJ
        rw [hq1] at hh
        have hJ2 := MX_at (q := q1) hJ
        by_cases h44 : q1 < n ∧ cd q1 = 44
        · rw [if_pos (by omega), h44.2] at hh
          have hZ5 : Z = pRun cd (n - (q1 + 1)) (q1 + 1) (2, s4.2) := by
            obtain ⟨k', hk'⟩ : ∃ k', n - q1 = k' + 1 := ⟨n - q1 - 1, by omega⟩
            rw [hZ4, hk', stM h4s h44.2, show n - (q1 + 1) = k' by omega]
          obtain ⟨b, TI, q, s', t, hF, hV⟩ := ih (n - q1) (by omega) q1 (stI J 21 5 (nI q1)) (2, s4.2) t1 w4 (by omega) h44.1 rfl h4c hZ5 (by rw [ht1e]; show _ = exq real m s4.2.2.2 q0; rw [h4r]) hI1 hJ2
          refine ⟨b, TI, q, s', t, FQ_lo (by omega) hF, ?_⟩
          refine v_aload_n (pc' := 103) dX8_readsOne_102 rfl rfl ?_
          refine v_cV0i (pc' := 106) dX8_readsOne_103 rfl cv_X8_154 kp_M (Nat.le_of_ble_eq_true rfl) rfl (hh) ?_
          refine v_bipush (v := nI 44) (pc' := 108) dX8_readsOne_106 rfl (by decide) ?_
          refine v_icmp_ne (pc' := 111) (tgt := 115) dX8_readsOne_108 rfl (by decide) (fun hq => ?_) (fun hq => ?_)
          · exact absurd rfl hq
          · refine v_iconst (v := nI 1) (pc' := 112) dX8_readsOne_111 rfl (by decide) ?_
            refine v_goto (tgt := 116) dX8_readsOne_112 (by decide) ?_
            refine v_istore_n3 (pc' := 117) dX8_readsOne_116 rfl (by decide) rfl ?_
            refine v_goto (tgt := 40) dX8_readsOne_117 (by decide) ?_
            exact hV
        · refine ⟨true, stI J 21 5 (nI q1), q1, s4, t1, ⟨hJ2, by omega, hI1, fun hr => ?_, (fun z => by cases z), fun _ => ⟨h4s, hZ4, fun z => ⟨hsp4 z, fun w => h44 ⟨z, w⟩, hdg4 z⟩, by omega, by rw [h4r]; exact ht1e⟩⟩, ?_⟩
          · rw [ht1e]
            unfold exq
            rw [hr]
            rfl
          · refine v_aload_n (pc' := 103) dX8_readsOne_102 rfl rfl ?_
            refine v_cV0i (pc' := 106) dX8_readsOne_103 rfl cv_X8_154 kp_M (Nat.le_of_ble_eq_true rfl) rfl (hh) ?_
            refine v_bipush (v := nI 44) (pc' := 108) dX8_readsOne_106 rfl (by decide) ?_
            refine v_icmp_ne (pc' := 111) (tgt := 115) dX8_readsOne_108 rfl (by decide) (fun hq => ?_) (fun hq => ?_)
            · refine v_iconst (v := nI 0) (pc' := 116) dX8_readsOne_115 rfl (by decide) ?_
              refine v_istore_n3 (pc' := 117) dX8_readsOne_116 rfl (by decide) rfl ?_
              refine v_goto (tgt := 40) dX8_readsOne_117 (by decide) ?_
              refine v_iload_n (pc' := 41) dX8_readsOne_40 rfl rfl ?_
              refine v_if_eq (pc' := 44) (tgt := 120) dX8_readsOne_41 rfl (by decide) (fun hz => ?_) (fun hz => ?_)
              · refine v_iconst (v := nI 1) (pc' := 121) dX8_readsOne_120 rfl (by decide) ?_
                exact v_zret dX8_readsOne_121 rfl rfl (Nat.le_refl _) (Nat.le_refl _) ⟨rfl, rfl, rfl, rfl, rfl⟩
              · exact absurd rfl hz
            · refine absurd hq ?_
              by_cases hlt : ns cd (n - (p1 + d)) (p1 + d) < n - (p1 + d)
              · rw [if_pos hlt]
                have := hcd q1 (by omega)
                exact fun z => h44 ⟨by omega, (nI_eq (by omega) (by decide)).mp z⟩
              · rw [if_neg hlt]
                decide
      have hX2 := MX_at (q := p1 + d) hX
      generalize stI I 21 5 (nI (p1 + d)) = I2 at hnum hX2
      by_cases hreal : real = true
      · have e6 : mm I2 t0.1 X 21 6 = nI t0.2.2 := by rw [mm_o (by decide)]; exact hX2.2.2.2.2.2.1
        rw [if_pos hreal] at ht1
        have hw5 := (skW_fact (r := t0.1) (m := m) (x := x) (lim := gQ t0.1) hc).2.2.2
        have hby := (skW_fact (r := t0.1) (m := m) (x := x) (lim := gQ t0.1) hc).1
        have hreq := m_requests (l := l) (X := X) (L := L) (m := m) (Y := Y) hR hX2.2.2.2.1 hI0 hc hx hgq.1 rfl rfl rfl
        have hX3 := MX_gw (fh := (skW t0.1 m c x (gQ t0.1)).2.2) hX2 (show (skW t0.1 m c x (gQ t0.1)).1.length ≤ 5 by omega)
        have e51 : t1.1 = rReq c x (gQ t0.1) t0.1 m := by rw [← ht1]; rfl
        have e52 : t1.2.1 = (skW t0.1 m c x (gQ t0.1)).1 := by rw [← ht1]; rfl
        have e53 : t1.2.2 = if (skW t0.1 m c x (gQ t0.1)).2.1 = 5 then t0.2.2 else t0.2.2 + 1 := by rw [← ht1]; rfl
        rw [← e51] at hreq
        rw [← e52] at hX3
        generalize hG : gw I2 (skW t0.1 m c x (gQ t0.1)).1 (skW t0.1 m c x (gQ t0.1)).2.2 = G at hreq
        rw [e52, hG, ← e52] at hX3
        generalize (skW t0.1 m c x (gQ t0.1)).2.1 = by_ at hreq hby e53
        have hX4 := MX_sv (sv' := t1.2.2) hX3
        obtain ⟨b, TI, q, s', t, hF, hV⟩ := hlast (stI G 21 6 (nI t1.2.2)) (some (.int (nI x))) hX4
        refine ⟨b, TI, q, s', t, hF, ?_⟩
        rw [if_pos hreal] at hV ⊢
        refine v_iload_n (pc' := 41) dX8_readsOne_40 rfl rfl ?_
        refine v_if_eq (pc' := 44) (tgt := 120) dX8_readsOne_41 rfl (by decide) (fun hb => ?_) (fun hb => ?_)
        · exact absurd hb (by decide)
        · refine v_aload_n (pc' := 45) dX8_readsOne_44 rfl rfl ?_
          refine v_dup (pc' := 46) dX8_readsOne_45 rfl rfl ?_
          refine v_gI (o := 5) (pc' := 49) dX8_readsOne_46 rfl gf_X8_151 kp_M rfl rfl ?_
          refine v_iconst (v := nI 1) (pc' := 50) dX8_readsOne_49 rfl (by decide) ?_
          refine v_iadd (pc' := 51) dX8_readsOne_50 rfl ?_
          rw [e5, nI_add]
          refine v_pI (o := 5) (pc' := 54) dX8_readsOne_51 rfl gf_X8_151 pf_X8_151 kp_M rfl rfl (Or.inl rfl) rfl rfl ?_
          rw [mm_st2 (by decide)]
          refine v_aload_n (pc' := 55) dX8_readsOne_54 rfl rfl ?_
          refine v_cV0i (pc' := 58) dX8_readsOne_55 rfl cv_X8_158 kp_M (Nat.le_of_ble_eq_true rfl) rfl (hnum) ?_
          refine v_istore4 (pc' := 60) dX8_readsOne_58 rfl (by decide) rfl ?_
          refine v_iload (pc' := 62) dX8_readsOne_60 rfl rfl ?_
          refine v_if_ge (pc' := 65) (tgt := 67) dX8_readsOne_62 rfl (by decide) (fun hq => ?_) (fun hq => ?_)
          · refine v_iload_n (pc' := 68) dX8_readsOne_67 rfl rfl ?_
            refine v_if_eq (pc' := 71) (tgt := 102) dX8_readsOne_68 rfl (by decide) (fun hz => ?_) (fun hz => ?_)
            · exact absurd hz (by decide)
            · refine v_aload_n (pc' := 72) dX8_readsOne_71 rfl rfl ?_
              refine v_dup (pc' := 73) dX8_readsOne_72 rfl rfl ?_
              refine v_gI (o := 6) (pc' := 76) dX8_readsOne_73 rfl gf_X8_161 kp_M rfl rfl ?_
              rw [e6]
              refine v_aload_n (pc' := 77) dX8_readsOne_76 rfl rfl ?_
              refine v_iload_n (pc' := 78) dX8_readsOne_77 rfl rfl ?_
              refine v_iload (pc' := 80) dX8_readsOne_78 rfl rfl ?_
              refine v_aload_n (pc' := 81) dX8_readsOne_80 rfl rfl ?_
              refine v_getQ (pc' := 84) dX8_readsOne_81 rfl gf_X8_7 kp_M rfl (rf_M_row hR) ?_
              refine v_iconst (v := nI 5) (pc' := 85) dX8_readsOne_84 rfl (by decide) ?_
              refine v_ial (pc' := 86) dX8_readsOne_85 rfl kp_row (Nat.zero_add _) rfl (by omega) ?_
              rw [mm_at (by decide), hgq.2]
              refine v_cV3i (pc' := 89) dX8_readsOne_86 rfl cv_X8_145 kp_M (Nat.le_of_ble_eq_true rfl) rfl (hreq) ?_
              refine v_iconst (v := nI 5) (pc' := 90) dX8_readsOne_89 rfl (by decide) ?_
              refine v_icmp_ge (pc' := 93) (tgt := 97) dX8_readsOne_90 rfl (by decide) (fun hy => ?_) (fun hy => ?_)
              · have hy : by_ = 5 := by
                  have : ¬ by_ < 5 := fun z => absurd hy (nI_ge z (by decide))
                  omega
                rw [if_pos hy] at e53
                rw [e53] at hV
                refine v_iconst (v := nI 0) (pc' := 98) dX8_readsOne_97 rfl (by decide) ?_
                refine v_iadd (pc' := 99) dX8_readsOne_98 rfl ?_
                refine v_pI (o := 6) (pc' := 102) dX8_readsOne_99 rfl gf_X8_161 pf_X8_161 kp_M rfl rfl (Or.inl rfl) rfl rfl ?_
                rw [nI_add, mm_st2 (by decide)]
                exact hV
              · have hy : by_ < 5 := (nI_ltI (by omega) (by omega)).mp (Int32.not_le.mp hy)
                rw [if_neg (by omega)] at e53
                rw [e53] at hV
                refine v_iconst (v := nI 1) (pc' := 94) dX8_readsOne_93 rfl (by decide) ?_
                refine v_goto (tgt := 98) dX8_readsOne_94 (by decide) ?_
                refine v_iadd (pc' := 99) dX8_readsOne_98 rfl ?_
                refine v_pI (o := 6) (pc' := 102) dX8_readsOne_99 rfl gf_X8_161 pf_X8_161 kp_M rfl rfl (Or.inl rfl) rfl rfl ?_
                rw [nI_add, mm_st2 (by decide)]
                exact hV
          · exact absurd (nI_pos' (by omega)) hq
      · rw [if_neg hreal] at ht1
        have hX3 := hX2
        rw [ht1] at hX3
        obtain ⟨b, TI, q, s', t, hF, hV⟩ := hlast I2 (some (.int (nI x))) hX3
        refine ⟨b, TI, q, s', t, hF, ?_⟩
        rw [if_neg hreal] at hV ⊢
        refine v_iload_n (pc' := 41) dX8_readsOne_40 rfl rfl ?_
        refine v_if_eq (pc' := 44) (tgt := 120) dX8_readsOne_41 rfl (by decide) (fun hb => ?_) (fun hb => ?_)
        · exact absurd hb (by decide)
        · refine v_aload_n (pc' := 45) dX8_readsOne_44 rfl rfl ?_
          refine v_dup (pc' := 46) dX8_readsOne_45 rfl rfl ?_
          refine v_gI (o := 5) (pc' := 49) dX8_readsOne_46 rfl gf_X8_151 kp_M rfl rfl ?_
          refine v_iconst (v := nI 1) (pc' := 50) dX8_readsOne_49 rfl (by decide) ?_
          refine v_iadd (pc' := 51) dX8_readsOne_50 rfl ?_
          rw [e5, nI_add]
          refine v_pI (o := 5) (pc' := 54) dX8_readsOne_51 rfl gf_X8_151 pf_X8_151 kp_M rfl rfl (Or.inl rfl) rfl rfl ?_
          rw [mm_st2 (by decide)]
          refine v_aload_n (pc' := 55) dX8_readsOne_54 rfl rfl ?_
          refine v_cV0i (pc' := 58) dX8_readsOne_55 rfl cv_X8_158 kp_M (Nat.le_of_ble_eq_true rfl) rfl (hnum) ?_
          refine v_istore4 (pc' := 60) dX8_readsOne_58 rfl (by decide) rfl ?_
          refine v_iload (pc' := 62) dX8_readsOne_60 rfl rfl ?_
          refine v_if_ge (pc' := 65) (tgt := 67) dX8_readsOne_62 rfl (by decide) (fun hq => ?_) (fun hq => ?_)
          · refine v_iload_n (pc' := 68) dX8_readsOne_67 rfl rfl ?_
            refine v_if_eq (pc' := 71) (tgt := 102) dX8_readsOne_68 rfl (by decide) (fun hz => ?_) (fun hz => ?_)
            · rw [ht1]
              exact hV
            · exact absurd rfl hz
          · exact absurd (nI_pos' (by omega)) hq
end B41
