/-! ===== the model reads a text ===== -/
def FA (cd : Nat → Nat) (n : Nat) (k0 : Int32 × MI) (real : Bool) (m : Msk) (q0 : QS) (Z : PS × Option Nat) (b : Bool) (TI : MI) (q : Nat) (t : QS) : Prop :=
  MX cd n k0 TI q t.2.1 t.2.2 ∧ Inv t.1 ∧ (real = false → t = q0) ∧ (b = false → aPar Z n = nI q ∧ q ≤ n) ∧ (b = true → aPar Z n = -1 ∧ t = exq real m Z.1.2.2.2 q0)
section B42
variable {l : Launch} {I : MI} {L : ML} {R : MR} {r X : Row} {m Y : Msk} {cd : Nat → Nat} {n : Nat} {k0 : Int32 × MI} {real : Bool} {q0 : QS} {Z : PS × Option Nat}
theorem m_readsOne {p : Nat} {s : PS} {t0 : QS} (hR : RS R) (hn : n ≤ 100) (hcd : ∀ i, i < n → cd i < 256) (hp : p ≤ n) (hs0 : s.1 = 0) (hZ : Z = pRun cd (n - p) p s) (ht0 : t0 = exq real m s.2.2.2 q0) (hI0 : Inv t0.1) (hX : MX cd n k0 I p t0.2.1 t0.2.2) : ∃ (b : Bool) (TI : MI) (q : Nat) (s' : PS) (t : QS), FQ cd n k0 real m q0 Z p b TI q s' t ∧ Ok l yX8_readsOne cX8_readsOne 5 (some .boolean) 6 0 0 [.ref 278, .int (if real = true then nI 1 else nI 0)] (mm I t0.1 X) (mL L m Y) R 287 (eqP (some (.int (if b = true then nI 1 else nI 0))) (mm TI t.1 X) (mL L m Y) R 287) := by
  have hh := m_here (l := l) (r := t0.1) (X := X) (L := mL L m Y) hR hn hcd (show p + (n - p) = n by omega) hX
  have hns := ns_le (cd := cd) (n - p) p
  generalize hpa : p + ns cd (n - p) p = pa at hh
  have hZ1 : Z = pRun cd (n - pa) pa s := by rw [hZ, pRun_ns _ _ s (by omega), hpa, show n - p - ns cd (n - p) p = n - pa by omega]
  have hsp : 0 < n - pa → cd pa ≠ 32 := fun z => by
    rw [← hpa]
    exact ns_stop (cd := cd) _ _ (by omega)
  have hXa := MX_at (q := pa) hX
  have hreal0 : real = false → t0 = q0 := fun hr => by
    rw [ht0]
    unfold exq
    rw [hr]
    rfl
  by_cases hgo : pa < n ∧ 48 ≤ cd pa ∧ cd pa ≤ 52
  · have hc5 : cd pa - 48 < 5 := by omega
    rw [if_pos (by omega)] at hh
    have ec : nI (cd pa) - nI 48 = nI (cd pa - 48) := nI_sub hgo.2.1
    have hZ2 : Z = pRun cd (n - (pa + 1)) (pa + 1) (1, some (cd pa - 48), s.2.2) := by
      obtain ⟨k', hk'⟩ : ∃ k', n - pa = k' + 1 := ⟨n - pa - 1, by omega⟩
      rw [hZ1, hk', st01 hs0 hgo.2, show n - (pa + 1) = k' by omega]
    have e5 : mm (stI I 21 5 (nI pa)) t0.1 X 21 5 = nI pa := by rw [mm_o (by decide), stI_self]
    have hXb := MX_at (q := pa + 1) hX
    have hh2 := m_here (l := l) (r := t0.1) (X := X) (L := mL L m Y) hR hn hcd (show pa + 1 + (n - (pa + 1)) = n by omega) hXb
    rw [stI_stI] at hh2
    have hns2 := ns_le (cd := cd) (n - (pa + 1)) (pa + 1)
    generalize hpc : pa + 1 + ns cd (n - (pa + 1)) (pa + 1) = pc at hh2
    have hXc := MX_at (q := pc) hX
    have hZ3 : Z = pRun cd (n - pc) pc (1, some (cd pa - 48), s.2.2) := by rw [hZ2, pRun_ns _ _ _ (by show (1 : Nat) ≠ 3; omega), hpc, show n - (pa + 1) - ns cd (n - (pa + 1)) (pa + 1) = n - pc by omega]
    have hsp2 : 0 < n - pc → cd pc ≠ 32 := fun z => by
      rw [← hpc]
      exact ns_stop (cd := cd) _ _ (by omega)
    by_cases h58 : pc < n ∧ cd pc = 58
    · rw [if_pos (by omega), h58.2] at hh2
      have hZ4 : Z = pRun cd (n - (pc + 1)) (pc + 1) (2, some (cd pa - 48), s.2.2) := by
        obtain ⟨k', hk'⟩ : ∃ k', n - pc = k' + 1 := ⟨n - pc - 1, by omega⟩
        rw [hZ3, hk', st12 rfl h58.2, show n - (pc + 1) = k' by omega]
      obtain ⟨b, TI, q, s', t, hF, hV⟩ := m_numbers (l := l) (L := L) (X := X) (Y := Y) hR hn hcd hc5 (n - pc) pc (stI I 21 5 (nI pc)) (2, some (cd pa - 48), s.2.2) t0 none (by omega) h58.1 rfl rfl hZ4 ht0 hI0 hXc
      refine ⟨b, TI, q, s', t, FQ_lo (by omega) hF, ?_⟩
      refine Ok.ofV [some (.ref 278), some (.int (if real = true then nI 1 else nI 0)), none, none, none] rfl (by decide) (Nat.le_of_ble_eq_true rfl) ?_
      refine v_aload_n (pc' := 1) dX8_readsOne_0 rfl rfl ?_
      refine v_cV0i (pc' := 4) dX8_readsOne_1 rfl cv_X8_154 kp_M (Nat.le_of_ble_eq_true rfl) rfl (hh) ?_
      refine v_bipush (v := nI 48) (pc' := 6) dX8_readsOne_4 rfl (by decide) ?_
      refine v_isub (pc' := 7) dX8_readsOne_6 rfl ?_
      rw [ec]
      refine v_istore_n2 (pc' := 8) dX8_readsOne_7 rfl (by decide) rfl ?_
      refine v_iload_n (pc' := 9) dX8_readsOne_8 rfl rfl ?_
      refine v_cS1i (pc' := 12) dX8_readsOne_9 rfl cs_X8_88 (Nat.le_of_ble_eq_true rfl) rfl (m_isCache) ?_
      refine v_if_ne (pc' := 15) (tgt := 17) dX8_readsOne_12 rfl (by decide) (fun hq => ?_) (fun hq => ?_)
      · refine v_aload_n (pc' := 18) dX8_readsOne_17 rfl rfl ?_
        refine v_dup (pc' := 19) dX8_readsOne_18 rfl rfl ?_
        refine v_gI (o := 5) (pc' := 22) dX8_readsOne_19 rfl gf_X8_151 kp_M rfl rfl ?_
        refine v_iconst (v := nI 1) (pc' := 23) dX8_readsOne_22 rfl (by decide) ?_
        refine v_iadd (pc' := 24) dX8_readsOne_23 rfl ?_
        rw [e5, nI_add]
        refine v_pI (o := 5) (pc' := 27) dX8_readsOne_24 rfl gf_X8_151 pf_X8_151 kp_M rfl rfl (Or.inl rfl) rfl rfl ?_
        rw [mm_st2 (by decide), stI_stI]
        refine v_aload_n (pc' := 28) dX8_readsOne_27 rfl rfl ?_
        refine v_cV0i (pc' := 31) dX8_readsOne_28 rfl cv_X8_154 kp_M (Nat.le_of_ble_eq_true rfl) rfl (hh2) ?_
        refine v_bipush (v := nI 58) (pc' := 33) dX8_readsOne_31 rfl (by decide) ?_
        refine v_icmp_eq (pc' := 36) (tgt := 38) dX8_readsOne_33 rfl (by decide) (fun hz => ?_) (fun hz => ?_)
        · refine v_iconst (v := nI 1) (pc' := 39) dX8_readsOne_38 rfl (by decide) ?_
          refine v_istore_n3 (pc' := 40) dX8_readsOne_39 rfl (by decide) rfl ?_
          exact hV
        · exact absurd rfl hz
      · exact absurd (ite10.mp hq) (ncC hc5)
    · refine ⟨false, stI I 21 5 (nI pc), pc, s, t0, ⟨hXc, by omega, hI0, hreal0, fun _ => ⟨?_, fun z => hsp2 (by omega)⟩, fun z => by cases z⟩, ?_⟩
      · rw [hZ3]
        exact flt1 (by omega) rfl hsp2 (fun z => h58 ⟨by omega, z.2⟩)
      · refine Ok.ofV [some (.ref 278), some (.int (if real = true then nI 1 else nI 0)), none, none, none] rfl (by decide) (Nat.le_of_ble_eq_true rfl) ?_
        refine v_aload_n (pc' := 1) dX8_readsOne_0 rfl rfl ?_
        refine v_cV0i (pc' := 4) dX8_readsOne_1 rfl cv_X8_154 kp_M (Nat.le_of_ble_eq_true rfl) rfl (hh) ?_
        refine v_bipush (v := nI 48) (pc' := 6) dX8_readsOne_4 rfl (by decide) ?_
        refine v_isub (pc' := 7) dX8_readsOne_6 rfl ?_
        rw [ec]
        refine v_istore_n2 (pc' := 8) dX8_readsOne_7 rfl (by decide) rfl ?_
        refine v_iload_n (pc' := 9) dX8_readsOne_8 rfl rfl ?_
        refine v_cS1i (pc' := 12) dX8_readsOne_9 rfl cs_X8_88 (Nat.le_of_ble_eq_true rfl) rfl (m_isCache) ?_
        refine v_if_ne (pc' := 15) (tgt := 17) dX8_readsOne_12 rfl (by decide) (fun hq => ?_) (fun hq => ?_)
        · refine v_aload_n (pc' := 18) dX8_readsOne_17 rfl rfl ?_
          refine v_dup (pc' := 19) dX8_readsOne_18 rfl rfl ?_
          refine v_gI (o := 5) (pc' := 22) dX8_readsOne_19 rfl gf_X8_151 kp_M rfl rfl ?_
          refine v_iconst (v := nI 1) (pc' := 23) dX8_readsOne_22 rfl (by decide) ?_
          refine v_iadd (pc' := 24) dX8_readsOne_23 rfl ?_
          rw [e5, nI_add]
          refine v_pI (o := 5) (pc' := 27) dX8_readsOne_24 rfl gf_X8_151 pf_X8_151 kp_M rfl rfl (Or.inl rfl) rfl rfl ?_
          rw [mm_st2 (by decide), stI_stI]
          refine v_aload_n (pc' := 28) dX8_readsOne_27 rfl rfl ?_
          refine v_cV0i (pc' := 31) dX8_readsOne_28 rfl cv_X8_154 kp_M (Nat.le_of_ble_eq_true rfl) rfl (hh2) ?_
          refine v_bipush (v := nI 58) (pc' := 33) dX8_readsOne_31 rfl (by decide) ?_
          refine v_icmp_eq (pc' := 36) (tgt := 38) dX8_readsOne_33 rfl (by decide) (fun hz => ?_) (fun hz => ?_)
          · refine absurd hz ?_
            by_cases hlt : ns cd (n - (pa + 1)) (pa + 1) < n - (pa + 1)
            · rw [if_pos hlt]
              have := hcd pc (by omega)
              exact fun z => h58 ⟨by omega, (nI_eq (by omega) (by decide)).mp z⟩
            · rw [if_neg hlt]
              decide
          · refine v_iconst (v := nI 0) (pc' := 37) dX8_readsOne_36 rfl (by decide) ?_
            exact v_zret dX8_readsOne_37 rfl rfl (Nat.le_refl _) (Nat.le_refl _) ⟨rfl, rfl, rfl, rfl, rfl⟩
        · exact absurd (ite10.mp hq) (ncC hc5)
  · refine ⟨false, stI I 21 5 (nI pa), pa, s, t0, ⟨hXa, by omega, hI0, hreal0, fun _ => ⟨?_, fun z => hsp (by omega)⟩, fun z => by cases z⟩, ?_⟩
    · rw [hZ1]
      exact flt0 (by omega) hs0 hsp (fun z => hgo ⟨by omega, z.2⟩)
    · have hno : noC ((if ns cd (n - p) p < n - p then nI (cd pa) else -1) - nI 48) := by
        by_cases hlt : ns cd (n - p) p < n - p
        · rw [if_pos hlt]
          exact (code_noC (hcd pa (by omega))).mpr (fun z => hgo ⟨by omega, z⟩)
        · rw [if_neg hlt]
          decide
      refine Ok.ofV [some (.ref 278), some (.int (if real = true then nI 1 else nI 0)), none, none, none] rfl (by decide) (Nat.le_of_ble_eq_true rfl) ?_
      refine v_aload_n (pc' := 1) dX8_readsOne_0 rfl rfl ?_
      refine v_cV0i (pc' := 4) dX8_readsOne_1 rfl cv_X8_154 kp_M (Nat.le_of_ble_eq_true rfl) rfl (hh) ?_
      refine v_bipush (v := nI 48) (pc' := 6) dX8_readsOne_4 rfl (by decide) ?_
      refine v_isub (pc' := 7) dX8_readsOne_6 rfl ?_
      refine v_istore_n2 (pc' := 8) dX8_readsOne_7 rfl (by decide) rfl ?_
      refine v_iload_n (pc' := 9) dX8_readsOne_8 rfl rfl ?_
      refine v_cS1i (pc' := 12) dX8_readsOne_9 rfl cs_X8_88 (Nat.le_of_ble_eq_true rfl) rfl (m_isCache) ?_
      refine v_if_ne (pc' := 15) (tgt := 17) dX8_readsOne_12 rfl (by decide) (fun hq => ?_) (fun hq => ?_)
      · exact absurd (ite10.mpr hno) hq
      · refine v_iconst (v := nI 0) (pc' := 16) dX8_readsOne_15 rfl (by decide) ?_
        exact v_zret dX8_readsOne_16 rfl rfl (Nat.le_refl _) (Nat.le_refl _) ⟨rfl, rfl, rfl, rfl, rfl⟩
theorem hereN {q sv : Nat} {ws : List Nat} {t : QS} (hR : RS R) (hn : n ≤ 100) (hcd : ∀ i, i < n → cd i < 256) (hq : q ≤ n) (hs : q < n → cd q ≠ 32) (hX : MX cd n k0 I q ws sv) : Ok l yX8_here cX8_here 1 (some .int) 0 0 0 [.ref 278] (mm I r X) L R 287 (eqP (some (.int (if q < n then nI (cd q) else -1))) (mm I r X) L R 287) := by
  have hh := m_here (l := l) (r := r) (X := X) (L := L) hR hn hcd (show q + (n - q) = n by omega) hX
  have e0 : ns cd (n - q) q = 0 := ns_0 (fun z => hs (by omega))
  have e1 : stI I 21 5 (nI (q + 0)) = I := by
    rw [Nat.add_zero, ← hX.2.2.2.2.1]
    unfold stI
    rw [up_same, up_same]
  rw [e0, e1, Nat.add_zero] at hh
  by_cases c : q < n
  · rw [if_pos (by omega)] at hh
    rw [if_pos c]
    exact hh
  · rw [if_neg (by omega)] at hh
    rw [if_neg c]
    exact hh
theorem m_texts (hR : RS R) (hn : n ≤ 100) (hcd : ∀ i, i < n → cd i < 256) : ∀ (g p0 : Nat) (b : Bool) (TI : MI) (q : Nat) (s' : PS) (t : QS), q + g = n → FQ cd n k0 real m q0 Z p0 b TI q s' t → ∃ (b' : Bool) (TI' : MI) (q' : Nat) (t' : QS), FA cd n k0 real m q0 Z b' TI' q' t' ∧ V l yX8_readsAll cX8_readsAll 4 (some .boolean) (rmd 7 0 0) (QM 0 0 (eqP (some (.int (if b' = true then nI 1 else nI 0))) (mm TI' t'.1 X) (mL L m Y) R 287)) (fun _ _ => True) 21 [some (.ref 278), some (.int (if real = true then nI 1 else nI 0)), some (.int (if b = true then nI 1 else nI 0)), some (.int (if q < n then nI (cd q) else -1))] [] (mm TI t.1 X) (mL L m Y) R 287 0 0 := by
  -- Ok l yX8_readsAll cX8_readsAll 4 (some .boolean) 7 0 0 [.ref 278, .int 0] I L R 287 (eqP (none) I L R 287)
  intro g
  induction g using Nat.strongRecOn with
  | ind g ih =>
    intro p0 b TI q s' t hg hF
    obtain ⟨hX, hqn, hI, hrf, hbf, hbt⟩ := id hF
    cases b with
    | false =>
      refine ⟨false, TI, q, t, ⟨hX, hI, hrf, fun _ => ⟨(hbf rfl).1, hqn⟩, fun z => by cases z⟩, ?_⟩
      refine v_iload_n (pc' := 22) dX8_readsAll_21 rfl rfl ?_
      refine v_if_eq (pc' := 25) (tgt := 70) dX8_readsAll_22 rfl (by decide) (fun hb => ?_) (fun hb => ?_)
      · refine v_iload_n (pc' := 71) dX8_readsAll_70 rfl rfl ?_
        exact v_zret dX8_readsAll_71 rfl rfl (Nat.le_refl _) (Nat.le_refl _) ⟨rfl, rfl, rfl, rfl, rfl⟩
      · exact absurd rfl hb
    | true =>
      obtain ⟨h34, hZ, hst, hpq, ht⟩ := hbt rfl
      by_cases hlt : q < n
      · have hcq := hcd q hlt
        obtain ⟨h32, h44, hdg⟩ := hst hlt
        rw [if_pos hlt]
        obtain ⟨k', hk'⟩ : ∃ k', n - q = k' + 1 := ⟨n - q - 1, by omega⟩
        have hm1 : nI (cd q) ≠ -1 := fun z => by
          have h2 : ¬ nI (cd q) < 0 := nI_pos (by omega)
          rw [z] at h2
          exact h2 (by decide)
        by_cases h59 : cd q = 59
        · have hZ2 : Z = pRun cd (n - (q + 1)) (q + 1) (0, s'.2) := by rw [hZ, hk', stN h34 h59, show n - (q + 1) = k' by omega]
          obtain ⟨b2, TI2, q2, s2, t2, hF2, hV2⟩ := m_readsOne (l := l) (L := L) (X := X) (Y := Y) (real := real) (q0 := q0) hR hn hcd (show q + 1 ≤ n by omega) rfl hZ2 ht hI (MX_at (q := q + 1) hX)
          have hs2 : q2 < n → cd q2 ≠ 32 := by
            cases b2 with
            | false => exact (hF2.2.2.2.2.1 rfl).2
            | true => exact fun z => ((hF2.2.2.2.2.2 rfl).2.2.1 z).1
          have hh := hereN (l := l) (r := t2.1) (X := X) (L := mL L m Y) (t := t2) hR hn hcd hF2.2.1 hs2 hF2.1
          have e5 : mm TI t.1 X 21 5 = nI q := by rw [mm_o (by decide)]; exact hX.2.2.2.2.1
          have key : ∃ (b' : Bool) (TI' : MI) (q' : Nat) (t' : QS), FA cd n k0 real m q0 Z b' TI' q' t' ∧ V l yX8_readsAll cX8_readsAll 4 (some .boolean) (rmd 7 0 0) (QM 0 0 (eqP (some (.int (if b' = true then nI 1 else nI 0))) (mm TI' t'.1 X) (mL L m Y) R 287)) (fun _ _ => True) 21 [some (.ref 278), some (.int (if real = true then nI 1 else nI 0)), some (.int (if b2 = true then nI 1 else nI 0)), some (.int (if q2 < n then nI (cd q2) else -1))] [] (mm TI2 t2.1 X) (mL L m Y) R 287 0 0 := by
            cases b2 with
            | false =>
              refine ⟨false, TI2, q2, t2, ⟨hF2.1, hF2.2.2.1, hF2.2.2.2.1, fun _ => ⟨(hF2.2.2.2.2.1 rfl).1, hF2.2.1⟩, fun z => by cases z⟩, ?_⟩
              refine v_iload_n (pc' := 22) dX8_readsAll_21 rfl rfl ?_
              refine v_if_eq (pc' := 25) (tgt := 70) dX8_readsAll_22 rfl (by decide) (fun hb => ?_) (fun hb => ?_)
              · refine v_iload_n (pc' := 71) dX8_readsAll_70 rfl rfl ?_
                exact v_zret dX8_readsAll_71 rfl rfl (Nat.le_refl _) (Nat.le_refl _) ⟨rfl, rfl, rfl, rfl, rfl⟩
              · exact absurd rfl hb
            | true =>
              have hq2 := (hF2.2.2.2.2.2 rfl).2.2.2.1
              exact ih (n - q2) (by omega) (q + 1) true TI2 q2 s2 t2 (by have := hF2.2.1; omega) hF2
          obtain ⟨b', TI', q', t', hFA, hV⟩ := key
          refine ⟨b', TI', q', t', hFA, ?_⟩
          rw [h59]
          refine v_iload_n (pc' := 22) dX8_readsAll_21 rfl rfl ?_
          refine v_if_eq (pc' := 25) (tgt := 70) dX8_readsAll_22 rfl (by decide) (fun hb => ?_) (fun hb => ?_)
          · exact absurd hb (by decide)
          · refine v_iload_n (pc' := 26) dX8_readsAll_25 rfl rfl ?_
            refine v_iconst (v := -1) (pc' := 27) dX8_readsAll_26 rfl (by decide) ?_
            refine v_icmp_eq (pc' := 30) (tgt := 70) dX8_readsAll_27 rfl (by decide) (fun hz => ?_) (fun hz => ?_)
            · exact absurd hz (by decide)
            · refine v_iload_n (pc' := 31) dX8_readsAll_30 rfl rfl ?_
              refine v_bipush (v := nI 59) (pc' := 33) dX8_readsAll_31 rfl (by decide) ?_
              refine v_icmp_ne (pc' := 36) (tgt := 40) dX8_readsAll_33 rfl (by decide) (fun hy => ?_) (fun hy => ?_)
              · exact absurd rfl hy
              · refine v_iconst (v := nI 1) (pc' := 37) dX8_readsAll_36 rfl (by decide) ?_
                refine v_goto (tgt := 41) dX8_readsAll_37 (by decide) ?_
                refine v_istore_n2 (pc' := 42) dX8_readsAll_41 rfl (by decide) rfl ?_
                refine v_iload_n (pc' := 43) dX8_readsAll_42 rfl rfl ?_
                refine v_if_eq (pc' := 46) (tgt := 21) dX8_readsAll_43 rfl (by decide) (fun hx => ?_) (fun hx => ?_)
                · exact absurd hx (by decide)
                · refine v_aload_n (pc' := 47) dX8_readsAll_46 rfl rfl ?_
                  refine v_dup (pc' := 48) dX8_readsAll_47 rfl rfl ?_
                  refine v_gI (o := 5) (pc' := 51) dX8_readsAll_48 rfl gf_X8_151 kp_M rfl rfl ?_
                  refine v_iconst (v := nI 1) (pc' := 52) dX8_readsAll_51 rfl (by decide) ?_
                  refine v_iadd (pc' := 53) dX8_readsAll_52 rfl ?_
                  rw [e5, nI_add]
                  refine v_pI (o := 5) (pc' := 56) dX8_readsAll_53 rfl gf_X8_151 pf_X8_151 kp_M rfl rfl (Or.inl rfl) rfl rfl ?_
                  rw [mm_st2 (by decide)]
                  refine v_aload_n (pc' := 57) dX8_readsAll_56 rfl rfl ?_
                  refine v_iload_n (pc' := 58) dX8_readsAll_57 rfl rfl ?_
                  refine v_cV1i (pc' := 61) dX8_readsAll_58 rfl cv_X8_164 kp_M (Nat.le_of_ble_eq_true rfl) rfl (hV2) ?_
                  refine v_istore_n2 (pc' := 62) dX8_readsAll_61 rfl (by decide) rfl ?_
                  refine v_aload_n (pc' := 63) dX8_readsAll_62 rfl rfl ?_
                  refine v_cV0i (pc' := 66) dX8_readsAll_63 rfl cv_X8_154 kp_M (Nat.le_of_ble_eq_true rfl) rfl (hh) ?_
                  refine v_istore_n3 (pc' := 67) dX8_readsAll_66 rfl (by decide) rfl ?_
                  refine v_goto (tgt := 21) dX8_readsAll_67 (by decide) ?_
                  exact hV
        · have hfl : Z = (s', some q) := by rw [hZ, hk', flt4 h34 h32 h44 h59 hdg]
          refine ⟨false, TI, q, t, ⟨hX, hI, hrf, fun _ => ⟨by rw [hfl]; rfl, hqn⟩, fun z => by cases z⟩, ?_⟩
          refine v_iload_n (pc' := 22) dX8_readsAll_21 rfl rfl ?_
          refine v_if_eq (pc' := 25) (tgt := 70) dX8_readsAll_22 rfl (by decide) (fun hb => ?_) (fun hb => ?_)
          · exact absurd hb (by decide)
          · refine v_iload_n (pc' := 26) dX8_readsAll_25 rfl rfl ?_
            refine v_iconst (v := -1) (pc' := 27) dX8_readsAll_26 rfl (by decide) ?_
            refine v_icmp_eq (pc' := 30) (tgt := 70) dX8_readsAll_27 rfl (by decide) (fun hz => ?_) (fun hz => ?_)
            · exact absurd hz hm1
            · refine v_iload_n (pc' := 31) dX8_readsAll_30 rfl rfl ?_
              refine v_bipush (v := nI 59) (pc' := 33) dX8_readsAll_31 rfl (by decide) ?_
              refine v_icmp_ne (pc' := 36) (tgt := 40) dX8_readsAll_33 rfl (by decide) (fun hy => ?_) (fun hy => ?_)
              · refine v_iconst (v := nI 0) (pc' := 41) dX8_readsAll_40 rfl (by decide) ?_
                refine v_istore_n2 (pc' := 42) dX8_readsAll_41 rfl (by decide) rfl ?_
                refine v_iload_n (pc' := 43) dX8_readsAll_42 rfl rfl ?_
                refine v_if_eq (pc' := 46) (tgt := 21) dX8_readsAll_43 rfl (by decide) (fun hx => ?_) (fun hx => ?_)
                · refine v_iload_n (pc' := 22) dX8_readsAll_21 rfl rfl ?_
                  refine v_if_eq (pc' := 25) (tgt := 70) dX8_readsAll_22 rfl (by decide) (fun hw => ?_) (fun hw => ?_)
                  · refine v_iload_n (pc' := 71) dX8_readsAll_70 rfl rfl ?_
                    exact v_zret dX8_readsAll_71 rfl rfl (Nat.le_refl _) (Nat.le_refl _) ⟨rfl, rfl, rfl, rfl, rfl⟩
                  · exact absurd rfl hw
                · exact absurd rfl hx
              · exact absurd ((nI_eq (by omega) (by decide)).mp hy) h59
      · have hqe : q = n := by omega
        have hZ2 : Z = (s', none) := by
          rw [hZ, show n - q = 0 by omega]
          rfl
        rw [if_neg hlt]
        refine ⟨true, TI, q, t, ⟨hX, hI, hrf, (fun z => by cases z), fun _ => ⟨by rw [hZ2]; exact aPar_o h34, by rw [hZ2]; exact ht⟩⟩, ?_⟩
        refine v_iload_n (pc' := 22) dX8_readsAll_21 rfl rfl ?_
        refine v_if_eq (pc' := 25) (tgt := 70) dX8_readsAll_22 rfl (by decide) (fun hb => ?_) (fun hb => ?_)
        · exact absurd hb (by decide)
        · refine v_iload_n (pc' := 26) dX8_readsAll_25 rfl rfl ?_
          refine v_iconst (v := -1) (pc' := 27) dX8_readsAll_26 rfl (by decide) ?_
          refine v_icmp_eq (pc' := 30) (tgt := 70) dX8_readsAll_27 rfl (by decide) (fun hz => ?_) (fun hz => ?_)
          · refine v_iload_n (pc' := 71) dX8_readsAll_70 rfl rfl ?_
            exact v_zret dX8_readsAll_71 rfl rfl (Nat.le_refl _) (Nat.le_refl _) ⟨rfl, rfl, rfl, rfl, rfl⟩
          · exact absurd rfl hz
theorem m_readsAll {p sv : Nat} (hR : RS R) (hn : n ≤ 100) (hcd : ∀ i, i < n → cd i < 256) (hZ : Z = pRun cd n 0 pS0) (hq : q0.2.2 = 0) (hI0 : Inv q0.1) (hX : MX cd n k0 I p q0.2.1 sv) : ∃ (b : Bool) (TI : MI) (q : Nat) (t : QS), FA cd n k0 real m q0 Z b TI q t ∧ Ok l yX8_readsAll cX8_readsAll 4 (some .boolean) 7 0 0 [.ref 278, .int (if real = true then nI 1 else nI 0)] (mm I q0.1 X) (mL L m Y) R 287 (eqP (some (.int (if b = true then nI 1 else nI 0))) (mm TI t.1 X) (mL L m Y) R 287) := by
  have hX1 : MX cd n k0 (stI (stI I 21 5 (nI 0)) 21 6 (nI 0)) 0 q0.2.1 q0.2.2 := by
    rw [hq]
    exact MX_sv (MX_at hX)
  have ht0 : q0 = exq real m pS0.2.2.2 q0 := by
    unfold exq
    cases real <;> rfl
  obtain ⟨b2, TI2, q2, s2, t2, hF2, hV2⟩ := m_readsOne (l := l) (L := L) (X := X) (Y := Y) (real := real) (q0 := q0) hR hn hcd (show 0 ≤ n by omega) (show pS0.1 = 0 from rfl) hZ ht0 hI0 hX1
  have hs2 : q2 < n → cd q2 ≠ 32 := by
    cases b2 with
    | false => exact (hF2.2.2.2.2.1 rfl).2
    | true => exact fun z => ((hF2.2.2.2.2.2 rfl).2.2.1 z).1
  have hh := hereN (l := l) (r := t2.1) (X := X) (L := mL L m Y) (t := t2) hR hn hcd hF2.2.1 hs2 hF2.1
  obtain ⟨b', TI', q', t', hFA, hV⟩ := m_texts (l := l) (L := L) (X := X) (Y := Y) hR hn hcd (n - q2) 0 b2 TI2 q2 s2 t2 (by have := hF2.2.1; omega) hF2
  refine ⟨b', TI', q', t', hFA, ?_⟩
  refine Ok.ofV [some (.ref 278), some (.int (if real = true then nI 1 else nI 0)), none, none] rfl (by decide) (Nat.le_of_ble_eq_true rfl) ?_
  refine v_aload_n (pc' := 1) dX8_readsAll_0 rfl rfl ?_
  refine v_iconst (v := nI 0) (pc' := 2) dX8_readsAll_1 rfl (by decide) ?_
  refine v_pI (o := 5) (pc' := 5) dX8_readsAll_2 rfl gf_X8_151 pf_X8_151 kp_M rfl rfl (Or.inl rfl) rfl rfl ?_
  refine v_aload_n (pc' := 6) dX8_readsAll_5 rfl rfl ?_
  refine v_iconst (v := nI 0) (pc' := 7) dX8_readsAll_6 rfl (by decide) ?_
  refine v_pI (o := 6) (pc' := 10) dX8_readsAll_7 rfl gf_X8_161 pf_X8_161 kp_M rfl rfl (Or.inl rfl) rfl rfl ?_
  rw [mm_st2 (by decide), mm_st2 (by decide)]
  refine v_aload_n (pc' := 11) dX8_readsAll_10 rfl rfl ?_
  refine v_iload_n (pc' := 12) dX8_readsAll_11 rfl rfl ?_
  refine v_cV1i (pc' := 15) dX8_readsAll_12 rfl cv_X8_164 kp_M (Nat.le_of_ble_eq_true rfl) rfl (hV2) ?_
  refine v_istore_n2 (pc' := 16) dX8_readsAll_15 rfl (by decide) rfl ?_
  refine v_aload_n (pc' := 17) dX8_readsAll_16 rfl rfl ?_
  refine v_cV0i (pc' := 20) dX8_readsAll_17 rfl cv_X8_154 kp_M (Nat.le_of_ble_eq_true rfl) rfl (hh) ?_
  refine v_istore_n3 (pc' := 21) dX8_readsAll_20 rfl (by decide) rfl ?_
  exact hV
theorem MX_SI {p sv k : Nat} {ws : List Nat} (h : MX cd n k0 I p ws sv) : MX cd n (nI (kv k), k0.2) (SI I k) p ws sv := by
  obtain ⟨a0, a1, a2, a3, a4, a5, a6, a7, a8, a9⟩ := h
  unfold SI
  refine ⟨stI_self _ _ _ _, ?_, fun i hi => ?_, MF_st a3 (by decide) (by decide), ?_, ?_, ?_, a7, fun i hi => ?_, fun u h1 h2 => by rw [stI_r h1]; exact a9 u h1 h2⟩
  · rw [stI_ne (by decide)]; exact a1
  · rw [stI_ne (by omega)]; exact a2 i hi
  · rw [stI_ne (by decide)]; exact a4
  · rw [stI_ne (by decide)]; exact a5
  · rw [stI_ne (by decide)]; exact a6
  · rw [stI_ne (by omega)]; exact a8 i hi
theorem m1_of {q : Nat} (hq : q ≤ 100) : nI q ≠ -1 := fun z => by
  have h2 : ¬ nI q < 0 := nI_pos (by omega)
  rw [z] at h2
  exact h2 (by decide)
theorem e_textFault {p sv : Nat} {ws : List Nat} (hR : RS R) (hn : n ≤ 100) (hcd : ∀ i, i < n → cd i < 256) (hI : Inv r) (hX : MX cd n k0 I p ws sv) : ∃ (TI : MI) (q : Nat), MX cd n k0 TI q ws 0 ∧ Ok l yX8_textFault cX8_textFault 1 (some .int) 8 0 0 [.ref 278] (mm I r X) (mL L m Y) R 287 (eqP (some (.int (aPar (pRun cd n 0 pS0) n))) (mm TI r X) (mL L m Y) R 287) := by
  obtain ⟨b, TI, q, t, ⟨hX2, hI2, hrf, hbf, hbt⟩, hV⟩ := m_readsAll (l := l) (I := I) (L := L) (X := X) (m := m) (Y := Y) (real := false) (q0 := (r, ws, 0)) hR hn hcd rfl rfl hI hX
  have ht := hrf rfl
  subst ht
  refine ⟨TI, q, hX2, ?_⟩
  have e5 : mm TI r X 21 5 = nI q := by rw [mm_o (by decide)]; exact hX2.2.2.2.2.1
  have hV : Ok l yX8_readsAll cX8_readsAll 4 (some .boolean) 7 0 0 [.ref 278, .int (nI 0)] (mm I r X) (mL L m Y) R 287 (eqP (some (.int (if b = true then nI 1 else nI 0))) (mm TI r X) (mL L m Y) R 287) := hV
  refine Ok.ofV [some (.ref 278)] rfl (by decide) (Nat.le_of_ble_eq_true rfl) ?_
  cases b with
  | false =>
    refine v_aload_n (pc' := 1) dX8_textFault_0 rfl rfl ?_
    refine v_iconst (v := nI 0) (pc' := 2) dX8_textFault_1 rfl (by decide) ?_
    refine v_cV1i (pc' := 5) dX8_textFault_2 rfl cv_X8_168 kp_M (Nat.le_of_ble_eq_true rfl) rfl (hV) ?_
    refine v_if_eq (pc' := 8) (tgt := 12) dX8_textFault_5 rfl (by decide) (fun hb => ?_) (fun hb => ?_)
    · refine v_aload_n (pc' := 13) dX8_textFault_12 rfl rfl ?_
      refine v_gI (o := 5) (pc' := 16) dX8_textFault_13 rfl gf_X8_151 kp_M rfl rfl ?_
      exact v_iret dX8_textFault_16 rfl (Nat.le_refl _) (Nat.le_refl _) ⟨by rw [e5, (hbf rfl).1], rfl, rfl, rfl, rfl⟩
    · exact absurd rfl hb
  | true =>
    refine v_aload_n (pc' := 1) dX8_textFault_0 rfl rfl ?_
    refine v_iconst (v := nI 0) (pc' := 2) dX8_textFault_1 rfl (by decide) ?_
    refine v_cV1i (pc' := 5) dX8_textFault_2 rfl cv_X8_168 kp_M (Nat.le_of_ble_eq_true rfl) rfl (hV) ?_
    refine v_if_eq (pc' := 8) (tgt := 12) dX8_textFault_5 rfl (by decide) (fun hb => ?_) (fun hb => ?_)
    · exact absurd hb (by decide)
    · refine v_iconst (v := -1) (pc' := 9) dX8_textFault_8 rfl (by decide) ?_
      refine v_goto (tgt := 16) dX8_textFault_9 (by decide) ?_
      exact v_iret dX8_textFault_16 rfl (Nat.le_refl _) (Nat.le_refl _) ⟨by rw [(hbt rfl).1], rfl, rfl, rfl, rfl⟩
theorem e_run_no {p sv : Nat} {ws : List Nat} (hR : RS R) (hn : n ≤ 100) (hcd : ∀ i, i < n → cd i < 256) (hI : Inv r) (hX : MX cd n k0 I p ws sv) (hno : aPar (pRun cd n 0 pS0) n ≠ -1) : ∃ (TI : MI) (q : Nat), MX cd n k0 TI q ws 0 ∧ Ok l yX8_run cX8_run 2 (some .int) 8 0 0 [.ref 278] (mm I r X) (mL L m Y) R 287 (eqP (some (.int (-4))) (mm TI r X) (mL L m Y) R 287) := by
  obtain ⟨b, TI, q, t, ⟨hX2, hI2, hrf, hbf, hbt⟩, hV⟩ := m_readsAll (l := l) (I := I) (L := L) (X := X) (m := m) (Y := Y) (real := false) (q0 := (r, ws, 0)) hR hn hcd rfl rfl hI hX
  have ht := hrf rfl
  subst ht
  refine ⟨TI, q, hX2, ?_⟩
  have hV : Ok l yX8_readsAll cX8_readsAll 4 (some .boolean) 7 0 0 [.ref 278, .int (nI 0)] (mm I r X) (mL L m Y) R 287 (eqP (some (.int (if b = true then nI 1 else nI 0))) (mm TI r X) (mL L m Y) R 287) := hV
  refine Ok.ofV [some (.ref 278), none] rfl (by decide) (Nat.le_of_ble_eq_true rfl) ?_
  cases b with
  | false =>
    refine v_aload_n (pc' := 1) dX8_run_0 rfl rfl ?_
    refine v_iconst (v := nI 0) (pc' := 2) dX8_run_1 rfl (by decide) ?_
    refine v_cV1i (pc' := 5) dX8_run_2 rfl cv_X8_168 kp_M (Nat.le_of_ble_eq_true rfl) rfl (hV) ?_
    refine v_if_ne (pc' := 8) (tgt := 11) dX8_run_5 rfl (by decide) (fun hb => ?_) (fun hb => ?_)
    · exact absurd rfl hb
    · refine v_bipush (v := -4) (pc' := 10) dX8_run_8 rfl (by decide) ?_
      exact v_iret dX8_run_10 rfl (Nat.le_refl _) (Nat.le_refl _) ⟨rfl, rfl, rfl, rfl, rfl⟩
  | true => exact absurd (hbt rfl).1 hno
theorem e_run {p sv k : Nat} {ws : List Nat} {t : QS} {B : MI} (hR : RS R) (hn : n ≤ 100) (hcd : ∀ i, i < n → cd i < 256) (hI : Inv r) (hk4 : k ≤ 4) (hX : MX cd n (nI k, B) I p ws sv) (hyes : aPar (pRun cd n 0 pS0) n = -1) (ht : rqF m (pRun cd n 0 pS0).1.2.2.2 (r, ws, 0) = t) : ∃ (TI : MI) (q : Nat), MX cd n (nI (kv k), B) TI q t.2.1 t.2.2 ∧ Ok l yX8_run cX8_run 2 (some .int) 8 0 0 [.ref 278] (mm I r X) (mL L m Y) R 287 (eqP (some (.int (nI t.2.2))) (mm TI t.1 (SX k r X)) (mL L m (SY k m Y)) R 287) := by
  obtain ⟨b, TI, q, t1, ⟨hX2, hI2, hrf, hbf, hbt⟩, hV⟩ := m_readsAll (l := l) (I := I) (L := L) (X := X) (m := m) (Y := Y) (real := false) (q0 := (r, ws, 0)) hR hn hcd rfl rfl hI hX
  have ht1 := hrf rfl
  subst ht1
  obtain ⟨b2, TI2, q2, t2, ⟨hX3, hI3, hrf3, hbf3, hbt3⟩, hV3⟩ := m_readsAll (l := l) (I := SI TI k) (L := L) (X := SX k r X) (m := m) (Y := SY k m Y) (real := true) (q0 := (r, ws, 0)) hR hn hcd rfl rfl hI (MX_SI (k := k) hX2)
  have hV : Ok l yX8_readsAll cX8_readsAll 4 (some .boolean) 7 0 0 [.ref 278, .int (nI 0)] (mm I r X) (mL L m Y) R 287 (eqP (some (.int (if b = true then nI 1 else nI 0))) (mm TI r X) (mL L m Y) R 287) := hV
  have hV3 : Ok l yX8_readsAll cX8_readsAll 4 (some .boolean) 7 0 0 [.ref 278, .int (nI 1)] (mm (SI TI k) r (SX k r X)) (mL L m (SY k m Y)) R 287 (eqP (some (.int (if b2 = true then nI 1 else nI 0))) (mm TI2 t2.1 (SX k r X)) (mL L m (SY k m Y)) R 287) := hV3
  cases b with
  | false =>
    obtain ⟨h1, h2⟩ := hbf rfl
    rw [hyes] at h1
    exact absurd h1.symm (m1_of (by omega))
  | true =>
    cases b2 with
    | false =>
      obtain ⟨h1, h2⟩ := hbf3 rfl
      rw [hyes] at h1
      exact absurd h1.symm (m1_of (by omega))
    | true =>
      have ht2 : t2 = t := by
        rw [(hbt3 rfl).2, ← ht]
        rfl
      subst ht2
      have e6 : mm TI2 t2.1 (SX k r X) 21 6 = nI t2.2.2 := by rw [mm_o (by decide)]; exact hX3.2.2.2.2.2.1
      refine ⟨TI2, q2, hX3, ?_⟩
      refine Ok.ofV [some (.ref 278), none] rfl (by decide) (Nat.le_of_ble_eq_true rfl) ?_
      refine v_aload_n (pc' := 1) dX8_run_0 rfl rfl ?_
      refine v_iconst (v := nI 0) (pc' := 2) dX8_run_1 rfl (by decide) ?_
      refine v_cV1i (pc' := 5) dX8_run_2 rfl cv_X8_168 kp_M (Nat.le_of_ble_eq_true rfl) rfl (hV) ?_
      refine v_if_ne (pc' := 8) (tgt := 11) dX8_run_5 rfl (by decide) (fun hb => ?_) (fun hb => ?_)
      · refine v_aload_n (pc' := 12) dX8_run_11 rfl rfl ?_
        refine v_cV0v (pc' := 15) dX8_run_12 rfl cv_X8_81 kp_M (Nat.le_of_ble_eq_true rfl) rfl (ok_sv hR hX2.1 hk4) ?_
        refine v_aload_n (pc' := 16) dX8_run_15 rfl rfl ?_
        refine v_iconst (v := nI 1) (pc' := 17) dX8_run_16 rfl (by decide) ?_
        refine v_cV1i (pc' := 20) dX8_run_17 rfl cv_X8_168 kp_M (Nat.le_of_ble_eq_true rfl) rfl (hV3) ?_
        refine v_istore_n1 (pc' := 21) dX8_run_20 rfl (by decide) rfl ?_
        refine v_aload_n (pc' := 22) dX8_run_21 rfl rfl ?_
        refine v_gI (o := 6) (pc' := 25) dX8_run_22 rfl gf_X8_161 kp_M rfl rfl ?_
        exact v_iret dX8_run_25 rfl (Nat.le_refl _) (Nat.le_refl _) ⟨by rw [e6], rfl, rfl, rfl, rfl⟩
      · exact absurd hb (by decide)
end B42
