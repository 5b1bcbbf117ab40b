/-! ===== State: publish and settle ===== -/
theorem fIn_eqr {M c x K : Nat} {r : Row} (hm : IM r) {j : Nat} (h : j < 24 + 110 * c ∨ 88 + 110 * c ≤ j) : fIn M c x K r j = r j ∨ ¬ (0 < M ∧ M ≤ 64) := by
  by_cases hM : 0 < M ∧ M ≤ 64
  · exact Or.inl (fIn_ne hM.1 hM.2 h K)
  · exact Or.inr hM
theorem rIn_out {c x j : Nat} {r : Row} (hm : IM r) (h : j < 24 + 110 * c ∨ 88 + 110 * c ≤ j) : rIn c x r j = r j := fIn_ne (by have := hm.2.1; omega) hm.2.2.1 h _
theorem rOut_out {c x j : Nat} {r : Row} (hm : IM r) (h : j < 24 + 110 * c ∨ 88 + 110 * c ≤ j) : rOut c x r j = r j := fOut_ne (by have := hm.2.1; omega) hm.2.2.1 h _
theorem rDrop_out {c j : Nat} {r : Row} (hm : IM r) (hi : IC r c) (h : j < 7 + 110 * c ∨ 88 + 110 * c ≤ j) : rDrop c r j = r j := by
  unfold rDrop
  split
  · rfl
  · exact rRem_out hm h hi.1.2.1
theorem rDrop_IM {c : Nat} {r : Row} (hm : IM r) (hi : IC r c) : IM (rDrop c r) := IM_of hm (rDrop_out hm hi (by omega)) (rDrop_out hm hi (by omega))
theorem rDrop_IS {c : Nat} {r : Row} (hm : IM r) (hi : IC r c) : IS (rDrop c r) c ∧ gS (rDrop c r) c < gC r c := by
  obtain ⟨h1, h2, h3, h4, h5⟩ := id hi
  unfold rDrop
  split
  · exact ⟨h1, by assumption⟩
  · rename_i h
    obtain ⟨q1, q2⟩ := rRem_IS (idx := gS r c - 1) hm h1 (by omega)
    exact ⟨q1, by omega⟩
theorem rTk_out {c x j : Nat} {r : Row} (hm : IM r) (hz : gS r c < 16) (h : j < 7 + 110 * c ∨ 88 + 110 * c ≤ j) : rTk c x r j = r j := by
  have e : ∀ k, k < 7 + 110 * c ∨ 88 + 110 * c ≤ k → va_up (rPutF c (gS r c) x r) (7 + 110 * c) (nI (gS r c + 1)) k = r k := fun k hk => by
    rw [va_up_ne _ _ (by omega), rPutF_out (by omega)]
  unfold rTk
  rw [rIn_out (IM_of hm (e 0 (by omega)) (e 1 (by omega))) (by omega), e j h]
theorem rTake_out {c x j : Nat} {r : Row} (hm : IM r) (hi : IC r c) (h : j < 7 + 110 * c ∨ 88 + 110 * c ≤ j) : rTake c x r j = r j := by
  have hz := (rDrop_IS hm hi).2
  have h16 := hi.2.2.2.2
  unfold rTake
  cases hf : rFind c x r with
  | none =>
    show rTk c x (rDrop c r) j = r j
    rw [rTk_out (rDrop_IM hm hi) (by omega) h, rDrop_out hm hi h]
  | some k =>
    have hk := (fdx_lt hf).1
    have := hi.1.2.1
    show rPutF c k x r j = r j
    exact rPutF_out (by omega)
theorem rTake_IM {c x : Nat} {r : Row} (hm : IM r) (hi : IC r c) : IM (rTake c x r) := IM_of hm (rTake_out hm hi (by omega)) (rTake_out hm hi (by omega))
/-- what a request changes, once it is known who serves it -/
def rTl (c by_ : Nat) (fh fm hp : Int32) (r : Row) : Row :=
  let r1 := va_up r (89 + 110 * c + 3) (r (89 + 110 * c + 3) + fh)
  let r2 := va_up r1 (89 + 110 * c + 4) (r1 (89 + 110 * c + 4) + fm)
  let r3 := va_up r2 (89 + 110 * c + 5) (r2 (89 + 110 * c + 5) + hp)
  let k := if by_ = 5 then 2 else if by_ = c then 0 else 1
  va_up r3 (89 + 110 * c + k) (r3 (89 + 110 * c + k) + nI 1)
def rSet (c x by_ : Nat) (fh fm hp : Int32) (r : Row) : Row :=
  let r4 := rTl c by_ fh fm hp r
  let r5 := if by_ < 5 then rTake by_ x r4 else r4
  if by_ ≠ c ∧ r5 4 ≠ 0 then rTake c x r5 else r5
theorem rTl_out {c by_ j : Nat} {fh fm hp : Int32} {r : Row} (h : j < 89 + 110 * c ∨ 95 + 110 * c ≤ j) : rTl c by_ fh fm hp r j = r j := by
  unfold rTl
  have hk : (if by_ = 5 then 2 else if by_ = c then 0 else 1) ≤ 2 := by
    repeat' split
    all_goals omega
  rw [va_up_ne _ _ (by omega), va_up_ne _ _ (by omega), va_up_ne _ _ (by omega), va_up_ne _ _ (by omega)]
section B18
variable {l : Launch} {I : MI} {L : ML} {R : MR}
theorem ok_sendDigest {s f : Nat} {TI : MI} {TL : ML} {ta : Int32} (hR : RS R) (hs : s < 5) (hf : f < 5) (hm : IM (I s)) (hTI : va_up I s (rPub f (I s) (L s)) = TI) (hTL : va_up L s (rPq f (I s) (L s)).2.1 = TL) (hta : (rPq f (I s) (L s)).2.2 = ta) : Ok l yX4_sendDigest cX4_sendDigest 11 (some .int) 1 0 0 [.ref (pb s), .int (nI f)] I L R 287 (eqP (some (.int ta)) TI TL R 287) := by
  obtain ⟨m1, m2, m3, m4, m5, m6⟩ := id hm
  refine Ok.ofV [some (.ref (pb s)), some (.int (nI f)), none, none, none, none, none, none, none, none, none] rfl (by decide) (Nat.le_of_ble_eq_true rfl) ?_
  refine v_aload_n (pc' := 1) dX4_sendDigest_0 rfl rfl ?_
  refine v_getQ (pc' := 4) dX4_sendDigest_1 rfl gf_X4_11 (kp_T hs) rfl (rf_T_caches hR hs) ?_
  refine v_iload_n (pc' := 5) dX4_sendDigest_4 rfl rfl ?_
  refine v_aaloadQ (pc' := 6) dX4_sendDigest_5 rfl (kp_CA hs) rfl hf (rf_CA hR hs hf) ?_
  refine v_astore_n2 (pc' := 7) dX4_sendDigest_6 rfl (by decide) rfl ?_
  refine v_aload_n (pc' := 8) dX4_sendDigest_7 rfl rfl ?_
  refine v_gI (o := 88 + 110 * f) (pc' := 11) dX4_sendDigest_8 rfl gf_X4_60 (kp_C hs hf) rfl (by omega) ?_
  refine v_istore_n3 (pc' := 12) dX4_sendDigest_11 rfl (by decide) rfl ?_
  refine v_aload_n (pc' := 13) dX4_sendDigest_12 rfl rfl ?_
  refine v_getQ (pc' := 16) dX4_sendDigest_13 rfl gf_X4_63 (kp_C hs hf) rfl (rf_C_filter hR hs hf) ?_
  refine v_cV0l (pc' := 19) dX4_sendDigest_16 rfl cv_X4_67 (kp_F hs hf) (Nat.le_of_ble_eq_true rfl) rfl (ok_bits hR hs hf m1 m3) ?_
  refine v_lstore4 (pc' := 21) dX4_sendDigest_19 rfl (by decide) rfl ?_
  refine v_iconst (v := nI 1) (pc' := 22) dX4_sendDigest_21 rfl (by decide) ?_
  refine v_lload (pc' := 24) dX4_sendDigest_22 rfl rfl ?_
  refine v_aload_n (pc' := 25) dX4_sendDigest_24 rfl rfl ?_
  refine v_gL (o := f) (pc' := 28) dX4_sendDigest_25 rfl gf_X4_73 (kp_C hs hf) rfl (Nat.add_zero _) ?_
  refine v_lxor (pc' := 29) dX4_sendDigest_28 rfl ?_
  refine v_cS1i (pc' := 32) dX4_sendDigest_29 rfl cs_X4_77 (Nat.le_of_ble_eq_true rfl) rfl (ok_bitCount) ?_
  refine v_iadd (pc' := 33) dX4_sendDigest_32 rfl ?_
  refine v_istore6 (pc' := 35) dX4_sendDigest_33 rfl (by decide) rfl ?_
  refine v_aload_n (pc' := 36) dX4_sendDigest_35 rfl rfl ?_
  refine v_getQ (pc' := 39) dX4_sendDigest_36 rfl gf_X4_31 (kp_T hs) rfl (rf_T_shape hR hs) ?_
  refine v_cV0i (pc' := 42) dX4_sendDigest_39 rfl cv_X4_83 (kp_S hs) (Nat.le_of_ble_eq_true rfl) rfl (ok_wholeCost (kp_S hs) m1 m3) ?_
  refine v_istore7 (pc' := 44) dX4_sendDigest_42 rfl (by decide) rfl ?_
  refine v_aload_n (pc' := 45) dX4_sendDigest_44 rfl rfl ?_
  refine v_dup (pc' := 46) dX4_sendDigest_45 rfl rfl ?_
  refine v_gI (o := 88 + 110 * f) (pc' := 49) dX4_sendDigest_46 rfl gf_X4_60 (kp_C hs hf) rfl (by omega) ?_
  refine v_iconst (v := nI 1) (pc' := 50) dX4_sendDigest_49 rfl (by decide) ?_
  refine v_iadd (pc' := 51) dX4_sendDigest_50 rfl ?_
  refine v_pI (o := 88 + 110 * f) (pc' := 54) dX4_sendDigest_51 rfl gf_X4_60 pf_X4_60 (kp_C hs hf) rfl (by omega) (Or.inl rfl) rfl rfl ?_
  refine v_aload_n (pc' := 55) dX4_sendDigest_54 rfl rfl ?_
  refine v_lload (pc' := 57) dX4_sendDigest_55 rfl rfl ?_
  refine v_pL (o := f) (pc' := 60) dX4_sendDigest_57 rfl gf_X4_73 pf_X4_73 (kp_C hs hf) rfl (Nat.add_zero _) (Or.inl rfl) rfl rfl ?_
  refine v_iconst (v := nI 0) (pc' := 61) dX4_sendDigest_60 rfl (by decide) ?_
  refine v_istore8 (pc' := 63) dX4_sendDigest_61 rfl (by decide) rfl ?_
  refine v_iconst (v := nI 0) (pc' := 64) dX4_sendDigest_63 rfl (by decide) ?_
  refine v_istore9 (pc' := 66) dX4_sendDigest_64 rfl (by decide) rfl ?_
  generalize hhad : I s (88 + 110 * f) = had
  generalize hnow : fBt (I s) f (gM (I s)) = now
  generalize hch : nI 1 + pcn (now ^^^ L s f) 64 = ch
  generalize hwh : nI (2 + gM (I s) / 4) = wh
  generalize hQ0 : (va_up (I s) (88 + 110 * f) (had + nI 1), va_up (L s) f now, nI 0) = Q0
  have hPq : rPq f (I s) (L s) = pbS f had now ch wh (I s 2) 5 Q0 := by
    unfold rPq rBits
    rw [hnow, hhad, hch, hwh, hQ0]
  have loop : ∀ (n t : Nat) (J : MI) (Q : ML) (w : Option Value), t + n = 5 → J = va_up I s (pbS f had now ch wh (I s 2) t Q0).1 → Q = va_up L s (pbS f had now ch wh (I s 2) t Q0).2.1 → V l yX4_sendDigest cX4_sendDigest 11 (some .int) (rmd 1 0 0) (QM 0 0 (eqP (some (.int ta)) TI TL R 287)) (fun _ _ => True) 66 [some (.ref (pb s)), some (.int (nI f)), some (.ref (pq s f)), some (.int had), some (.long now), none, some (.int ch), some (.int wh), some (.int (pbS f had now ch wh (I s 2) t Q0).2.2), some (.int (nI t)), w] [] J Q R 287 0 0 := by
    intro n
    induction n with
    | zero =>
      intro t J Q w ht hJ hQ
      have t5 : t = 5 := by omega
      subst t5
      have ej : J s = (pbS f had now ch wh (I s 2) 5 Q0).1 := by rw [hJ, va_up_self]
      refine v_iload (pc' := 68) dX4_sendDigest_66 rfl rfl ?_
      refine v_iconst (v := nI 5) (pc' := 69) dX4_sendDigest_68 rfl (by decide) ?_
      refine v_icmp_ge (pc' := 72) (tgt := 158) dX4_sendDigest_69 rfl (by decide) (fun hb => ?_) (fun hb => ?_)
      · refine v_aload_n (pc' := 159) dX4_sendDigest_158 rfl rfl ?_
        refine v_getQ (pc' := 162) dX4_sendDigest_159 rfl gf_X4_98 (kp_C hs hf) rfl (rf_C_tallies hR hs hf) ?_
        refine v_bipush (v := nI 6) (pc' := 164) dX4_sendDigest_162 rfl (by decide) ?_
        refine v_dup2 (pc' := 165) dX4_sendDigest_164 rfl rfl rfl ?_
        refine v_ial (pc' := 166) dX4_sendDigest_165 rfl (kp_tallies hs hf) rfl rfl (by omega) ?_
        refine v_iload (pc' := 168) dX4_sendDigest_166 rfl rfl ?_
        refine v_iadd (pc' := 169) dX4_sendDigest_168 rfl ?_
        refine v_ias (pc' := 170) dX4_sendDigest_169 rfl (kp_tallies hs hf) rfl rfl (by omega) ?_
        refine v_iload (pc' := 172) dX4_sendDigest_170 rfl rfl ?_
        exact v_iret dX4_sendDigest_172 rfl (Nat.le_refl _) (Nat.le_refl _) ⟨by rw [← hta, hPq], by
            rw [← hTI, ej, hJ, stI_up]
            unfold rPub
            rw [hPq], by rw [hQ, ← hTL, hPq], rfl, rfl⟩
      · exact absurd (by decide) hb
    | succ n ih =>
      intro t J Q w ht hJ hQ
      have hto : t < 5 := by omega
      have ej : J s = (pbS f had now ch wh (I s 2) t Q0).1 := by rw [hJ, va_up_self]
      have eq : Q s = (pbS f had now ch wh (I s 2) t Q0).2.1 := by rw [hQ, va_up_self]
      have e88 : J s (88 + 110 * f) = had + nI 1 := by
        rw [ej, pbS_ne (fun t' ht' => by omega) t (by omega), ← hQ0]
        exact va_up_self _ _ _
      have e2 : J s 2 = I s 2 := by
        rw [ej, pbS_ne (fun t' ht' => by omega) t (by omega), ← hQ0]
        exact va_up_ne _ _ (by omega)
      have ep : Q s f = now := by
        rw [eq, pbS_neL hf t, ← hQ0]
        exact va_up_self _ _ _
      have skip : ¬ (t ≠ f ∧ J s (96 + 110 * f + t) = nI 1) → pbS f had now ch wh (I s 2) (t + 1) Q0 = pbS f had now ch wh (I s 2) t Q0 := by
        intro h
        rw [ej] at h
        exact if_neg h
      refine v_iload (pc' := 68) dX4_sendDigest_66 rfl rfl ?_
      refine v_iconst (v := nI 5) (pc' := 69) dX4_sendDigest_68 rfl (by decide) ?_
      refine v_icmp_ge (pc' := 72) (tgt := 158) dX4_sendDigest_69 rfl (by decide) (fun hb => ?_) (fun hb => ?_)
      · exact absurd hb (nI_ge (by omega) (by omega))
      · refine v_iload (pc' := 74) dX4_sendDigest_72 rfl rfl ?_
        refine v_iload_n (pc' := 75) dX4_sendDigest_74 rfl rfl ?_
        refine v_icmp_eq (pc' := 78) (tgt := 152) dX4_sendDigest_75 rfl (by decide) (fun hq => ?_) (fun hq => ?_)
        · have hq := (nI_eq (by omega) (by omega)).mp hq
          refine v_iinc9 (pc' := 155) dX4_sendDigest_152 rfl (by decide) rfl (inc_nI _) ?_
          refine v_goto (tgt := 66) dX4_sendDigest_155 (by decide) ?_
          have := ih (t + 1) J Q w (by omega) (by rw [skip (fun z => z.1 hq)]; exact hJ) (by rw [skip (fun z => z.1 hq)]; exact hQ)
          rw [skip (fun z => z.1 hq)] at this
          exact this
        · have hq : t ≠ f := fun z => hq (by rw [z])
          refine v_aload_n (pc' := 79) dX4_sendDigest_78 rfl rfl ?_
          refine v_getQ (pc' := 82) dX4_sendDigest_79 rfl gf_X4_87 (kp_C hs hf) rfl (rf_C_links hR hs hf) ?_
          refine v_iload (pc' := 84) dX4_sendDigest_82 rfl rfl ?_
          refine v_ial (pc' := 85) dX4_sendDigest_84 rfl (kp_links hs hf) rfl rfl (by omega) ?_
          refine v_iconst (v := nI 1) (pc' := 86) dX4_sendDigest_85 rfl (by decide) ?_
          refine v_icmp_ne (pc' := 89) (tgt := 152) dX4_sendDigest_86 rfl (by decide) (fun hl => ?_) (fun hl => ?_)
          · refine v_iinc9 (pc' := 155) dX4_sendDigest_152 rfl (by decide) rfl (inc_nI _) ?_
            refine v_goto (tgt := 66) dX4_sendDigest_155 (by decide) ?_
            have := ih (t + 1) J Q w (by omega) (by rw [skip (fun z => hl z.2)]; exact hJ) (by rw [skip (fun z => hl z.2)]; exact hQ)
            rw [skip (fun z => hl z.2)] at this
            exact this
          · have step : pbS f had now ch wh (I s 2) (t + 1) Q0 = (va_up (va_up (J s) (106 + 110 * t + f) (had + nI 1)) (111 + 110 * t + f) (I s 2), va_up (Q s) (5 + 5 * t + f) now, (pbS f had now ch wh (I s 2) t Q0).2.2 + (if J s (106 + 110 * t + f) = had ∧ ch < wh then ch else wh)) := by
              rw [ej, eq]
              exact if_pos ⟨hq, by rw [← ej]; exact hl⟩
            have t133 : ∀ (v : Int32) (w : Option Value), v = (if J s (106 + 110 * t + f) = had ∧ ch < wh then ch else wh) → V l yX4_sendDigest cX4_sendDigest 11 (some .int) (rmd 1 0 0) (QM 0 0 (eqP (some (.int ta)) TI TL R 287)) (fun _ _ => True) 133 [some (.ref (pb s)), some (.int (nI f)), some (.ref (pq s f)), some (.int had), some (.long now), none, some (.int ch), some (.int wh), some (.int (pbS f had now ch wh (I s 2) t Q0).2.2), some (.int (nI t)), w] [.int v, .int (pbS f had now ch wh (I s 2) t Q0).2.2] J Q R 287 0 0 := by
              intro v w hv
              refine v_iadd (pc' := 134) dX4_sendDigest_133 rfl ?_
              refine v_istore8 (pc' := 136) dX4_sendDigest_134 rfl (by decide) rfl ?_
              refine v_aload_n (pc' := 137) dX4_sendDigest_136 rfl rfl ?_
              refine v_getQ (pc' := 140) dX4_sendDigest_137 rfl gf_X4_11 (kp_T hs) rfl (rf_T_caches hR hs) ?_
              refine v_iload (pc' := 142) dX4_sendDigest_140 rfl rfl ?_
              refine v_aaloadQ (pc' := 143) dX4_sendDigest_142 rfl (kp_CA hs) rfl hto (rf_CA hR hs hto) ?_
              refine v_iload_n (pc' := 144) dX4_sendDigest_143 rfl rfl ?_
              refine v_aload_n (pc' := 145) dX4_sendDigest_144 rfl rfl ?_
              refine v_aload_n (pc' := 146) dX4_sendDigest_145 rfl rfl ?_
              refine v_gI (o := 2) (pc' := 149) dX4_sendDigest_146 rfl gf_X4_17 (kp_T hs) rfl rfl ?_
              refine v_cV3v (pc' := 152) dX4_sendDigest_149 rfl cv_X4_94 (kp_C hs hto) (Nat.le_of_ble_eq_true rfl) rfl (ok_receive hR hs hto hf) ?_
              refine v_iinc9 (pc' := 155) dX4_sendDigest_152 rfl (by decide) rfl (inc_nI _) ?_
              refine v_goto (tgt := 66) dX4_sendDigest_155 (by decide) ?_
              have := ih (t + 1) (stI (stI J s (106 + 110 * t + f) (J s (88 + 110 * f))) s (111 + 110 * t + f) (J s 2)) (stL Q s (5 + 5 * t + f) (Q s f)) w (by omega) (by
                  rw [step, e88, e2]
                  unfold stI
                  rw [va_up_self, bx_uu]
                  show va_up J s _ = va_up I s _
                  rw [hJ, bx_uu, va_up_self]) (by
                  rw [step, ep]
                  unfold stL
                  show va_up Q s _ = va_up L s _
                  rw [hQ, bx_uu, va_up_self])
              rw [step] at this
              rw [hv]
              exact this
            refine v_aload_n (pc' := 90) dX4_sendDigest_89 rfl rfl ?_
            refine v_getQ (pc' := 93) dX4_sendDigest_90 rfl gf_X4_11 (kp_T hs) rfl (rf_T_caches hR hs) ?_
            refine v_iload (pc' := 95) dX4_sendDigest_93 rfl rfl ?_
            refine v_aaloadQ (pc' := 96) dX4_sendDigest_95 rfl (kp_CA hs) rfl hto (rf_CA hR hs hto) ?_
            refine v_getQ (pc' := 99) dX4_sendDigest_96 rfl gf_X4_91 (kp_C hs hto) rfl (rf_C_copyVersions hR hs hto) ?_
            refine v_iload_n (pc' := 100) dX4_sendDigest_99 rfl rfl ?_
            refine v_ial (pc' := 101) dX4_sendDigest_100 rfl (kp_copyVersions hs hto) rfl rfl (by omega) ?_
            refine v_iload_n (pc' := 102) dX4_sendDigest_101 rfl rfl ?_
            refine v_icmp_ne (pc' := 105) (tgt := 116) dX4_sendDigest_102 rfl (by decide) (fun hv => ?_) (fun hv => ?_)
            · refine v_iconst (v := nI 0) (pc' := 117) dX4_sendDigest_116 rfl (by decide) ?_
              refine v_istore10 (pc' := 119) dX4_sendDigest_117 rfl (by decide) rfl ?_
              refine v_iload (pc' := 121) dX4_sendDigest_119 rfl rfl ?_
              refine v_iload (pc' := 123) dX4_sendDigest_121 rfl rfl ?_
              refine v_if_eq (pc' := 126) (tgt := 131) dX4_sendDigest_123 rfl (by decide) (fun hb => ?_) (fun hb => ?_)
              · refine v_iload (pc' := 133) dX4_sendDigest_131 rfl rfl ?_
                exact t133 _ _ (by rw [if_neg (fun z => hv z.1)])
              · exact absurd rfl hb
            · refine v_iload (pc' := 107) dX4_sendDigest_105 rfl rfl ?_
              refine v_iload (pc' := 109) dX4_sendDigest_107 rfl rfl ?_
              refine v_icmp_ge (pc' := 112) (tgt := 116) dX4_sendDigest_109 rfl (by decide) (fun hw => ?_) (fun hw => ?_)
              · refine v_iconst (v := nI 0) (pc' := 117) dX4_sendDigest_116 rfl (by decide) ?_
                refine v_istore10 (pc' := 119) dX4_sendDigest_117 rfl (by decide) rfl ?_
                refine v_iload (pc' := 121) dX4_sendDigest_119 rfl rfl ?_
                refine v_iload (pc' := 123) dX4_sendDigest_121 rfl rfl ?_
                refine v_if_eq (pc' := 126) (tgt := 131) dX4_sendDigest_123 rfl (by decide) (fun hb => ?_) (fun hb => ?_)
                · refine v_iload (pc' := 133) dX4_sendDigest_131 rfl rfl ?_
                  exact t133 _ _ (by rw [if_neg (fun z => absurd z.2 (Int32.not_lt.mpr hw))])
                · exact absurd rfl hb
              · refine v_iconst (v := nI 1) (pc' := 113) dX4_sendDigest_112 rfl (by decide) ?_
                refine v_goto (tgt := 117) dX4_sendDigest_113 (by decide) ?_
                refine v_istore10 (pc' := 119) dX4_sendDigest_117 rfl (by decide) rfl ?_
                refine v_iload (pc' := 121) dX4_sendDigest_119 rfl rfl ?_
                refine v_iload (pc' := 123) dX4_sendDigest_121 rfl rfl ?_
                refine v_if_eq (pc' := 126) (tgt := 131) dX4_sendDigest_123 rfl (by decide) (fun hb => ?_) (fun hb => ?_)
                · exact absurd hb (by decide)
                · refine v_iload (pc' := 128) dX4_sendDigest_126 rfl rfl ?_
                  refine v_goto (tgt := 133) dX4_sendDigest_128 (by decide) ?_
                  exact t133 _ _ (by rw [if_pos ⟨hv, Int32.not_le.mp hw⟩])
  have := loop 5 0 (stI I s (88 + 110 * f) (had + nI 1)) (stL L s f now) none (by omega) (by rw [← hQ0]; rfl) (by rw [← hQ0]; rfl)
  rw [← hQ0] at this
  exact this
theorem ok_settle {s c x by_ gw pw : Nat} {TI : MI} (hR : RS R) (hs : s < 5) (hc : c < 5) (hx : x < 1000) (hm : IM (I s)) (hi : ∀ c, c < 5 → IC (I s) c) (hby : by_ ≤ 5) (kW : KP 287 pw (6, gw, 0, 0, 0)) (hgw : gw ≠ s) (hsv : I gw 1 = nI by_) (hTI : va_up I s (rSet c x by_ (I gw 2) (I gw 3) (I gw 0 - nI 1) (I s)) = TI) : Ok l yX4_settle cX4_settle 5 none 4 0 0 [.ref (pb s), .ref pw, .int (nI c), .int (nI x)] I L R 287 (eqP (none) TI L R 287) := by
  have hw : ∀ (r : Row) (k : Nat), va_up I s r gw k = I gw k := fun r k => by rw [va_up_ne _ _ hgw]
  generalize hr4 : rTl c by_ (I gw 2) (I gw 3) (I gw 0 - nI 1) (I s) = r4
  have o4 : ∀ j, j < 89 + 110 * c ∨ 95 + 110 * c ≤ j → r4 j = I s j := fun j hj => by rw [← hr4]; exact rTl_out hj
  have m4 : IM r4 := IM_of hm (o4 0 (by omega)) (o4 1 (by omega))
  have i4 : ∀ d, d < 5 → IC r4 d := fun d hd => IC_of (hi d hd) (fun j h1 h2 => o4 j (by omega))
  generalize hr5 : (if by_ < 5 then rTake by_ x r4 else r4) = r5
  have hset : rSet c x by_ (I gw 2) (I gw 3) (I gw 0 - nI 1) (I s) = if by_ ≠ c ∧ r5 4 ≠ 0 then rTake c x r5 else r5 := by
    unfold rSet
    simp only [hr4, hr5]
  have m5 : IM r5 := by
    rw [← hr5]
    split
    · exact rTake_IM m4 (i4 by_ (by assumption))
    · exact m4
  have i5 : by_ ≠ c → IC r5 c := by
    intro hne
    rw [← hr5]
    split
    · rename_i hlt
      exact IC_of (i4 c hc) (fun j h1 h2 => rTake_out m4 (i4 by_ hlt) (by omega))
    · exact i4 c hc
  rw [hset] at hTI
  refine Ok.ofV [some (.ref (pb s)), some (.ref pw), some (.int (nI c)), some (.int (nI x)), none] rfl (by decide) (Nat.le_of_ble_eq_true rfl) ?_
  have t99 : ∀ (w : Option Value) (J : MI), J = va_up I s r5 → V l yX4_settle cX4_settle 5 none (rmd 4 0 0) (QM 0 0 (eqP (none) TI L R 287)) (fun _ _ => True) 99 [some (.ref (pb s)), some (.ref pw), some (.int (nI c)), some (.int (nI x)), w] [] J L R 287 0 0 := by
    intro w J hJ
    have ew : J gw 1 = nI by_ := by rw [hJ, hw]; exact hsv
    have ej : J s = r5 := by rw [hJ, va_up_self]
    refine v_aload_n (pc' := 100) dX4_settle_99 rfl rfl ?_
    refine v_gI (o := 1) (pc' := 103) dX4_settle_100 rfl gf_X4_127 kW rfl rfl ?_
    refine v_iload_n (pc' := 104) dX4_settle_103 rfl rfl ?_
    refine v_icmp_eq (pc' := 107) (tgt := 125) dX4_settle_104 rfl (by decide) (fun hb => ?_) (fun hb => ?_)
    · rw [ew] at hb
      have hb := (nI_eq (by omega) (by omega)).mp hb
      exact v_vret dX4_settle_125 rfl (Nat.le_refl _) (Nat.le_refl _) ⟨rfl, by rw [hJ, ← hTI, if_neg (fun z => z.1 hb)], rfl, rfl, rfl⟩
    · have hb : by_ ≠ c := fun z => hb (by rw [ew, z])
      refine v_aload_n (pc' := 108) dX4_settle_107 rfl rfl ?_
      refine v_gI (o := 4) (pc' := 111) dX4_settle_108 rfl gf_X4_24 (kp_T hs) rfl rfl ?_
      refine v_if_eq (pc' := 114) (tgt := 125) dX4_settle_111 rfl (by decide) (fun hq => ?_) (fun hq => ?_)
      · exact v_vret dX4_settle_125 rfl (Nat.le_refl _) (Nat.le_refl _) ⟨rfl, by rw [hJ, ← hTI, if_neg (fun z => z.2 (by rw [← ej]; exact hq))], rfl, rfl, rfl⟩
      · refine v_aload_n (pc' := 115) dX4_settle_114 rfl rfl ?_
        refine v_getQ (pc' := 118) dX4_settle_115 rfl gf_X4_11 (kp_T hs) rfl (rf_T_caches hR hs) ?_
        refine v_iload_n (pc' := 119) dX4_settle_118 rfl rfl ?_
        refine v_aaloadQ (pc' := 120) dX4_settle_119 rfl (kp_CA hs) rfl hc (rf_CA hR hs hc) ?_
        refine v_iload_n (pc' := 121) dX4_settle_120 rfl rfl ?_
        refine v_cV1i (pc' := 124) dX4_settle_121 rfl cv_X4_130 (kp_C hs hc) (Nat.le_of_ble_eq_true rfl) rfl (ok_take hR hs hc hx (by rw [ej]; exact m5) (by rw [ej]; exact i5 hb)) ?_
        refine v_pop (pc' := 125) dX4_settle_124 rfl rfl ?_
        exact v_vret dX4_settle_125 rfl (Nat.le_refl _) (Nat.le_refl _) ⟨rfl, by rw [ej, hJ, bx_uu, ← hTI, if_pos ⟨hb, by rw [← ej]; exact hq⟩], rfl, rfl, rfl⟩
  refine v_aload_n (pc' := 1) dX4_settle_0 rfl rfl ?_
  refine v_getQ (pc' := 4) dX4_settle_1 rfl gf_X4_11 (kp_T hs) rfl (rf_T_caches hR hs) ?_
  refine v_iload_n (pc' := 5) dX4_settle_4 rfl rfl ?_
  refine v_aaloadQ (pc' := 6) dX4_settle_5 rfl (kp_CA hs) rfl hc (rf_CA hR hs hc) ?_
  refine v_getQ (pc' := 9) dX4_settle_6 rfl gf_X4_98 (kp_C hs hc) rfl (rf_C_tallies hR hs hc) ?_
  refine v_astore4 (pc' := 11) dX4_settle_9 rfl (by decide) rfl ?_
  refine v_aload (pc' := 13) dX4_settle_11 rfl rfl ?_
  refine v_iconst (v := nI 3) (pc' := 14) dX4_settle_13 rfl (by decide) ?_
  refine v_dup2 (pc' := 15) dX4_settle_14 rfl rfl rfl ?_
  refine v_ial (pc' := 16) dX4_settle_15 rfl (kp_tallies hs hc) rfl rfl (by omega) ?_
  refine v_aload_n (pc' := 17) dX4_settle_16 rfl rfl ?_
  refine v_gI (o := 2) (pc' := 20) dX4_settle_17 rfl gf_X4_116 kW rfl rfl ?_
  refine v_iadd (pc' := 21) dX4_settle_20 rfl ?_
  refine v_ias (pc' := 22) dX4_settle_21 rfl (kp_tallies hs hc) rfl rfl (by omega) ?_
  refine v_aload (pc' := 24) dX4_settle_22 rfl rfl ?_
  refine v_iconst (v := nI 4) (pc' := 25) dX4_settle_24 rfl (by decide) ?_
  refine v_dup2 (pc' := 26) dX4_settle_25 rfl rfl rfl ?_
  refine v_ial (pc' := 27) dX4_settle_26 rfl (kp_tallies hs hc) rfl rfl (by omega) ?_
  refine v_aload_n (pc' := 28) dX4_settle_27 rfl rfl ?_
  refine v_gI (o := 3) (pc' := 31) dX4_settle_28 rfl gf_X4_121 kW rfl rfl ?_
  refine v_iadd (pc' := 32) dX4_settle_31 rfl ?_
  refine v_ias (pc' := 33) dX4_settle_32 rfl (kp_tallies hs hc) rfl rfl (by omega) ?_
  refine v_aload (pc' := 35) dX4_settle_33 rfl rfl ?_
  refine v_iconst (v := nI 5) (pc' := 36) dX4_settle_35 rfl (by decide) ?_
  refine v_dup2 (pc' := 37) dX4_settle_36 rfl rfl rfl ?_
  refine v_ial (pc' := 38) dX4_settle_37 rfl (kp_tallies hs hc) rfl rfl (by omega) ?_
  refine v_aload_n (pc' := 39) dX4_settle_38 rfl rfl ?_
  refine v_gI (o := 0) (pc' := 42) dX4_settle_39 rfl gf_X4_124 kW rfl rfl ?_
  refine v_iconst (v := nI 1) (pc' := 43) dX4_settle_42 rfl (by decide) ?_
  refine v_isub (pc' := 44) dX4_settle_43 rfl ?_
  refine v_iadd (pc' := 45) dX4_settle_44 rfl ?_
  refine v_ias (pc' := 46) dX4_settle_45 rfl (kp_tallies hs hc) rfl rfl (by omega) ?_
  generalize hJ3 : stI (stI (stI I s (89 + 110 * c + 3) (I s (89 + 110 * c + 3) + I gw 2)) s (89 + 110 * c + 4) (stI I s (89 + 110 * c + 3) (I s (89 + 110 * c + 3) + I gw 2) s (89 + 110 * c + 4) + stI I s (89 + 110 * c + 3) (I s (89 + 110 * c + 3) + I gw 2) gw 3)) s (89 + 110 * c + 5) (stI (stI I s (89 + 110 * c + 3) (I s (89 + 110 * c + 3) + I gw 2)) s (89 + 110 * c + 4) (stI I s (89 + 110 * c + 3) (I s (89 + 110 * c + 3) + I gw 2) s (89 + 110 * c + 4) + stI I s (89 + 110 * c + 3) (I s (89 + 110 * c + 3) + I gw 2) gw 3) s (89 + 110 * c + 5) + (stI (stI I s (89 + 110 * c + 3) (I s (89 + 110 * c + 3) + I gw 2)) s (89 + 110 * c + 4) (stI I s (89 + 110 * c + 3) (I s (89 + 110 * c + 3) + I gw 2) s (89 + 110 * c + 4) + stI I s (89 + 110 * c + 3) (I s (89 + 110 * c + 3) + I gw 2) gw 3) gw 0 - nI 1)) = J3
  have j4 : stI J3 s (89 + 110 * c + (if by_ = 5 then 2 else if by_ = c then 0 else 1)) (J3 s (89 + 110 * c + (if by_ = 5 then 2 else if by_ = c then 0 else 1)) + nI 1) = va_up I s r4 := by
    rw [← hr4, ← hJ3]
    unfold rTl stI
    simp only [va_up_self, bx_uu, va_up_ne _ _ hgw]
  have ew3 : J3 gw 1 = nI by_ := by
    rw [← hJ3, stI_ne (fun q => hgw q.1), stI_ne (fun q => hgw q.1), stI_ne (fun q => hgw q.1)]
    exact hsv
  refine v_aload_n (pc' := 47) dX4_settle_46 rfl rfl ?_
  refine v_gI (o := 1) (pc' := 50) dX4_settle_47 rfl gf_X4_127 kW rfl rfl ?_
  refine v_iconst (v := nI 5) (pc' := 51) dX4_settle_50 rfl (by decide) ?_
  refine v_icmp_ne (pc' := 54) (tgt := 65) dX4_settle_51 rfl (by decide) (fun h5 => ?_) (fun h5 => ?_)
  · have h5 : by_ ≠ 5 := fun z => h5 (by rw [ew3, z])
    have hlt : by_ < 5 := by omega
    have t80 : ∀ k : Nat, k = (if by_ = 5 then 2 else if by_ = c then 0 else 1) → V l yX4_settle cX4_settle 5 none (rmd 4 0 0) (QM 0 0 (eqP (none) TI L R 287)) (fun _ _ => True) 80 [some (.ref (pb s)), some (.ref pw), some (.int (nI c)), some (.int (nI x)), some (.ref (pq s c + 2))] [.int (nI k), .ref (pq s c + 2)] J3 L R 287 0 0 := by
      intro k hk
      have hk2 : k < 7 := by
        rw [hk]
        repeat' split
        all_goals omega
      refine v_dup2 (pc' := 81) dX4_settle_80 rfl rfl rfl ?_
      refine v_ial (pc' := 82) dX4_settle_81 rfl (kp_tallies hs hc) rfl rfl (by omega) ?_
      refine v_iconst (v := nI 1) (pc' := 83) dX4_settle_82 rfl (by decide) ?_
      refine v_iadd (pc' := 84) dX4_settle_83 rfl ?_
      refine v_ias (pc' := 85) dX4_settle_84 rfl (kp_tallies hs hc) rfl rfl (by omega) ?_
      rw [hk, j4]
      have ej : (va_up I s r4) s = r4 := va_up_self _ _ _
      refine v_aload_n (pc' := 86) dX4_settle_85 rfl rfl ?_
      refine v_getQ (pc' := 89) dX4_settle_86 rfl gf_X4_11 (kp_T hs) rfl (rf_T_caches hR hs) ?_
      refine v_aload_n (pc' := 90) dX4_settle_89 rfl rfl ?_
      refine v_gI (o := 1) (pc' := 93) dX4_settle_90 rfl gf_X4_127 kW rfl rfl ?_
      rw [hw, hsv]
      refine v_aaloadQ (pc' := 94) dX4_settle_93 rfl (kp_CA hs) rfl hlt (rf_CA hR hs hlt) ?_
      refine v_iload_n (pc' := 95) dX4_settle_94 rfl rfl ?_
      refine v_cV1i (pc' := 98) dX4_settle_95 rfl cv_X4_130 (kp_C hs hlt) (Nat.le_of_ble_eq_true rfl) rfl (ok_take hR hs hlt hx (by rw [ej]; exact m4) (by rw [ej]; exact i4 by_ hlt)) ?_
      refine v_pop (pc' := 99) dX4_settle_98 rfl rfl ?_
      refine t99 _ _ ?_
      rw [ej, bx_uu, ← hr5, if_pos hlt]
    refine v_aload (pc' := 67) dX4_settle_65 rfl rfl ?_
    refine v_aload_n (pc' := 68) dX4_settle_67 rfl rfl ?_
    refine v_gI (o := 1) (pc' := 71) dX4_settle_68 rfl gf_X4_127 kW rfl rfl ?_
    refine v_iload_n (pc' := 72) dX4_settle_71 rfl rfl ?_
    refine v_icmp_ne (pc' := 75) (tgt := 79) dX4_settle_72 rfl (by decide) (fun hcc => ?_) (fun hcc => ?_)
    · have hcc : by_ ≠ c := fun z => hcc (by rw [ew3, z])
      refine v_iconst (v := nI 1) (pc' := 80) dX4_settle_79 rfl (by decide) ?_
      exact t80 1 (by rw [if_neg h5, if_neg hcc])
    · rw [ew3] at hcc
      have hcc := (nI_eq (by omega) (by omega)).mp hcc
      refine v_iconst (v := nI 0) (pc' := 76) dX4_settle_75 rfl (by decide) ?_
      refine v_goto (tgt := 80) dX4_settle_76 (by decide) ?_
      exact t80 0 (by rw [if_neg h5, if_pos hcc])
  · rw [ew3] at h5
    have h5 := (nI_eq (by omega) (by omega)).mp h5
    refine v_aload (pc' := 56) dX4_settle_54 rfl rfl ?_
    refine v_iconst (v := nI 2) (pc' := 57) dX4_settle_56 rfl (by decide) ?_
    refine v_dup2 (pc' := 58) dX4_settle_57 rfl rfl rfl ?_
    refine v_ial (pc' := 59) dX4_settle_58 rfl (kp_tallies hs hc) rfl rfl (by omega) ?_
    refine v_iconst (v := nI 1) (pc' := 60) dX4_settle_59 rfl (by decide) ?_
    refine v_iadd (pc' := 61) dX4_settle_60 rfl ?_
    refine v_ias (pc' := 62) dX4_settle_61 rfl (kp_tallies hs hc) rfl rfl (by omega) ?_
    refine v_goto (tgt := 99) dX4_settle_62 (by decide) ?_
    refine t99 _ _ ?_
    rw [← hr5, if_neg (by omega), ← j4, if_pos h5]
end B18
