/-! ===== State: hash, reshape, publish, freshness ===== -/
def hsq (f : Nat → Int64) : Nat → Int64 → Int64
  | 0, h => h
  | k + 1, h => 31 * hsq f k h + f k
def hCp (r : Row) (m : Msk) (c : Nat) : Nat → Int64 → Int64
  | 0, h => h
  | d + 1, h => if d = c then hCp r m c d h else 31 * (31 * (31 * hCp r m c d h + m (5 + 5 * c + d)) + (r (106 + 110 * c + d)).toInt64) + (r (111 + 110 * c + d)).toInt64
def hA1 (r : Row) (c : Nat) (h : Int64) : Int64 := 31 * (31 * h + (r (6 + 110 * c)).toInt64) + (r (7 + 110 * c)).toInt64
def hCa (r : Row) (m : Msk) (c : Nat) (h : Int64) : Int64 :=
  hCp r m c 5 (hsq (fun k => (r (89 + 110 * c + k)).toInt64) 7 (31 * hsq (fun k => (r (24 + 110 * c + k)).toInt64) (gM r) (hsq (fun k => (r (8 + 110 * c + k)).toInt64) (gS r c) (hA1 r c h)) + (r (88 + 110 * c)).toInt64))
def hAl (r : Row) (m : Msk) : Nat → Int64 → Int64
  | 0, h => h
  | c + 1, h => hCa r m c (hAl r m c h)
def rHash (r : Row) (m : Msk) : Int64 := hAl r m 5 (31 * (31 * (31 * 17 + (r 0).toInt64) + (r 1).toInt64) + (r 2).toInt64)
theorem IS_of {r r' : Row} {c : Nat} (h : IS r c) (e : ∀ j, 6 + 110 * c ≤ j → j < 24 + 110 * c → r' j = r j) : IS r' c := by
  obtain ⟨i1, i2, i3, i4⟩ := h
  have eS : gS r' c = gS r c := by unfold gS; rw [e _ (by omega) (by omega)]
  refine ⟨by rw [eS, e _ (by omega) (by omega)]; exact i1, by omega, fun i hi => ?_, fun i j hi hj h => ?_⟩
  · rw [eS] at hi
    have eO : gO r' c i = gO r c i := by unfold gO; rw [e _ (by omega) (by omega)]
    rw [eO, e _ (by omega) (by omega)]
    exact i3 i hi
  · rw [eS] at hi hj
    rw [e _ (by omega) (by omega), e _ (by omega) (by omega)] at h
    exact i4 i j hi hj h
theorem IC_of {r r' : Row} {c : Nat} (h : IC r c) (e : ∀ j, 6 + 110 * c ≤ j → j < 24 + 110 * c → r' j = r j) : IC r' c := by
  obtain ⟨i1, i2, i3, i4, i5⟩ := h
  have eS : gS r' c = gS r c := by unfold gS; rw [e _ (by omega) (by omega)]
  have eC : gC r' c = gC r c := by unfold gC; rw [e _ (by omega) (by omega)]
  exact ⟨IS_of i1 e, by rw [eC, e _ (by omega) (by omega)]; exact i2, by omega, by omega, by omega⟩
theorem rNew_out {c j : Nat} {r : Row} (hm : IM r) (h : j < 24 + 110 * c ∨ 88 + 110 * c ≤ j) : rNew c r j = r j := by
  unfold rNew
  rw [fNew_ne (by have := hm.2.1; omega) hm.2.2.1 h, fillF_out (by omega)]
/-- versions and copies as at first -/
def rFg (c : Nat) (r : Row) : Row := fillF (fillF (va_up r (88 + 110 * c) 0) (106 + 110 * c) 5 0) (111 + 110 * c) 5 0
def mFg (c : Nat) (m : Msk) : Msk := fillF (va_up m c 0) (5 + 5 * c) 5 0
theorem rFg_out {c j : Nat} {r : Row} (h : j < 88 + 110 * c ∨ 116 + 110 * c ≤ j) : rFg c r j = r j := by
  unfold rFg
  rw [fillF_out (by omega), fillF_out (by omega), va_up_ne _ _ (by omega)]
def rRs : Nat → Row → Row
  | 0, r => r
  | c + 1, r => rFg c (rNew c (rRs c r))
def mRs : Nat → Msk → Msk
  | 0, m => m
  | c + 1, m => mFg c (mRs c m)
theorem rRs_out {r : Row} (hm : IM r) : ∀ (c : Nat), IM (rRs c r) ∧ ∀ j, j < 24 ∨ 6 + 110 * c ≤ j → rRs c r j = r j
  | 0 => ⟨hm, fun _ _ => rfl⟩
  | c + 1 => by
    obtain ⟨h1, h2⟩ := rRs_out hm c
    have key : ∀ j, j < 24 ∨ 6 + 110 * (c + 1) ≤ j → rRs (c + 1) r j = r j := by
      intro j hj
      show rFg c (rNew c (rRs c r)) j = r j
      rw [rFg_out (by omega), rNew_out h1 (by omega), h2 j (by omega)]
    exact ⟨IM_of hm (key 0 (by omega)) (key 1 (by omega)), key⟩
/-- publishing: one other cache -/
def pb1 (f : Nat) (had : Int32) (now : Int64) (ch wh tm : Int32) (t : Nat) (q : Row × Msk × Int32) : Row × Msk × Int32 :=
  if t ≠ f ∧ q.1 (96 + 110 * f + t) = nI 1 then (va_up (va_up q.1 (106 + 110 * t + f) (had + nI 1)) (111 + 110 * t + f) tm, va_up q.2.1 (5 + 5 * t + f) now, q.2.2 + (if q.1 (106 + 110 * t + f) = had ∧ ch < wh then ch else wh)) else q
def pbS (f : Nat) (had : Int32) (now : Int64) (ch wh tm : Int32) : Nat → Row × Msk × Int32 → Row × Msk × Int32
  | 0, q => q
  | t + 1, q => pb1 f had now ch wh tm t (pbS f had now ch wh tm t q)
theorem pbS_ne {f j : Nat} {had : Int32} {now : Int64} {ch wh tm : Int32} {q : Row × Msk × Int32} (hj : ∀ t, t < 5 → j ≠ 106 + 110 * t + f ∧ j ≠ 111 + 110 * t + f) : ∀ t, t ≤ 5 → (pbS f had now ch wh tm t q).1 j = q.1 j
  | 0, _ => rfl
  | t + 1, ht => by
    have ih := pbS_ne (had := had) (now := now) (ch := ch) (wh := wh) (tm := tm) (q := q) hj t (by omega)
    show (pb1 f had now ch wh tm t (pbS f had now ch wh tm t q)).1 j = q.1 j
    unfold pb1
    split
    · show va_up (va_up _ _ _) _ _ j = _
      rw [va_up_ne _ _ (hj t (by omega)).2, va_up_ne _ _ (hj t (by omega)).1]
      exact ih
    · exact ih
theorem pbS_neL {f j : Nat} {had : Int32} {now : Int64} {ch wh tm : Int32} {q : Row × Msk × Int32} (hj : j < 5) : ∀ t, (pbS f had now ch wh tm t q).2.1 j = q.2.1 j
  | 0 => rfl
  | t + 1 => by
    have ih := pbS_neL (f := f) (had := had) (now := now) (ch := ch) (wh := wh) (tm := tm) (q := q) hj t
    show (pb1 f had now ch wh tm t (pbS f had now ch wh tm t q)).2.1 j = q.2.1 j
    unfold pb1
    split
    · show va_up _ _ _ j = _
      rw [va_up_ne _ _ (by omega)]
      exact ih
    · exact ih
def rPq (f : Nat) (r : Row) (m : Msk) : Row × Msk × Int32 :=
  pbS f (r (88 + 110 * f)) (rBits f r) (nI 1 + pcn (rBits f r ^^^ m f) 64) (nI (2 + gM r / 4)) (r 2) 5 (va_up r (88 + 110 * f) (r (88 + 110 * f) + nI 1), va_up m f (rBits f r), nI 0)
def rPub (f : Nat) (r : Row) (m : Msk) : Row := va_up (rPq f r m).1 (89 + 110 * f + 6) ((rPq f r m).1 (89 + 110 * f + 6) + (rPq f r m).2.2)
abbrev rFr (r : Row) (a b : Nat) : Prop := r (106 + 110 * a + b) ≠ 0 ∧ r 2 - r (111 + 110 * a + b) ≤ r 3
abbrev rEx (r : Row) (m : Msk) (a b x : Nat) : Prop := rFr r a b ∧ rIs x (m (5 + 5 * a + b)) r = true
section B17
variable {l : Launch} {I : MI} {L : ML} {R : MR}
theorem ok_hashOnto {s c : Nat} {h : Int64} (hR : RS R) (hs : s < 5) (hc : c < 5) (hm : IM (I s)) (hi : IS (I s) c) : Ok l yX0_hashOnto cX0_hashOnto 5 (some .long) 0 0 0 [.ref (pq s c), .long h, .int (nI c)] I L R 287 (eqP (some (.long (hCa (I s) (L s) c h))) I L R 287) := by
  obtain ⟨i1, i6, i7, i8⟩ := id hi
  obtain ⟨m1, m2, m3, m4, m5, m6⟩ := id hm
  refine Ok.ofV [some (.ref (pq s c)), some (.long h), none, some (.int (nI c)), none] rfl (by decide) (Nat.le_of_ble_eq_true rfl) ?_
  refine v_ldc2 (pc' := 3) dX0_hashOnto_0 rfl kc_X0_128 ?_
  refine v_lload_n (pc' := 4) dX0_hashOnto_3 rfl rfl ?_
  refine v_lmul (pc' := 5) dX0_hashOnto_4 rfl ?_
  refine v_aload_n (pc' := 6) dX0_hashOnto_5 rfl rfl ?_
  refine v_gI (o := 6 + 110 * c) (pc' := 9) dX0_hashOnto_6 rfl gf_X0_19 (kp_C hs hc) rfl (Nat.add_zero _) ?_
  refine v_i2l (pc' := 10) dX0_hashOnto_9 rfl ?_
  refine v_ladd (pc' := 11) dX0_hashOnto_10 rfl ?_
  refine v_lstore_n1 (pc' := 12) dX0_hashOnto_11 rfl (by decide) rfl ?_
  refine v_ldc2 (pc' := 15) dX0_hashOnto_12 rfl kc_X0_128 ?_
  refine v_lload_n (pc' := 16) dX0_hashOnto_15 rfl rfl ?_
  refine v_lmul (pc' := 17) dX0_hashOnto_16 rfl ?_
  refine v_aload_n (pc' := 18) dX0_hashOnto_17 rfl rfl ?_
  refine v_gI (o := 7 + 110 * c) (pc' := 21) dX0_hashOnto_18 rfl gf_X0_15 (kp_C hs hc) rfl (by omega) ?_
  refine v_i2l (pc' := 22) dX0_hashOnto_21 rfl ?_
  refine v_ladd (pc' := 23) dX0_hashOnto_22 rfl ?_
  refine v_lstore_n1 (pc' := 24) dX0_hashOnto_23 rfl (by decide) rfl ?_
  refine v_iconst (v := nI 0) (pc' := 25) dX0_hashOnto_24 rfl (by decide) ?_
  refine v_istore4 (pc' := 27) dX0_hashOnto_25 rfl (by decide) rfl ?_
  have l4 : ∀ (n k : Nat) (h0 : Int64), k + n = 5 → hCp (I s) (L s) c k h0 = hCp (I s) (L s) c k h0 → hCp (I s) (L s) c 5 h0 = hCa (I s) (L s) c h → V l yX0_hashOnto cX0_hashOnto 5 (some .long) (rmd 0 0 0) (QM 0 0 (eqP (some (.long (hCa (I s) (L s) c h))) I L R 287)) (fun _ _ => True) 142 [some (.ref (pq s c)), some (.long (hCp (I s) (L s) c k h0)), none, some (.int (nI c)), some (.int (nI k))] [] I L R 287 0 0 := by
    intro n
    induction n with
    | zero =>
      intro k h0 hk _ hf
      refine v_iload (pc' := 144) dX0_hashOnto_142 rfl rfl ?_
      refine v_iconst (v := nI 5) (pc' := 145) dX0_hashOnto_144 rfl (by decide) ?_
      refine v_icmp_ge (pc' := 148) (tgt := 204) dX0_hashOnto_145 rfl (by decide) (fun hb => ?_) (fun hb => ?_)
      · refine v_lload_n (pc' := 205) dX0_hashOnto_204 rfl rfl ?_
        exact v_lret dX0_hashOnto_205 rfl (Nat.le_refl _) (Nat.le_refl _) ⟨by rw [← hf, show k = 5 by omega], rfl, rfl, rfl, rfl⟩
      · exact absurd (nI_le (by omega) (by omega)) hb
    | succ n ih =>
      intro k h0 hk _ hf
      refine v_iload (pc' := 144) dX0_hashOnto_142 rfl rfl ?_
      refine v_iconst (v := nI 5) (pc' := 145) dX0_hashOnto_144 rfl (by decide) ?_
      refine v_icmp_ge (pc' := 148) (tgt := 204) dX0_hashOnto_145 rfl (by decide) (fun hb => ?_) (fun hb => ?_)
      · exact absurd hb (nI_ge (by omega) (by omega))
      · refine v_iload (pc' := 150) dX0_hashOnto_148 rfl rfl ?_
        refine v_iload_n (pc' := 151) dX0_hashOnto_150 rfl rfl ?_
        refine v_icmp_eq (pc' := 154) (tgt := 198) dX0_hashOnto_151 rfl (by decide) (fun hq => ?_) (fun hq => ?_)
        · have hq := (nI_eq (by omega) (by omega)).mp hq
          refine v_iinc4 (pc' := 201) dX0_hashOnto_198 rfl (by decide) rfl (inc_nI _) ?_
          refine v_goto (tgt := 142) dX0_hashOnto_201 (by decide) ?_
          have := ih (k + 1) h0 (by omega) rfl hf
          have e : hCp (I s) (L s) c (k + 1) h0 = hCp (I s) (L s) c k h0 := if_pos hq
          rw [e] at this
          exact this
        · have hq : ¬ k = c := fun z => hq (by rw [z])
          refine v_ldc2 (pc' := 157) dX0_hashOnto_154 rfl kc_X0_128 ?_
          refine v_lload_n (pc' := 158) dX0_hashOnto_157 rfl rfl ?_
          refine v_lmul (pc' := 159) dX0_hashOnto_158 rfl ?_
          refine v_aload_n (pc' := 160) dX0_hashOnto_159 rfl rfl ?_
          refine v_getQ (pc' := 163) dX0_hashOnto_160 rfl gf_X0_32 (kp_C hs hc) rfl (rf_C_copyMasks hR hs hc) ?_
          refine v_iload (pc' := 165) dX0_hashOnto_163 rfl rfl ?_
          refine v_lal (pc' := 166) dX0_hashOnto_165 rfl (kp_copyMasks hs hc) rfl rfl (by omega) ?_
          refine v_ladd (pc' := 167) dX0_hashOnto_166 rfl ?_
          refine v_lstore_n1 (pc' := 168) dX0_hashOnto_167 rfl (by decide) rfl ?_
          refine v_ldc2 (pc' := 171) dX0_hashOnto_168 rfl kc_X0_128 ?_
          refine v_lload_n (pc' := 172) dX0_hashOnto_171 rfl rfl ?_
          refine v_lmul (pc' := 173) dX0_hashOnto_172 rfl ?_
          refine v_aload_n (pc' := 174) dX0_hashOnto_173 rfl rfl ?_
          refine v_getQ (pc' := 177) dX0_hashOnto_174 rfl gf_X0_36 (kp_C hs hc) rfl (rf_C_copyVersions hR hs hc) ?_
          refine v_iload (pc' := 179) dX0_hashOnto_177 rfl rfl ?_
          refine v_ial (pc' := 180) dX0_hashOnto_179 rfl (kp_copyVersions hs hc) rfl rfl (by omega) ?_
          refine v_i2l (pc' := 181) dX0_hashOnto_180 rfl ?_
          refine v_ladd (pc' := 182) dX0_hashOnto_181 rfl ?_
          refine v_lstore_n1 (pc' := 183) dX0_hashOnto_182 rfl (by decide) rfl ?_
          refine v_ldc2 (pc' := 186) dX0_hashOnto_183 rfl kc_X0_128 ?_
          refine v_lload_n (pc' := 187) dX0_hashOnto_186 rfl rfl ?_
          refine v_lmul (pc' := 188) dX0_hashOnto_187 rfl ?_
          refine v_aload_n (pc' := 189) dX0_hashOnto_188 rfl rfl ?_
          refine v_getQ (pc' := 192) dX0_hashOnto_189 rfl gf_X0_39 (kp_C hs hc) rfl (rf_C_copyTimes hR hs hc) ?_
          refine v_iload (pc' := 194) dX0_hashOnto_192 rfl rfl ?_
          refine v_ial (pc' := 195) dX0_hashOnto_194 rfl (kp_copyTimes hs hc) rfl rfl (by omega) ?_
          refine v_i2l (pc' := 196) dX0_hashOnto_195 rfl ?_
          refine v_ladd (pc' := 197) dX0_hashOnto_196 rfl ?_
          refine v_lstore_n1 (pc' := 198) dX0_hashOnto_197 rfl (by decide) rfl ?_
          refine v_iinc4 (pc' := 201) dX0_hashOnto_198 rfl (by decide) rfl (inc_nI _) ?_
          refine v_goto (tgt := 142) dX0_hashOnto_201 (by decide) ?_
          have := ih (k + 1) h0 (by omega) rfl hf
          have e : hCp (I s) (L s) c (k + 1) h0 = 31 * (31 * (31 * hCp (I s) (L s) c k h0 + L s (5 + 5 * c + k)) + (I s (106 + 110 * c + k)).toInt64) + (I s (111 + 110 * c + k)).toInt64 := if_neg hq
          rw [e] at this
          exact this
  have l3 : ∀ (n k : Nat) (h0 : Int64), k + n = 7 → hCp (I s) (L s) c 5 (hsq (fun k => (I s (89 + 110 * c + k)).toInt64) 7 h0) = hCa (I s) (L s) c h → V l yX0_hashOnto cX0_hashOnto 5 (some .long) (rmd 0 0 0) (QM 0 0 (eqP (some (.long (hCa (I s) (L s) c h))) I L R 287)) (fun _ _ => True) 111 [some (.ref (pq s c)), some (.long (hsq (fun k => (I s (89 + 110 * c + k)).toInt64) k h0)), none, some (.int (nI c)), some (.int (nI k))] [] I L R 287 0 0 := by
    intro n
    induction n with
    | zero =>
      intro k h0 hk hf
      refine v_iload (pc' := 113) dX0_hashOnto_111 rfl rfl ?_
      refine v_bipush (v := nI 7) (pc' := 115) dX0_hashOnto_113 rfl (by decide) ?_
      refine v_icmp_ge (pc' := 118) (tgt := 139) dX0_hashOnto_115 rfl (by decide) (fun hb => ?_) (fun hb => ?_)
      · refine v_iconst (v := nI 0) (pc' := 140) dX0_hashOnto_139 rfl (by decide) ?_
        refine v_istore4 (pc' := 142) dX0_hashOnto_140 rfl (by decide) rfl ?_
        rw [show k = 7 by omega]
        exact l4 5 0 _ (by omega) rfl hf
      · exact absurd (nI_le (by omega) (by omega)) hb
    | succ n ih =>
      intro k h0 hk hf
      refine v_iload (pc' := 113) dX0_hashOnto_111 rfl rfl ?_
      refine v_bipush (v := nI 7) (pc' := 115) dX0_hashOnto_113 rfl (by decide) ?_
      refine v_icmp_ge (pc' := 118) (tgt := 139) dX0_hashOnto_115 rfl (by decide) (fun hb => ?_) (fun hb => ?_)
      · exact absurd hb (nI_ge (by omega) (by omega))
      · refine v_ldc2 (pc' := 121) dX0_hashOnto_118 rfl kc_X0_128 ?_
        refine v_lload_n (pc' := 122) dX0_hashOnto_121 rfl rfl ?_
        refine v_lmul (pc' := 123) dX0_hashOnto_122 rfl ?_
        refine v_aload_n (pc' := 124) dX0_hashOnto_123 rfl rfl ?_
        refine v_getQ (pc' := 127) dX0_hashOnto_124 rfl gf_X0_29 (kp_C hs hc) rfl (rf_C_tallies hR hs hc) ?_
        refine v_iload (pc' := 129) dX0_hashOnto_127 rfl rfl ?_
        refine v_ial (pc' := 130) dX0_hashOnto_129 rfl (kp_tallies hs hc) rfl rfl (by omega) ?_
        refine v_i2l (pc' := 131) dX0_hashOnto_130 rfl ?_
        refine v_ladd (pc' := 132) dX0_hashOnto_131 rfl ?_
        refine v_lstore_n1 (pc' := 133) dX0_hashOnto_132 rfl (by decide) rfl ?_
        refine v_iinc4 (pc' := 136) dX0_hashOnto_133 rfl (by decide) rfl (inc_nI _) ?_
        refine v_goto (tgt := 111) dX0_hashOnto_136 (by decide) ?_
        exact ih (k + 1) h0 (by omega) hf
  have l2 : ∀ (n k : Nat) (h0 : Int64), k + n = gM (I s) → hCp (I s) (L s) c 5 (hsq (fun k => (I s (89 + 110 * c + k)).toInt64) 7 (31 * hsq (fun k => (I s (24 + 110 * c + k)).toInt64) (gM (I s)) h0 + (I s (88 + 110 * c)).toInt64)) = hCa (I s) (L s) c h → V l yX0_hashOnto cX0_hashOnto 5 (some .long) (rmd 0 0 0) (QM 0 0 (eqP (some (.long (hCa (I s) (L s) c h))) I L R 287)) (fun _ _ => True) 60 [some (.ref (pq s c)), some (.long (hsq (fun k => (I s (24 + 110 * c + k)).toInt64) k h0)), none, some (.int (nI c)), some (.int (nI k))] [] I L R 287 0 0 := by
    intro n
    induction n with
    | zero =>
      intro k h0 hk hf
      refine v_iload (pc' := 62) dX0_hashOnto_60 rfl rfl ?_
      refine v_aload_n (pc' := 63) dX0_hashOnto_62 rfl rfl ?_
      refine v_getQ (pc' := 66) dX0_hashOnto_63 rfl gf_X0_48 (kp_C hs hc) rfl (rf_C_shape hR hs hc) ?_
      refine v_gI (o := 0) (pc' := 69) dX0_hashOnto_66 rfl gf_X0_130 (kp_S hs) rfl rfl ?_
      refine v_icmp_ge (pc' := 72) (tgt := 96) dX0_hashOnto_69 rfl (by decide) (fun hb => ?_) (fun hb => ?_)
      · refine v_ldc2 (pc' := 99) dX0_hashOnto_96 rfl kc_X0_128 ?_
        refine v_lload_n (pc' := 100) dX0_hashOnto_99 rfl rfl ?_
        refine v_lmul (pc' := 101) dX0_hashOnto_100 rfl ?_
        refine v_aload_n (pc' := 102) dX0_hashOnto_101 rfl rfl ?_
        refine v_gI (o := 88 + 110 * c) (pc' := 105) dX0_hashOnto_102 rfl gf_X0_22 (kp_C hs hc) rfl (by omega) ?_
        refine v_i2l (pc' := 106) dX0_hashOnto_105 rfl ?_
        refine v_ladd (pc' := 107) dX0_hashOnto_106 rfl ?_
        refine v_lstore_n1 (pc' := 108) dX0_hashOnto_107 rfl (by decide) rfl ?_
        refine v_iconst (v := nI 0) (pc' := 109) dX0_hashOnto_108 rfl (by decide) ?_
        refine v_istore4 (pc' := 111) dX0_hashOnto_109 rfl (by decide) rfl ?_
        rw [show k = gM (I s) by omega]
        exact l3 7 0 _ (by omega) hf
      · exact absurd (by rw [m1]; exact nI_le (by omega) (by omega)) hb
    | succ n ih =>
      intro k h0 hk hf
      refine v_iload (pc' := 62) dX0_hashOnto_60 rfl rfl ?_
      refine v_aload_n (pc' := 63) dX0_hashOnto_62 rfl rfl ?_
      refine v_getQ (pc' := 66) dX0_hashOnto_63 rfl gf_X0_48 (kp_C hs hc) rfl (rf_C_shape hR hs hc) ?_
      refine v_gI (o := 0) (pc' := 69) dX0_hashOnto_66 rfl gf_X0_130 (kp_S hs) rfl rfl ?_
      refine v_icmp_ge (pc' := 72) (tgt := 96) dX0_hashOnto_69 rfl (by decide) (fun hb => ?_) (fun hb => ?_)
      · exact absurd (by rw [m1] at hb; exact hb) (nI_ge (by omega) (by omega))
      · refine v_ldc2 (pc' := 75) dX0_hashOnto_72 rfl kc_X0_128 ?_
        refine v_lload_n (pc' := 76) dX0_hashOnto_75 rfl rfl ?_
        refine v_lmul (pc' := 77) dX0_hashOnto_76 rfl ?_
        refine v_aload_n (pc' := 78) dX0_hashOnto_77 rfl rfl ?_
        refine v_getQ (pc' := 81) dX0_hashOnto_78 rfl gf_X0_57 (kp_C hs hc) rfl (rf_C_filter hR hs hc) ?_
        refine v_getQ (pc' := 84) dX0_hashOnto_81 rfl gf_X0_133 (kp_F hs hc) rfl (rf_F_counts hR hs hc) ?_
        refine v_iload (pc' := 86) dX0_hashOnto_84 rfl rfl ?_
        refine v_ial (pc' := 87) dX0_hashOnto_86 rfl (kp_counts hs hc) rfl rfl (by omega) ?_
        refine v_i2l (pc' := 88) dX0_hashOnto_87 rfl ?_
        refine v_ladd (pc' := 89) dX0_hashOnto_88 rfl ?_
        refine v_lstore_n1 (pc' := 90) dX0_hashOnto_89 rfl (by decide) rfl ?_
        refine v_iinc4 (pc' := 93) dX0_hashOnto_90 rfl (by decide) rfl (inc_nI _) ?_
        refine v_goto (tgt := 60) dX0_hashOnto_93 (by decide) ?_
        exact ih (k + 1) h0 (by omega) hf
  have l1 : ∀ (n k : Nat) (h0 : Int64), k + n = gS (I s) c → hCp (I s) (L s) c 5 (hsq (fun k => (I s (89 + 110 * c + k)).toInt64) 7 (31 * hsq (fun k => (I s (24 + 110 * c + k)).toInt64) (gM (I s)) (hsq (fun k => (I s (8 + 110 * c + k)).toInt64) (gS (I s) c) h0) + (I s (88 + 110 * c)).toInt64)) = hCa (I s) (L s) c h → V l yX0_hashOnto cX0_hashOnto 5 (some .long) (rmd 0 0 0) (QM 0 0 (eqP (some (.long (hCa (I s) (L s) c h))) I L R 287)) (fun _ _ => True) 27 [some (.ref (pq s c)), some (.long (hsq (fun k => (I s (8 + 110 * c + k)).toInt64) k h0)), none, some (.int (nI c)), some (.int (nI k))] [] I L R 287 0 0 := by
    intro n
    induction n with
    | zero =>
      intro k h0 hk hf
      refine v_iload (pc' := 29) dX0_hashOnto_27 rfl rfl ?_
      refine v_aload_n (pc' := 30) dX0_hashOnto_29 rfl rfl ?_
      refine v_gI (o := 7 + 110 * c) (pc' := 33) dX0_hashOnto_30 rfl gf_X0_15 (kp_C hs hc) rfl (by omega) ?_
      refine v_icmp_ge (pc' := 36) (tgt := 57) dX0_hashOnto_33 rfl (by decide) (fun hb => ?_) (fun hb => ?_)
      · refine v_iconst (v := nI 0) (pc' := 58) dX0_hashOnto_57 rfl (by decide) ?_
        refine v_istore4 (pc' := 60) dX0_hashOnto_58 rfl (by decide) rfl ?_
        rw [show k = gS (I s) c by omega]
        exact l2 (gM (I s)) 0 _ (by omega) hf
      · exact absurd (by rw [i1]; exact nI_le (by omega) (by omega)) hb
    | succ n ih =>
      intro k h0 hk hf
      refine v_iload (pc' := 29) dX0_hashOnto_27 rfl rfl ?_
      refine v_aload_n (pc' := 30) dX0_hashOnto_29 rfl rfl ?_
      refine v_gI (o := 7 + 110 * c) (pc' := 33) dX0_hashOnto_30 rfl gf_X0_15 (kp_C hs hc) rfl (by omega) ?_
      refine v_icmp_ge (pc' := 36) (tgt := 57) dX0_hashOnto_33 rfl (by decide) (fun hb => ?_) (fun hb => ?_)
      · exact absurd (by rw [i1] at hb; exact hb) (nI_ge (by omega) (by omega))
      · refine v_ldc2 (pc' := 39) dX0_hashOnto_36 rfl kc_X0_128 ?_
        refine v_lload_n (pc' := 40) dX0_hashOnto_39 rfl rfl ?_
        refine v_lmul (pc' := 41) dX0_hashOnto_40 rfl ?_
        refine v_aload_n (pc' := 42) dX0_hashOnto_41 rfl rfl ?_
        refine v_getQ (pc' := 45) dX0_hashOnto_42 rfl gf_X0_9 (kp_C hs hc) rfl (rf_C_objects hR hs hc) ?_
        refine v_iload (pc' := 47) dX0_hashOnto_45 rfl rfl ?_
        refine v_ial (pc' := 48) dX0_hashOnto_47 rfl (kp_objects hs hc) rfl rfl (by omega) ?_
        refine v_i2l (pc' := 49) dX0_hashOnto_48 rfl ?_
        refine v_ladd (pc' := 50) dX0_hashOnto_49 rfl ?_
        refine v_lstore_n1 (pc' := 51) dX0_hashOnto_50 rfl (by decide) rfl ?_
        refine v_iinc4 (pc' := 54) dX0_hashOnto_51 rfl (by decide) rfl (inc_nI _) ?_
        refine v_goto (tgt := 27) dX0_hashOnto_54 (by decide) ?_
        exact ih (k + 1) h0 (by omega) hf
  exact l1 (gS (I s) c) 0 _ (by omega) rfl
theorem ok_hash {s : Nat} (hR : RS R) (hs : s < 5) (hm : IM (I s)) (hi : ∀ c, c < 5 → IS (I s) c) : Ok l yX4_hash cX4_hash 4 (some .long) 1 0 0 [.ref (pb s)] I L R 287 (eqP (some (.long (rHash (I s) (L s)))) I L R 287) := by
  refine Ok.ofV [some (.ref (pb s)), none, none, none] rfl (by decide) (Nat.le_of_ble_eq_true rfl) ?_
  refine v_ldc2 (pc' := 3) dX4_hash_0 rfl kc_X4_134 ?_
  refine v_lstore_n1 (pc' := 4) dX4_hash_3 rfl (by decide) rfl ?_
  refine v_ldc2 (pc' := 7) dX4_hash_4 rfl kc_X4_136 ?_
  refine v_lload_n (pc' := 8) dX4_hash_7 rfl rfl ?_
  refine v_lmul (pc' := 9) dX4_hash_8 rfl ?_
  refine v_aload_n (pc' := 10) dX4_hash_9 rfl rfl ?_
  refine v_getQ (pc' := 13) dX4_hash_10 rfl gf_X4_31 (kp_T hs) rfl (rf_T_shape hR hs) ?_
  refine v_gI (o := 0) (pc' := 16) dX4_hash_13 rfl gf_X4_38 (kp_S hs) rfl rfl ?_
  refine v_i2l (pc' := 17) dX4_hash_16 rfl ?_
  refine v_ladd (pc' := 18) dX4_hash_17 rfl ?_
  refine v_lstore_n1 (pc' := 19) dX4_hash_18 rfl (by decide) rfl ?_
  refine v_ldc2 (pc' := 22) dX4_hash_19 rfl kc_X4_136 ?_
  refine v_lload_n (pc' := 23) dX4_hash_22 rfl rfl ?_
  refine v_lmul (pc' := 24) dX4_hash_23 rfl ?_
  refine v_aload_n (pc' := 25) dX4_hash_24 rfl rfl ?_
  refine v_getQ (pc' := 28) dX4_hash_25 rfl gf_X4_31 (kp_T hs) rfl (rf_T_shape hR hs) ?_
  refine v_gI (o := 1) (pc' := 31) dX4_hash_28 rfl gf_X4_43 (kp_S hs) rfl rfl ?_
  refine v_i2l (pc' := 32) dX4_hash_31 rfl ?_
  refine v_ladd (pc' := 33) dX4_hash_32 rfl ?_
  refine v_lstore_n1 (pc' := 34) dX4_hash_33 rfl (by decide) rfl ?_
  refine v_ldc2 (pc' := 37) dX4_hash_34 rfl kc_X4_136 ?_
  refine v_lload_n (pc' := 38) dX4_hash_37 rfl rfl ?_
  refine v_lmul (pc' := 39) dX4_hash_38 rfl ?_
  refine v_aload_n (pc' := 40) dX4_hash_39 rfl rfl ?_
  refine v_gI (o := 2) (pc' := 43) dX4_hash_40 rfl gf_X4_17 (kp_T hs) rfl rfl ?_
  refine v_i2l (pc' := 44) dX4_hash_43 rfl ?_
  refine v_ladd (pc' := 45) dX4_hash_44 rfl ?_
  refine v_lstore_n1 (pc' := 46) dX4_hash_45 rfl (by decide) rfl ?_
  refine v_iconst (v := nI 0) (pc' := 47) dX4_hash_46 rfl (by decide) ?_
  refine v_istore_n3 (pc' := 48) dX4_hash_47 rfl (by decide) rfl ?_
  have loop : ∀ (n c : Nat) (h0 : Int64), c + n = 5 → hAl (I s) (L s) 5 h0 = rHash (I s) (L s) → V l yX4_hash cX4_hash 4 (some .long) (rmd 1 0 0) (QM 0 0 (eqP (some (.long (rHash (I s) (L s)))) I L R 287)) (fun _ _ => True) 48 [some (.ref (pb s)), some (.long (hAl (I s) (L s) c h0)), none, some (.int (nI c))] [] I L R 287 0 0 := by
    intro n
    induction n with
    | zero =>
      intro c h0 hk hf
      refine v_iload_n (pc' := 49) dX4_hash_48 rfl rfl ?_
      refine v_iconst (v := nI 5) (pc' := 50) dX4_hash_49 rfl (by decide) ?_
      refine v_icmp_ge (pc' := 53) (tgt := 71) dX4_hash_50 rfl (by decide) (fun hb => ?_) (fun hb => ?_)
      · refine v_lload_n (pc' := 72) dX4_hash_71 rfl rfl ?_
        exact v_lret dX4_hash_72 rfl (Nat.le_refl _) (Nat.le_refl _) ⟨by rw [← hf, show c = 5 by omega], rfl, rfl, rfl, rfl⟩
      · exact absurd (nI_le (by omega) (by omega)) hb
    | succ n ih =>
      intro c h0 hk hf
      have hc : c < 5 := by omega
      refine v_iload_n (pc' := 49) dX4_hash_48 rfl rfl ?_
      refine v_iconst (v := nI 5) (pc' := 50) dX4_hash_49 rfl (by decide) ?_
      refine v_icmp_ge (pc' := 53) (tgt := 71) dX4_hash_50 rfl (by decide) (fun hb => ?_) (fun hb => ?_)
      · exact absurd hb (nI_ge (by omega) (by omega))
      · refine v_aload_n (pc' := 54) dX4_hash_53 rfl rfl ?_
        refine v_getQ (pc' := 57) dX4_hash_54 rfl gf_X4_11 (kp_T hs) rfl (rf_T_caches hR hs) ?_
        refine v_iload_n (pc' := 58) dX4_hash_57 rfl rfl ?_
        refine v_aaloadQ (pc' := 59) dX4_hash_58 rfl (kp_CA hs) rfl hc (rf_CA hR hs hc) ?_
        refine v_lload_n (pc' := 60) dX4_hash_59 rfl rfl ?_
        refine v_iload_n (pc' := 61) dX4_hash_60 rfl rfl ?_
        refine v_cV2l (pc' := 64) dX4_hash_61 rfl cv_X4_138 (kp_C hs hc) (Nat.le_of_ble_eq_true rfl) rfl (ok_hashOnto hR hs hc hm (hi c hc)) ?_
        refine v_lstore_n1 (pc' := 65) dX4_hash_64 rfl (by decide) rfl ?_
        refine v_iinc3 (pc' := 68) dX4_hash_65 rfl (by decide) rfl (inc_nI _) ?_
        refine v_goto (tgt := 48) dX4_hash_68 (by decide) ?_
        exact ih (c + 1) h0 (by omega) hf
  exact loop 5 0 _ (by omega) rfl
theorem ok_reshape {s M K : Nat} {r : Row} {TI : MI} {TL : ML} (hr : va_up (va_up (I s) 0 (nI M)) 1 (nI K) = r) (hTI : va_up I s (rRs 5 r) = TI) (hTL : va_up L s (mRs 5 (L s)) = TL) (hR : RS R) (hs : s < 5) (hM : 8 ≤ M) (hM2 : M ≤ 64) (hK : 1 ≤ K) (hK2 : K ≤ 4) (hi : ∀ c, c < 5 → IS (I s) c) : Ok l yX4_reshape cX4_reshape 4 none 3 0 0 [.ref (pb s), .int (nI M), .int (nI K)] I L R 287 (eqP (none) TI TL R 287) := by
  have hm : IM r := by
    have e0 : r 0 = nI M := by rw [← hr, va_up_ne _ _ (by decide), va_up_self]
    have e1 : r 1 = nI K := by rw [← hr, va_up_self]
    have g0 : gM r = M := nn_at e0 (by omega)
    have g1 : gK r = K := nn_at e1 (by omega)
    exact ⟨by rw [g0]; exact e0, by omega, by omega, by rw [g1]; exact e1, by omega, by omega⟩
  have hir : ∀ c, c < 5 → IS r c := fun c hc => IS_of (hi c hc) (fun j h1 h2 => by rw [← hr, va_up_ne _ _ (by omega), va_up_ne _ _ (by omega)])
  refine Ok.ofV [some (.ref (pb s)), some (.int (nI M)), some (.int (nI K)), none] rfl (by decide) (Nat.le_of_ble_eq_true rfl) ?_
  refine v_aload_n (pc' := 1) dX4_reshape_0 rfl rfl ?_
  refine v_getQ (pc' := 4) dX4_reshape_1 rfl gf_X4_31 (kp_T hs) rfl (rf_T_shape hR hs) ?_
  refine v_iload_n (pc' := 5) dX4_reshape_4 rfl rfl ?_
  refine v_iload_n (pc' := 6) dX4_reshape_5 rfl rfl ?_
  refine v_cV2v (pc' := 9) dX4_reshape_6 rfl cv_X4_46 (kp_S hs) (Nat.le_of_ble_eq_true rfl) rfl (ok_change (kp_S hs)) ?_
  refine v_iconst (v := nI 0) (pc' := 10) dX4_reshape_9 rfl (by decide) ?_
  refine v_istore_n3 (pc' := 11) dX4_reshape_10 rfl (by decide) rfl ?_
  have loop : ∀ (n c : Nat) (J : MI) (Q : ML), c + n = 5 → J = va_up I s (rRs c r) → Q = va_up L s (mRs c (L s)) → V l yX4_reshape cX4_reshape 4 none (rmd 3 0 0) (QM 0 0 (eqP (none) TI TL R 287)) (fun _ _ => True) 11 [some (.ref (pb s)), some (.int (nI M)), some (.int (nI K)), some (.int (nI c))] [] J Q R 287 0 0 := by
    intro n
    induction n with
    | zero =>
      intro c J Q hk hJ hQ
      refine v_iload_n (pc' := 12) dX4_reshape_11 rfl rfl ?_
      refine v_iconst (v := nI 5) (pc' := 13) dX4_reshape_12 rfl (by decide) ?_
      refine v_icmp_ge (pc' := 16) (tgt := 40) dX4_reshape_13 rfl (by decide) (fun hb => ?_) (fun hb => ?_)
      · exact v_vret dX4_reshape_40 rfl (Nat.le_refl _) (Nat.le_refl _) ⟨rfl, by rw [hJ, ← hTI, show c = 5 by omega], by rw [hQ, ← hTL, show c = 5 by omega], rfl, rfl⟩
      · exact absurd (nI_le (by omega) (by omega)) hb
    | succ n ih =>
      intro c J Q hk hJ hQ
      have hc : c < 5 := by omega
      obtain ⟨z1, z2⟩ := rRs_out hm c
      have ej : J s = rRs c r := by rw [hJ, va_up_self]
      refine v_iload_n (pc' := 12) dX4_reshape_11 rfl rfl ?_
      refine v_iconst (v := nI 5) (pc' := 13) dX4_reshape_12 rfl (by decide) ?_
      refine v_icmp_ge (pc' := 16) (tgt := 40) dX4_reshape_13 rfl (by decide) (fun hb => ?_) (fun hb => ?_)
      · exact absurd hb (nI_ge (by omega) (by omega))
      · refine v_aload_n (pc' := 17) dX4_reshape_16 rfl rfl ?_
        refine v_getQ (pc' := 20) dX4_reshape_17 rfl gf_X4_11 (kp_T hs) rfl (rf_T_caches hR hs) ?_
        refine v_iload_n (pc' := 21) dX4_reshape_20 rfl rfl ?_
        refine v_aaloadQ (pc' := 22) dX4_reshape_21 rfl (kp_CA hs) rfl hc (rf_CA hR hs hc) ?_
        refine v_cV0v (pc' := 25) dX4_reshape_22 rfl cv_X4_54 (kp_C hs hc) (Nat.le_of_ble_eq_true rfl) rfl (ok_refill hR hs hc (by rw [ej]; exact z1) (by rw [ej]; exact IS_of (hir c hc) (fun j h1 h2 => z2 j (by omega)))) ?_
        refine v_aload_n (pc' := 26) dX4_reshape_25 rfl rfl ?_
        refine v_getQ (pc' := 29) dX4_reshape_26 rfl gf_X4_11 (kp_T hs) rfl (rf_T_caches hR hs) ?_
        refine v_iload_n (pc' := 30) dX4_reshape_29 rfl rfl ?_
        refine v_aaloadQ (pc' := 31) dX4_reshape_30 rfl (kp_CA hs) rfl hc (rf_CA hR hs hc) ?_
        refine v_cV0v (pc' := 34) dX4_reshape_31 rfl cv_X4_57 (kp_C hs hc) (Nat.le_of_ble_eq_true rfl) rfl (ok_forgetDigests hR hs hc) ?_
        refine v_iinc3 (pc' := 37) dX4_reshape_34 rfl (by decide) rfl (inc_nI _) ?_
        refine v_goto (tgt := 11) dX4_reshape_37 (by decide) ?_
        refine ih (c + 1) _ _ (by omega) ?_ ?_
        · rw [va_up_self, bx_uu, hJ, bx_uu, va_up_self]
          rfl
        · rw [hQ, bx_uu, va_up_self]
          rfl
  refine loop 5 0 _ _ (by omega) ?_ (up_id L s).symm
  unfold stI
  rw [va_up_self, bx_uu, ← hr]
  rfl
theorem ok_isFresh {s a b : Nat} (hR : RS R) (hs : s < 5) (ha : a < 5) (hb5 : b < 5) : Ok l yX4_isFresh cX4_isFresh 3 (some .boolean) 0 0 0 [.ref (pb s), .int (nI a), .int (nI b)] I L R 287 (eqP (some (.int (if rFr (I s) a b then nI 1 else nI 0))) I L R 287) := by
  refine Ok.ofV [some (.ref (pb s)), some (.int (nI a)), some (.int (nI b))] rfl (by decide) (Nat.le_of_ble_eq_true rfl) ?_
  refine v_aload_n (pc' := 1) dX4_isFresh_0 rfl rfl ?_
  refine v_getQ (pc' := 4) dX4_isFresh_1 rfl gf_X4_11 (kp_T hs) rfl (rf_T_caches hR hs) ?_
  refine v_iload_n (pc' := 5) dX4_isFresh_4 rfl rfl ?_
  refine v_aaloadQ (pc' := 6) dX4_isFresh_5 rfl (kp_CA hs) rfl ha (rf_CA hR hs ha) ?_
  refine v_getQ (pc' := 9) dX4_isFresh_6 rfl gf_X4_91 (kp_C hs ha) rfl (rf_C_copyVersions hR hs ha) ?_
  refine v_iload_n (pc' := 10) dX4_isFresh_9 rfl rfl ?_
  refine v_ial (pc' := 11) dX4_isFresh_10 rfl (kp_copyVersions hs ha) rfl rfl (by omega) ?_
  refine v_if_eq (pc' := 14) (tgt := 41) dX4_isFresh_11 rfl (by decide) (fun hb => ?_) (fun hb => ?_)
  · refine v_iconst (v := nI 0) (pc' := 42) dX4_isFresh_41 rfl (by decide) ?_
    exact v_zret dX4_isFresh_42 rfl rfl (Nat.le_refl _) (Nat.le_refl _) ⟨by rw [if_neg (fun q => q.1 hb)], rfl, rfl, rfl, rfl⟩
  · refine v_aload_n (pc' := 15) dX4_isFresh_14 rfl rfl ?_
    refine v_gI (o := 2) (pc' := 18) dX4_isFresh_15 rfl gf_X4_17 (kp_T hs) rfl rfl ?_
    refine v_aload_n (pc' := 19) dX4_isFresh_18 rfl rfl ?_
    refine v_getQ (pc' := 22) dX4_isFresh_19 rfl gf_X4_11 (kp_T hs) rfl (rf_T_caches hR hs) ?_
    refine v_iload_n (pc' := 23) dX4_isFresh_22 rfl rfl ?_
    refine v_aaloadQ (pc' := 24) dX4_isFresh_23 rfl (kp_CA hs) rfl ha (rf_CA hR hs ha) ?_
    refine v_getQ (pc' := 27) dX4_isFresh_24 rfl gf_X4_101 (kp_C hs ha) rfl (rf_C_copyTimes hR hs ha) ?_
    refine v_iload_n (pc' := 28) dX4_isFresh_27 rfl rfl ?_
    refine v_ial (pc' := 29) dX4_isFresh_28 rfl (kp_copyTimes hs ha) rfl rfl (by omega) ?_
    refine v_isub (pc' := 30) dX4_isFresh_29 rfl ?_
    refine v_aload_n (pc' := 31) dX4_isFresh_30 rfl rfl ?_
    refine v_gI (o := 3) (pc' := 34) dX4_isFresh_31 rfl gf_X4_21 (kp_T hs) rfl rfl ?_
    refine v_icmp_gt (pc' := 37) (tgt := 41) dX4_isFresh_34 rfl (by decide) (fun hq => ?_) (fun hq => ?_)
    · refine v_iconst (v := nI 0) (pc' := 42) dX4_isFresh_41 rfl (by decide) ?_
      exact v_zret dX4_isFresh_42 rfl rfl (Nat.le_refl _) (Nat.le_refl _) ⟨by rw [if_neg (fun q => absurd hq (Int32.not_lt.mpr q.2))], rfl, rfl, rfl, rfl⟩
    · refine v_iconst (v := nI 1) (pc' := 38) dX4_isFresh_37 rfl (by decide) ?_
      refine v_goto (tgt := 42) dX4_isFresh_38 (by decide) ?_
      exact v_zret dX4_isFresh_42 rfl rfl (Nat.le_refl _) (Nat.le_refl _) ⟨by rw [if_pos ⟨hb, Int32.not_lt.mp hq⟩], rfl, rfl, rfl, rfl⟩
theorem ok_isExpected {s a b x : Nat} (hR : RS R) (hs : s < 5) (ha : a < 5) (hb5 : b < 5) (hx : x < 1000) (hm : IM (I s)) : Ok l yX4_isExpected cX4_isExpected 4 (some .boolean) 2 0 0 [.ref (pb s), .int (nI a), .int (nI b), .int (nI x)] I L R 287 (eqP (some (.int (if rEx (I s) (L s) a b x then nI 1 else nI 0))) I L R 287) := by
  obtain ⟨m1, m2, m3, m4, m5, m6⟩ := id hm
  refine Ok.ofV [some (.ref (pb s)), some (.int (nI a)), some (.int (nI b)), some (.int (nI x))] rfl (by decide) (Nat.le_of_ble_eq_true rfl) ?_
  refine v_aload_n (pc' := 1) dX4_isExpected_0 rfl rfl ?_
  refine v_iload_n (pc' := 2) dX4_isExpected_1 rfl rfl ?_
  refine v_iload_n (pc' := 3) dX4_isExpected_2 rfl rfl ?_
  refine v_cV2i (pc' := 6) dX4_isExpected_3 rfl cv_X4_104 (kp_T hs) (Nat.le_of_ble_eq_true rfl) rfl (ok_isFresh hR hs ha hb5) ?_
  refine v_if_eq (pc' := 9) (tgt := 35) dX4_isExpected_6 rfl (by decide) (fun hb => ?_) (fun hb => ?_)
  · have hb := ite01.mp hb
    refine v_iconst (v := nI 0) (pc' := 36) dX4_isExpected_35 rfl (by decide) ?_
    exact v_zret dX4_isExpected_36 rfl rfl (Nat.le_refl _) (Nat.le_refl _) ⟨by rw [if_neg (fun q => hb q.1)], rfl, rfl, rfl, rfl⟩
  · have hb := Classical.not_not.mp (fun z => hb (ite01.mpr z))
    refine v_aload_n (pc' := 10) dX4_isExpected_9 rfl rfl ?_
    refine v_getQ (pc' := 13) dX4_isExpected_10 rfl gf_X4_31 (kp_T hs) rfl (rf_T_shape hR hs) ?_
    refine v_aload_n (pc' := 14) dX4_isExpected_13 rfl rfl ?_
    refine v_getQ (pc' := 17) dX4_isExpected_14 rfl gf_X4_11 (kp_T hs) rfl (rf_T_caches hR hs) ?_
    refine v_iload_n (pc' := 18) dX4_isExpected_17 rfl rfl ?_
    refine v_aaloadQ (pc' := 19) dX4_isExpected_18 rfl (kp_CA hs) rfl ha (rf_CA hR hs ha) ?_
    refine v_getQ (pc' := 22) dX4_isExpected_19 rfl gf_X4_108 (kp_C hs ha) rfl (rf_C_copyMasks hR hs ha) ?_
    refine v_iload_n (pc' := 23) dX4_isExpected_22 rfl rfl ?_
    refine v_lal (pc' := 24) dX4_isExpected_23 rfl (kp_copyMasks hs ha) rfl rfl (by omega) ?_
    refine v_iload_n (pc' := 25) dX4_isExpected_24 rfl rfl ?_
    refine v_cV2i (pc' := 28) dX4_isExpected_25 rfl cv_X4_112 (kp_S hs) (Nat.le_of_ble_eq_true rfl) rfl (ok_isIn (kp_S hs) m1 (by omega) m3 m4 m6 hx) ?_
    refine v_if_eq (pc' := 31) (tgt := 35) dX4_isExpected_28 rfl (by decide) (fun hq => ?_) (fun hq => ?_)
    · have hq := ite01.mp hq
      refine v_iconst (v := nI 0) (pc' := 36) dX4_isExpected_35 rfl (by decide) ?_
      exact v_zret dX4_isExpected_36 rfl rfl (Nat.le_refl _) (Nat.le_refl _) ⟨by rw [if_neg (fun q => hq q.2)], rfl, rfl, rfl, rfl⟩
    · have hq := Classical.not_not.mp (fun z => hq (ite01.mpr z))
      refine v_iconst (v := nI 1) (pc' := 32) dX4_isExpected_31 rfl (by decide) ?_
      refine v_goto (tgt := 36) dX4_isExpected_32 (by decide) ?_
      exact v_zret dX4_isExpected_36 rfl rfl (Nat.le_refl _) (Nat.le_refl _) ⟨by rw [if_pos ⟨hb, hq⟩], rfl, rfl, rfl, rfl⟩
end B17
