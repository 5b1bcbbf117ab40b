/-! ===== DigestCachesModel: requests ===== -/
theorem rTl_alt {c by_ k : Nat} {fh fm hp : Int32} {r : Row} (hk : k = (if by_ = 5 then 2 else if by_ = c then 0 else 1)) : va_up (va_up (va_up (va_up r (89 + 110 * c + k) (r (89 + 110 * c + k) + nI 1)) (89 + 110 * c + 3) (va_up r (89 + 110 * c + k) (r (89 + 110 * c + k) + nI 1) (89 + 110 * c + 3) + fh)) (89 + 110 * c + 4) (va_up (va_up r (89 + 110 * c + k) (r (89 + 110 * c + k) + nI 1)) (89 + 110 * c + 3) (va_up r (89 + 110 * c + k) (r (89 + 110 * c + k) + nI 1) (89 + 110 * c + 3) + fh) (89 + 110 * c + 4) + fm)) (89 + 110 * c + 5) (va_up (va_up (va_up r (89 + 110 * c + k) (r (89 + 110 * c + k) + nI 1)) (89 + 110 * c + 3) (va_up r (89 + 110 * c + k) (r (89 + 110 * c + k) + nI 1) (89 + 110 * c + 3) + fh)) (89 + 110 * c + 4) (va_up (va_up r (89 + 110 * c + k) (r (89 + 110 * c + k) + nI 1)) (89 + 110 * c + 3) (va_up r (89 + 110 * c + k) (r (89 + 110 * c + k) + nI 1) (89 + 110 * c + 3) + fh) (89 + 110 * c + 4) + fm) (89 + 110 * c + 5) + hp) = rTl c by_ fh fm hp r := by
  have hk2 : k ≤ 2 := by
    rw [hk]
    repeat' split
    all_goals omega
  unfold rTl
  rw [← hk]
  dsimp only
  rw [va_up_ne r _ (show 89 + 110 * c + 3 ≠ 89 + 110 * c + k by omega)]
  generalize ha : r (89 + 110 * c + k) + nI 1 = a
  have e4 : ∀ (p q : Int32), va_up (va_up r (89 + 110 * c + k) p) (89 + 110 * c + 3) q (89 + 110 * c + 4) = r (89 + 110 * c + 4) := fun p q => by rw [va_up_ne _ _ (by omega), va_up_ne _ _ (by omega)]
  have e4' : ∀ (q : Int32), va_up r (89 + 110 * c + 3) q (89 + 110 * c + 4) = r (89 + 110 * c + 4) := fun q => by rw [va_up_ne _ _ (by omega)]
  rw [e4, e4']
  have e5 : ∀ (p q s : Int32), va_up (va_up (va_up r (89 + 110 * c + k) p) (89 + 110 * c + 3) q) (89 + 110 * c + 4) s (89 + 110 * c + 5) = r (89 + 110 * c + 5) := fun p q s => by rw [va_up_ne _ _ (by omega), va_up_ne _ _ (by omega), va_up_ne _ _ (by omega)]
  have e5' : ∀ (q s : Int32), va_up (va_up r (89 + 110 * c + 3) q) (89 + 110 * c + 4) s (89 + 110 * c + 5) = r (89 + 110 * c + 5) := fun q s => by rw [va_up_ne _ _ (by omega), va_up_ne _ _ (by omega)]
  rw [e5, e5']
  have ek : ∀ (q s u : Int32), va_up (va_up (va_up r (89 + 110 * c + 3) q) (89 + 110 * c + 4) s) (89 + 110 * c + 5) u (89 + 110 * c + k) = r (89 + 110 * c + k) := fun q s u => by rw [va_up_ne _ _ (by omega), va_up_ne _ _ (by omega), va_up_ne _ _ (by omega)]
  rw [ek, ha]
  rw [up_comm _ (show 89 + 110 * c + k ≠ 89 + 110 * c + 3 by omega), up_comm _ (show 89 + 110 * c + k ≠ 89 + 110 * c + 4 by omega), up_comm _ (show 89 + 110 * c + k ≠ 89 + 110 * c + 5 by omega)]
section B34
variable {l : Launch} {I : MI} {L : ML} {R : MR} {r X : Row} {m Y : Msk}
theorem m_requests {c x lim : Nat} {TI : MI} {TR : Row} {ta : Int32} (hR : RS R) (hF : MF I) (hI : Inv r) (hc : c < 5) (hx : x < 1000) (hlim : lim ≤ 4) (hTI : gw I (skW r m c x lim).1 (skW r m c x lim).2.2 = TI) (hta : nI (skW r m c x lim).2.1 = ta) (hTR : rReq c x lim r m = TR) : Ok l yX8_requests cX8_requests 7 (some .int) 5 0 0 [.ref 278, .int (nI c), .int (nI x), .int (nI lim)] (mm I r X) (mL L m Y) R 287 (eqP (some (.int ta)) (mm TI TR X) (mL L m Y) R 287) := by
  have hgo := m_goes (l := l) (X := X) (L := L) (Y := Y) hR hF hc hx hlim hI.1 (fun c hc => (hI.2.1 c hc).1) hTI hta
  have hby : (skW r m c x lim).2.1 ≤ 5 := (skW_fact hc).1
  have hws := (skW_fact (r := r) (m := m) (x := x) (lim := lim) hc).2.1
  have hl1 := (skW_fact (r := r) (m := m) (x := x) (lim := lim) hc).2.2.1
  have hFT : MF TI := by
    rw [← hTI]
    exact MF_gw hF
  have t1 : TI 21 1 = nI (skW r m c x lim).1.length := by rw [← hTI, gw_21]; rfl
  have t2 : TI 21 2 = nI (skW r m c x lim).2.2 := by rw [← hTI, gw_21]; rfl
  have t3 : TI 21 3 = mtV (skW r m c x lim).1 := by rw [← hTI, gw_21]; rfl
  unfold rReq at hTR
  generalize hM : skM r m c x lim = fm at hTR
  unfold skM at hM
  clear hTI
  generalize skW r m c x lim = Z at *
  obtain ⟨ws, by_, fh⟩ := Z
  simp only at hta hby hws hl1 t1 t2 t3 hM hTR
  subst hta
  generalize hr4 : rTl c by_ (nI fh) (nI fm) (nI ws.length - nI 1) r = r4
  have I4 : Inv r4 := by
    rw [← hr4]
    exact rTl_Inv hI hc
  generalize hr5 : (if by_ < 5 then rTake by_ x r4 else r4) = r5
  have I5 : Inv r5 := by
    rw [← hr5]
    split
    · exact rTake_Inv I4 (by assumption) hx
    · exact I4
  have hset : rSet c x by_ (nI fh) (nI fm) (nI ws.length - nI 1) r = if by_ ≠ c ∧ r5 4 ≠ 0 then rTake c x r5 else r5 := by
    unfold rSet
    simp only [hr4, hr5]
  rw [hset] at hTR
  have hlt : ∀ d, d < 5 → (oIx (fdx r d x (gS r d)) < 0 ↔ fdx r d x (gS r d) = none) := fun d hd => oIx_lt (n := gS r d) (fun k hk => (fdx_lt hk).1) (by have := (hI.2.1 d hd).1.2.1; omega)
  have t155 : ∀ (d : Int32) (v6 : Option Value) (mi : Int32), V l yX8_requests cX8_requests 7 (some .int) (rmd 5 0 0) (QM 0 0 (eqP (some (.int (nI by_))) (mm TI TR X) (mL L m Y) R 287)) (fun _ _ => True) 155 [some (.ref 278), some (.int (nI c)), some (.int (nI x)), some (.int (nI lim)), some (.int (nI by_)), some (.int mi), v6] [.int d] (mm TI r5 X) (mL L m Y) R 287 0 0 := by
    intro d v6 mi
    refine v_istore6 (pc' := 157) dX8_requests_155 rfl (by decide) rfl ?_
    refine v_iload (pc' := 159) dX8_requests_157 rfl rfl ?_
    refine v_iload_n (pc' := 160) dX8_requests_159 rfl rfl ?_
    refine v_icmp_eq (pc' := 163) (tgt := 182) dX8_requests_160 rfl (by decide) (fun hb => ?_) (fun hb => ?_)
    · have hb := (nI_eq (by omega) (by omega)).mp hb
      refine v_iconst (v := -1) (pc' := 183) dX8_requests_182 rfl (by decide) ?_
      refine v_istore6 (pc' := 185) dX8_requests_183 rfl (by decide) rfl ?_
      refine v_iload (pc' := 187) dX8_requests_185 rfl rfl ?_
      exact v_iret dX8_requests_187 rfl (Nat.le_refl _) (Nat.le_refl _) ⟨rfl, by rw [← hTR, if_neg (fun z => z.1 hb)], rfl, rfl, rfl⟩
    · have hb : by_ ≠ c := fun z => hb (by rw [z])
      refine v_aload_n (pc' := 164) dX8_requests_163 rfl rfl ?_
      refine v_getQ (pc' := 167) dX8_requests_164 rfl gf_X8_7 kp_M rfl (rf_M_row hR) ?_
      refine v_iconst (v := nI 4) (pc' := 168) dX8_requests_167 rfl (by decide) ?_
      refine v_ial (pc' := 169) dX8_requests_168 rfl kp_row (Nat.zero_add _) rfl (by omega) ?_
      refine v_iconst (v := nI 1) (pc' := 170) dX8_requests_169 rfl (by decide) ?_
      refine v_icmp_ne (pc' := 173) (tgt := 182) dX8_requests_170 rfl (by decide) (fun hq => ?_) (fun hq => ?_)
      · rw [mm_at (by decide)] at hq
        have hq : r5 4 = 0 := I5.2.2.2.1.resolve_right hq
        refine v_iconst (v := -1) (pc' := 183) dX8_requests_182 rfl (by decide) ?_
        refine v_istore6 (pc' := 185) dX8_requests_183 rfl (by decide) rfl ?_
        refine v_iload (pc' := 187) dX8_requests_185 rfl rfl ?_
        exact v_iret dX8_requests_187 rfl (Nat.le_refl _) (Nat.le_refl _) ⟨rfl, by rw [← hTR, if_neg (fun z => z.2 hq)], rfl, rfl, rfl⟩
      · rw [mm_at (by decide)] at hq
        have hq : r5 4 ≠ 0 := by
          rw [hq]
          decide
        refine v_aload_n (pc' := 174) dX8_requests_173 rfl rfl ?_
        refine v_iload_n (pc' := 175) dX8_requests_174 rfl rfl ?_
        refine v_iload_n (pc' := 176) dX8_requests_175 rfl rfl ?_
        refine v_cV2i (pc' := 179) dX8_requests_176 rfl cv_X8_99 kp_M (Nat.le_of_ble_eq_true rfl) rfl (m_stores (TR := TR) hR hFT hc hx I5.1 (I5.2.1 c hc) (by rw [← hTR, if_pos ⟨hb, hq⟩])) ?_
        refine v_goto (tgt := 183) dX8_requests_179 (by decide) ?_
        refine v_istore6 (pc' := 185) dX8_requests_183 rfl (by decide) rfl ?_
        refine v_iload (pc' := 187) dX8_requests_185 rfl rfl ?_
        exact v_iret dX8_requests_187 rfl (Nat.le_refl _) (Nat.le_refl _) ⟨rfl, rfl, rfl, rfl, rfl⟩
  have t138 : ∀ (v6 : Option Value) (mi : Int32), V l yX8_requests cX8_requests 7 (some .int) (rmd 5 0 0) (QM 0 0 (eqP (some (.int (nI by_))) (mm TI TR X) (mL L m Y) R 287)) (fun _ _ => True) 138 [some (.ref 278), some (.int (nI c)), some (.int (nI x)), some (.int (nI lim)), some (.int (nI by_)), some (.int mi), v6] [] (mm TI r4 X) (mL L m Y) R 287 0 0 := by
    intro v6 mi
    refine v_iload (pc' := 140) dX8_requests_138 rfl rfl ?_
    refine v_iconst (v := nI 5) (pc' := 141) dX8_requests_140 rfl (by decide) ?_
    refine v_icmp_ge (pc' := 144) (tgt := 154) dX8_requests_141 rfl (by decide) (fun hb => ?_) (fun hb => ?_)
    · have hb : ¬ by_ < 5 := fun z => absurd hb (nI_ge z (by decide))
      refine v_iconst (v := -1) (pc' := 155) dX8_requests_154 rfl (by decide) ?_
      have := t155 (-1) v6 mi
      rw [← hr5, if_neg hb] at this
      exact this
    · have hb : by_ < 5 := (nI_ltI (by omega) (by omega)).mp (Int32.not_le.mp hb)
      refine v_aload_n (pc' := 145) dX8_requests_144 rfl rfl ?_
      refine v_iload (pc' := 147) dX8_requests_145 rfl rfl ?_
      refine v_iload_n (pc' := 148) dX8_requests_147 rfl rfl ?_
      refine v_cV2i (pc' := 151) dX8_requests_148 rfl cv_X8_99 kp_M (Nat.le_of_ble_eq_true rfl) rfl (m_stores hR hFT hb hx I4.1 (I4.2.1 by_ hb) rfl) ?_
      refine v_goto (tgt := 155) dX8_requests_151 (by decide) ?_
      have := t155 (aTake by_ x r4) v6 mi
      rw [← hr5, if_pos hb] at this
      exact this
  have t86 : ∀ (k : Nat) (v6 : Option Value), k = (if by_ = 5 then 2 else if by_ = c then 0 else 1) → V l yX8_requests cX8_requests 7 (some .int) (rmd 5 0 0) (QM 0 0 (eqP (some (.int (nI by_))) (mm TI TR X) (mL L m Y) R 287)) (fun _ _ => True) 86 [some (.ref 278), some (.int (nI c)), some (.int (nI x)), some (.int (nI lim)), some (.int (nI by_)), some (.int (if hE r ws x 5 = true then nI 1 else nI 0)), v6] [.int (nI k), .int (nI 83), .int (nI c), .ref 278] (mm TI r X) (mL L m Y) R 287 0 0 := by
    intro k v6 hk
    have hk2 : k ≤ 2 := by
      rw [hk]
      repeat' split
      all_goals omega
    have alt := rTl_alt (fh := nI fh) (fm := nI fm) (hp := nI ws.length - nI 1) (r := r) hk
    rw [hr4] at alt
    refine v_iadd (pc' := 87) dX8_requests_86 rfl ?_
    refine v_iconst (v := nI 1) (pc' := 88) dX8_requests_87 rfl (by decide) ?_
    refine v_cV3v (pc' := 91) dX8_requests_88 rfl cv_X8_59 kp_M (Nat.le_of_ble_eq_true rfl) rfl (m_adds (w := 83 + k) (j := 89 + 110 * c + k) hR (nI_add _ _) (by omega)) ?_
    refine v_aload_n (pc' := 92) dX8_requests_91 rfl rfl ?_
    refine v_iload_n (pc' := 93) dX8_requests_92 rfl rfl ?_
    refine v_bipush (v := nI 86) (pc' := 95) dX8_requests_93 rfl (by decide) ?_
    refine v_aload_n (pc' := 96) dX8_requests_95 rfl rfl ?_
    refine v_gI (o := 2) (pc' := 99) dX8_requests_96 rfl gf_X8_133 kp_M rfl rfl ?_
    generalize va_up r (89 + 110 * c + k) (r (89 + 110 * c + k) + nI 1) = q1 at alt ⊢
    rw [show mm TI q1 X 21 2 = nI fh by rw [mm_o (by decide)]; exact t2]
    refine v_cV3v (pc' := 102) dX8_requests_99 rfl cv_X8_59 kp_M (Nat.le_of_ble_eq_true rfl) rfl (m_adds (w := 86) (j := 89 + 110 * c + 3) hR rfl (by omega)) ?_
    refine v_aload_n (pc' := 103) dX8_requests_102 rfl rfl ?_
    refine v_iload_n (pc' := 104) dX8_requests_103 rfl rfl ?_
    refine v_bipush (v := nI 87) (pc' := 106) dX8_requests_104 rfl (by decide) ?_
    refine v_iload (pc' := 108) dX8_requests_106 rfl rfl ?_
    refine v_iconst (v := nI 5) (pc' := 109) dX8_requests_108 rfl (by decide) ?_
    refine v_icmp_ne (pc' := 112) (tgt := 121) dX8_requests_109 rfl (by decide) (fun h5 => ?_) (fun h5 => ?_)
    all_goals generalize va_up q1 (89 + 110 * c + 3) (q1 (89 + 110 * c + 3) + nI fh) = q2 at alt ⊢
    · have h5 : by_ ≠ 5 := fun z => h5 (by rw [z])
      rw [if_neg (fun z => h5 z.1)] at hM
      rw [← hM] at alt
      refine v_iconst (v := nI 0) (pc' := 122) dX8_requests_121 rfl (by decide) ?_
      refine v_cV3v (pc' := 125) dX8_requests_122 rfl cv_X8_59 kp_M (Nat.le_of_ble_eq_true rfl) rfl (m_adds (w := 87) (j := 89 + 110 * c + 4) hR rfl (by omega)) ?_
      refine v_aload_n (pc' := 126) dX8_requests_125 rfl rfl ?_
      refine v_iload_n (pc' := 127) dX8_requests_126 rfl rfl ?_
      refine v_bipush (v := nI 88) (pc' := 129) dX8_requests_127 rfl (by decide) ?_
      refine v_aload_n (pc' := 130) dX8_requests_129 rfl rfl ?_
      refine v_gI (o := 1) (pc' := 133) dX8_requests_130 rfl gf_X8_136 kp_M rfl rfl ?_
      generalize va_up q2 (89 + 110 * c + 4) (q2 (89 + 110 * c + 4) + nI 0) = q3 at alt ⊢
      rw [show mm TI q3 X 21 1 = nI ws.length by rw [mm_o (by decide)]; exact t1]
      refine v_iconst (v := nI 1) (pc' := 134) dX8_requests_133 rfl (by decide) ?_
      refine v_isub (pc' := 135) dX8_requests_134 rfl ?_
      refine v_cV3v (pc' := 138) dX8_requests_135 rfl cv_X8_59 kp_M (Nat.le_of_ble_eq_true rfl) rfl (m_adds (w := 88) (j := 89 + 110 * c + 5) hR rfl (by omega)) ?_
      rw [alt]
      exact t138 _ _
    · have h5 := (nI_eq (by omega) (by decide)).mp h5
      refine v_iload (pc' := 114) dX8_requests_112 rfl rfl ?_
      refine v_if_eq (pc' := 117) (tgt := 121) dX8_requests_114 rfl (by decide) (fun h6 => ?_) (fun h6 => ?_)
      · rw [if_neg (fun z => ite01.mp h6 z.2)] at hM
        rw [← hM] at alt
        refine v_iconst (v := nI 0) (pc' := 122) dX8_requests_121 rfl (by decide) ?_
        refine v_cV3v (pc' := 125) dX8_requests_122 rfl cv_X8_59 kp_M (Nat.le_of_ble_eq_true rfl) rfl (m_adds (w := 87) (j := 89 + 110 * c + 4) hR rfl (by omega)) ?_
        refine v_aload_n (pc' := 126) dX8_requests_125 rfl rfl ?_
        refine v_iload_n (pc' := 127) dX8_requests_126 rfl rfl ?_
        refine v_bipush (v := nI 88) (pc' := 129) dX8_requests_127 rfl (by decide) ?_
        refine v_aload_n (pc' := 130) dX8_requests_129 rfl rfl ?_
        refine v_gI (o := 1) (pc' := 133) dX8_requests_130 rfl gf_X8_136 kp_M rfl rfl ?_
        generalize va_up q2 (89 + 110 * c + 4) (q2 (89 + 110 * c + 4) + nI 0) = q3 at alt ⊢
        rw [show mm TI q3 X 21 1 = nI ws.length by rw [mm_o (by decide)]; exact t1]
        refine v_iconst (v := nI 1) (pc' := 134) dX8_requests_133 rfl (by decide) ?_
        refine v_isub (pc' := 135) dX8_requests_134 rfl ?_
        refine v_cV3v (pc' := 138) dX8_requests_135 rfl cv_X8_59 kp_M (Nat.le_of_ble_eq_true rfl) rfl (m_adds (w := 88) (j := 89 + 110 * c + 5) hR rfl (by omega)) ?_
        rw [alt]
        exact t138 _ _
      · rw [if_pos ⟨h5, Classical.not_not.mp (fun z => h6 (ite01.mpr z))⟩] at hM
        rw [← hM] at alt
        refine v_iconst (v := nI 1) (pc' := 118) dX8_requests_117 rfl (by decide) ?_
        refine v_goto (tgt := 122) dX8_requests_118 (by decide) ?_
        refine v_cV3v (pc' := 125) dX8_requests_122 rfl cv_X8_59 kp_M (Nat.le_of_ble_eq_true rfl) rfl (m_adds (w := 87) (j := 89 + 110 * c + 4) hR rfl (by omega)) ?_
        refine v_aload_n (pc' := 126) dX8_requests_125 rfl rfl ?_
        refine v_iload_n (pc' := 127) dX8_requests_126 rfl rfl ?_
        refine v_bipush (v := nI 88) (pc' := 129) dX8_requests_127 rfl (by decide) ?_
        refine v_aload_n (pc' := 130) dX8_requests_129 rfl rfl ?_
        refine v_gI (o := 1) (pc' := 133) dX8_requests_130 rfl gf_X8_136 kp_M rfl rfl ?_
        generalize va_up q2 (89 + 110 * c + 4) (q2 (89 + 110 * c + 4) + nI 1) = q3 at alt ⊢
        rw [show mm TI q3 X 21 1 = nI ws.length by rw [mm_o (by decide)]; exact t1]
        refine v_iconst (v := nI 1) (pc' := 134) dX8_requests_133 rfl (by decide) ?_
        refine v_isub (pc' := 135) dX8_requests_134 rfl ?_
        refine v_cV3v (pc' := 138) dX8_requests_135 rfl cv_X8_59 kp_M (Nat.le_of_ble_eq_true rfl) rfl (m_adds (w := 88) (j := 89 + 110 * c + 5) hR rfl (by omega)) ?_
        rw [alt]
        exact t138 _ _
  refine Ok.ofV [some (.ref 278), some (.int (nI c)), some (.int (nI x)), some (.int (nI lim)), none, none, none] rfl (by decide) (Nat.le_of_ble_eq_true rfl) ?_
  refine v_aload_n (pc' := 1) dX8_requests_0 rfl rfl ?_
  refine v_iload_n (pc' := 2) dX8_requests_1 rfl rfl ?_
  refine v_iload_n (pc' := 3) dX8_requests_2 rfl rfl ?_
  refine v_iload_n (pc' := 4) dX8_requests_3 rfl rfl ?_
  refine v_cV3i (pc' := 7) dX8_requests_4 rfl cv_X8_142 kp_M (Nat.le_of_ble_eq_true rfl) rfl (hgo) ?_
  refine v_istore4 (pc' := 9) dX8_requests_7 rfl (by decide) rfl ?_
  refine v_iconst (v := nI 0) (pc' := 10) dX8_requests_9 rfl (by decide) ?_
  refine v_istore5 (pc' := 12) dX8_requests_10 rfl (by decide) rfl ?_
  refine v_iconst (v := nI 0) (pc' := 13) dX8_requests_12 rfl (by decide) ?_
  refine v_istore6 (pc' := 15) dX8_requests_13 rfl (by decide) rfl ?_
  have loop : ∀ (n d : Nat), d + n = 5 → V l yX8_requests cX8_requests 7 (some .int) (rmd 5 0 0) (QM 0 0 (eqP (some (.int (nI by_))) (mm TI TR X) (mL L m Y) R 287)) (fun _ _ => True) 15 [some (.ref 278), some (.int (nI c)), some (.int (nI x)), some (.int (nI lim)), some (.int (nI by_)), some (.int (if hE r ws x d = true then nI 1 else nI 0)), some (.int (nI d))] [] (mm TI r X) (mL L m Y) R 287 0 0 := by
    intro n
    induction n with
    | zero =>
      intro d hd
      have hd5 : d = 5 := by omega
      subst hd5
      refine v_iload (pc' := 17) dX8_requests_15 rfl rfl ?_
      refine v_iconst (v := nI 5) (pc' := 18) dX8_requests_17 rfl (by decide) ?_
      refine v_icmp_ge (pc' := 21) (tgt := 61) dX8_requests_18 rfl (by decide) (fun hb => ?_) (fun hb => ?_)
      · refine v_aload_n (pc' := 62) dX8_requests_61 rfl rfl ?_
        refine v_iload_n (pc' := 63) dX8_requests_62 rfl rfl ?_
        refine v_bipush (v := nI 83) (pc' := 65) dX8_requests_63 rfl (by decide) ?_
        refine v_iload (pc' := 67) dX8_requests_65 rfl rfl ?_
        refine v_iload_n (pc' := 68) dX8_requests_67 rfl rfl ?_
        refine v_icmp_ne (pc' := 71) (tgt := 75) dX8_requests_68 rfl (by decide) (fun hq => ?_) (fun hq => ?_)
        · have hq : by_ ≠ c := fun z => hq (by rw [z])
          refine v_iload (pc' := 77) dX8_requests_75 rfl rfl ?_
          refine v_iconst (v := nI 5) (pc' := 78) dX8_requests_77 rfl (by decide) ?_
          refine v_icmp_ge (pc' := 81) (tgt := 85) dX8_requests_78 rfl (by decide) (fun hz => ?_) (fun hz => ?_)
          · have hz : by_ = 5 := by
              have : ¬ by_ < 5 := fun z => absurd hz (nI_ge z (by decide))
              omega
            refine v_iconst (v := nI 2) (pc' := 86) dX8_requests_85 rfl (by decide) ?_
            exact t86 2 _ (by rw [if_pos hz])
          · have hz : by_ < 5 := (nI_ltI (by omega) (by omega)).mp (Int32.not_le.mp hz)
            refine v_iconst (v := nI 1) (pc' := 82) dX8_requests_81 rfl (by decide) ?_
            refine v_goto (tgt := 86) dX8_requests_82 (by decide) ?_
            exact t86 1 _ (by rw [if_neg (by omega), if_neg hq])
        · have hq := (nI_eq (by omega) (by omega)).mp hq
          refine v_iconst (v := nI 0) (pc' := 72) dX8_requests_71 rfl (by decide) ?_
          refine v_goto (tgt := 86) dX8_requests_72 (by decide) ?_
          exact t86 0 _ (by rw [if_neg (by omega), if_pos hq])
      · exact absurd (by decide) hb
    | succ n ih =>
      intro d hd
      have hd5 : d < 5 := by omega
      have nxt := ih (d + 1) (by omega)
      have e : hE r ws x (d + 1) = (hE r ws x d || decide (d ∉ ws ∧ hl r x d)) := rfl
      have yes : (hE r ws x d = true ∨ (d ∉ ws ∧ hl r x d)) → hE r ws x (d + 1) = true := by
        intro h
        rw [e, Bool.or_eq_true, decide_eq_true_eq]
        exact h
      have no : ¬ (hE r ws x d = true ∨ (d ∉ ws ∧ hl r x d)) → ¬ hE r ws x (d + 1) = true := by
        intro h
        rw [e, Bool.or_eq_true, decide_eq_true_eq]
        exact h
      refine v_iload (pc' := 17) dX8_requests_15 rfl rfl ?_
      refine v_iconst (v := nI 5) (pc' := 18) dX8_requests_17 rfl (by decide) ?_
      refine v_icmp_ge (pc' := 21) (tgt := 61) dX8_requests_18 rfl (by decide) (fun hb => ?_) (fun hb => ?_)
      · exact absurd hb (nI_ge (by omega) (by omega))
      · refine v_iload (pc' := 23) dX8_requests_21 rfl rfl ?_
        refine v_if_ne (pc' := 26) (tgt := 48) dX8_requests_23 rfl (by decide) (fun hq => ?_) (fun hq => ?_)
        · refine v_iconst (v := nI 1) (pc' := 49) dX8_requests_48 rfl (by decide) ?_
          refine v_goto (tgt := 53) dX8_requests_49 (by decide) ?_
          refine v_istore5 (pc' := 55) dX8_requests_53 rfl (by decide) rfl ?_
          refine v_iinc6 (pc' := 58) dX8_requests_55 rfl (by decide) rfl (inc_nI _) ?_
          refine v_goto (tgt := 15) dX8_requests_58 (by decide) ?_
          rw [if_pos (yes (Or.inl (Classical.not_not.mp (fun z => hq (ite01.mpr z)))))] at nxt
          exact nxt
        · have hq := ite01.mp hq
          refine v_aload_n (pc' := 27) dX8_requests_26 rfl rfl ?_
          refine v_gI (o := 3) (pc' := 30) dX8_requests_27 rfl gf_X8_130 kp_M rfl rfl ?_
          rw [show mm TI r X 21 3 = mtV ws by rw [mm_o (by decide)]; exact t3]
          refine v_iload (pc' := 32) dX8_requests_30 rfl rfl ?_
          refine v_ishr (pc' := 33) dX8_requests_32 rfl ?_
          refine v_iconst (v := nI 1) (pc' := 34) dX8_requests_33 rfl (by decide) ?_
          refine v_iand (pc' := 35) dX8_requests_34 rfl ?_
          refine v_if_ne (pc' := 38) (tgt := 52) dX8_requests_35 rfl (by decide) (fun hz => ?_) (fun hz => ?_)
          · refine v_iconst (v := nI 0) (pc' := 53) dX8_requests_52 rfl (by decide) ?_
            refine v_istore5 (pc' := 55) dX8_requests_53 rfl (by decide) rfl ?_
            refine v_iinc6 (pc' := 58) dX8_requests_55 rfl (by decide) rfl (inc_nI _) ?_
            refine v_goto (tgt := 15) dX8_requests_58 (by decide) ?_
            rw [if_neg (no (fun z => z.elim hq (fun y => hz ((mt_mem hws hd5).mpr y.1))))] at nxt
            exact nxt
          · refine v_aload_n (pc' := 39) dX8_requests_38 rfl rfl ?_
            refine v_iload (pc' := 41) dX8_requests_39 rfl rfl ?_
            refine v_iload_n (pc' := 42) dX8_requests_41 rfl rfl ?_
            refine v_cV2i (pc' := 45) dX8_requests_42 rfl cv_X8_68 kp_M (Nat.le_of_ble_eq_true rfl) rfl (m_find hR hd5 (hI.2.1 d hd5).1.1 (hI.2.1 d hd5).1.2.1) ?_
            refine v_if_lt (pc' := 48) (tgt := 52) dX8_requests_45 rfl (by decide) (fun hy => ?_) (fun hy => ?_)
            · refine v_iconst (v := nI 0) (pc' := 53) dX8_requests_52 rfl (by decide) ?_
              refine v_istore5 (pc' := 55) dX8_requests_53 rfl (by decide) rfl ?_
              refine v_iinc6 (pc' := 58) dX8_requests_55 rfl (by decide) rfl (inc_nI _) ?_
              refine v_goto (tgt := 15) dX8_requests_58 (by decide) ?_
              rw [if_neg (no (fun z => z.elim hq (fun y => y.2 ((hlt d hd5).mp hy))))] at nxt
              exact nxt
            · refine v_iconst (v := nI 1) (pc' := 49) dX8_requests_48 rfl (by decide) ?_
              refine v_goto (tgt := 53) dX8_requests_49 (by decide) ?_
              refine v_istore5 (pc' := 55) dX8_requests_53 rfl (by decide) rfl ?_
              refine v_iinc6 (pc' := 58) dX8_requests_55 rfl (by decide) rfl (inc_nI _) ?_
              refine v_goto (tgt := 15) dX8_requests_58 (by decide) ?_
              rw [if_pos (yes (Or.inr ⟨(mt_mem hws hd5).mp hz, fun y => hy ((hlt d hd5).mpr y)⟩))] at nxt
              exact nxt
  exact loop 5 0 (by omega)
end B34
