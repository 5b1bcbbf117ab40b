section B13
variable {l : Launch} {I : MI} {L : ML} {R : MR}
/-- the bits of an object -/
def fBo (M x : Nat) : Nat → Int64
  | 0 => 0
  | f + 1 => fBo M x f ||| lshf 1 (nI (vf M x f))
theorem ok_bitsOf {p g M K x : Nat} (kS : KP 287 p (3, g, 0, 0, 0)) (hM : I g 0 = nI M) (hM1 : 0 < M) (hM2 : M ≤ 64) (hK : I g 1 = nI K) (hK2 : K ≤ 4) (hx : x < 1000) : Ok l yX3_bitsOf cX3_bitsOf 5 (some .long) 1 0 0 [.ref p, .int (nI x)] I L R 287 (eqP (some (.long (fBo M x K))) I L R 287) := by
  refine Ok.ofV [some (.ref p), some (.int (nI x)), none, none, none] rfl (by decide) (Nat.le_of_ble_eq_true rfl) ?_
  refine v_lconst (v := 0) (pc' := 1) dX3_bitsOf_0 rfl (by decide) ?_
  refine v_lstore_n2 (pc' := 2) dX3_bitsOf_1 rfl (by decide) rfl ?_
  refine v_iconst (v := nI 0) (pc' := 3) dX3_bitsOf_2 rfl (by decide) ?_
  refine v_istore4 (pc' := 5) dX3_bitsOf_3 rfl (by decide) rfl ?_
  have loop : ∀ (n f : Nat), f + n = K → V l yX3_bitsOf cX3_bitsOf 5 (some .long) (rmd 1 0 0) (QM 0 0 (eqP (some (.long (fBo M x K))) I L R 287)) (fun _ _ => True) 5 [some (.ref p), some (.int (nI x)), some (.long (fBo M x f)), none, some (.int (nI f))] [] I L R 287 0 0 := by
    intro n
    induction n with
    | zero =>
      intro f hf
      refine v_iload (pc' := 7) dX3_bitsOf_5 rfl rfl ?_
      refine v_aload_n (pc' := 8) dX3_bitsOf_7 rfl rfl ?_
      refine v_gI (o := 1) (pc' := 11) dX3_bitsOf_8 rfl gf_X3_15 kS rfl rfl ?_
      refine v_icmp_ge (pc' := 14) (tgt := 32) dX3_bitsOf_11 rfl (by decide) (fun hb => ?_) (fun hb => ?_)
      · refine v_lload_n (pc' := 33) dX3_bitsOf_32 rfl rfl ?_
        exact v_lret dX3_bitsOf_33 rfl (Nat.le_refl _) (Nat.le_refl _) ⟨by rw [show f = K by omega], rfl, rfl, rfl, rfl⟩
      · exact absurd (by rw [hK]; exact nI_le (by omega) (by omega)) hb
    | succ n ih =>
      intro f hf
      refine v_iload (pc' := 7) dX3_bitsOf_5 rfl rfl ?_
      refine v_aload_n (pc' := 8) dX3_bitsOf_7 rfl rfl ?_
      refine v_gI (o := 1) (pc' := 11) dX3_bitsOf_8 rfl gf_X3_15 kS rfl rfl ?_
      refine v_icmp_ge (pc' := 14) (tgt := 32) dX3_bitsOf_11 rfl (by decide) (fun hb => ?_) (fun hb => ?_)
      · exact absurd (by rw [hK] at hb; exact hb) (nI_ge (by omega) (by omega))
      · refine v_lload_n (pc' := 15) dX3_bitsOf_14 rfl rfl ?_
        refine v_lconst (v := 1) (pc' := 16) dX3_bitsOf_15 rfl (by decide) ?_
        refine v_aload_n (pc' := 17) dX3_bitsOf_16 rfl rfl ?_
        refine v_iload_n (pc' := 18) dX3_bitsOf_17 rfl rfl ?_
        refine v_iload (pc' := 20) dX3_bitsOf_18 rfl rfl ?_
        refine v_cV2i (pc' := 23) dX3_bitsOf_20 rfl cv_X3_25 kS (Nat.le_of_ble_eq_true rfl) rfl (ok_valueOf kS hM hM1 hM2 hx (by omega)) ?_
        refine v_lshl (pc' := 24) dX3_bitsOf_23 rfl ?_
        refine v_lor (pc' := 25) dX3_bitsOf_24 rfl ?_
        refine v_lstore_n2 (pc' := 26) dX3_bitsOf_25 rfl (by decide) rfl ?_
        refine v_iinc4 (pc' := 29) dX3_bitsOf_26 rfl (by decide) rfl (inc_nI _) ?_
        refine v_goto (tgt := 5) dX3_bitsOf_29 (by decide) ?_
        exact ih (f + 1) (by omega)
  exact loop K 0 (by omega)
theorem ok_isIn {p g M K x : Nat} {m : Int64} (kS : KP 287 p (3, g, 0, 0, 0)) (hM : I g 0 = nI M) (hM1 : 0 < M) (hM2 : M ≤ 64) (hK : I g 1 = nI K) (hK2 : K ≤ 4) (hx : x < 1000) : Ok l yX3_isIn cX3_isIn 5 (some .boolean) 1 0 0 [.ref p, .long m, .int (nI x)] I L R 287 (eqP (some (.int (if fIs M x m K = true then nI 1 else nI 0))) I L R 287) := by
  refine Ok.ofV [some (.ref p), some (.long m), none, some (.int (nI x)), none] rfl (by decide) (Nat.le_of_ble_eq_true rfl) ?_
  refine v_iconst (v := nI 0) (pc' := 1) dX3_isIn_0 rfl (by decide) ?_
  refine v_istore4 (pc' := 3) dX3_isIn_1 rfl (by decide) rfl ?_
  have mono : ∀ f n, fIs M x m (f + n) = true → fIs M x m f = true := by
    intro f n
    induction n with
    | zero => exact fun h => h
    | succ n ih =>
      intro h
      have h2 : (fIs M x m (f + n) && decide (¬ lush m (nI (vf M x (f + n))) &&& 1 = 0)) = true := h
      rw [Bool.and_eq_true] at h2
      exact ih h2.1
  have loop : ∀ (n f : Nat), f + n = K → fIs M x m f = true → V l yX3_isIn cX3_isIn 5 (some .boolean) (rmd 1 0 0) (QM 0 0 (eqP (some (.int (if fIs M x m K = true then nI 1 else nI 0))) I L R 287)) (fun _ _ => True) 3 [some (.ref p), some (.long m), none, some (.int (nI x)), some (.int (nI f))] [] I L R 287 0 0 := by
    intro n
    induction n with
    | zero =>
      intro f hf hi
      refine v_iload (pc' := 5) dX3_isIn_3 rfl rfl ?_
      refine v_aload_n (pc' := 6) dX3_isIn_5 rfl rfl ?_
      refine v_gI (o := 1) (pc' := 9) dX3_isIn_6 rfl gf_X3_15 kS rfl rfl ?_
      refine v_icmp_ge (pc' := 12) (tgt := 36) dX3_isIn_9 rfl (by decide) (fun hb => ?_) (fun hb => ?_)
      · refine v_iconst (v := nI 1) (pc' := 37) dX3_isIn_36 rfl (by decide) ?_
        exact v_zret dX3_isIn_37 rfl rfl (Nat.le_refl _) (Nat.le_refl _) ⟨by rw [if_pos (by rw [← hf]; exact hi)], rfl, rfl, rfl, rfl⟩
      · exact absurd (by rw [hK]; exact nI_le (by omega) (by omega)) hb
    | succ n ih =>
      intro f hf hi
      refine v_iload (pc' := 5) dX3_isIn_3 rfl rfl ?_
      refine v_aload_n (pc' := 6) dX3_isIn_5 rfl rfl ?_
      refine v_gI (o := 1) (pc' := 9) dX3_isIn_6 rfl gf_X3_15 kS rfl rfl ?_
      refine v_icmp_ge (pc' := 12) (tgt := 36) dX3_isIn_9 rfl (by decide) (fun hb => ?_) (fun hb => ?_)
      · exact absurd (by rw [hK] at hb; exact hb) (nI_ge (by omega) (by omega))
      · refine v_lload_n (pc' := 13) dX3_isIn_12 rfl rfl ?_
        refine v_aload_n (pc' := 14) dX3_isIn_13 rfl rfl ?_
        refine v_iload_n (pc' := 15) dX3_isIn_14 rfl rfl ?_
        refine v_iload (pc' := 17) dX3_isIn_15 rfl rfl ?_
        refine v_cV2i (pc' := 20) dX3_isIn_17 rfl cv_X3_25 kS (Nat.le_of_ble_eq_true rfl) rfl (ok_valueOf kS hM hM1 hM2 hx (by omega)) ?_
        refine v_lushr (pc' := 21) dX3_isIn_20 rfl ?_
        refine v_lconst (v := 1) (pc' := 22) dX3_isIn_21 rfl (by decide) ?_
        refine v_land (pc' := 23) dX3_isIn_22 rfl ?_
        refine v_lconst (v := 0) (pc' := 24) dX3_isIn_23 rfl (by decide) ?_
        refine v_lcmp (pc' := 25) dX3_isIn_24 rfl ?_
        refine v_if_ne (pc' := 28) (tgt := 30) dX3_isIn_25 rfl (by decide) (fun hq => ?_) (fun hq => ?_)
        · refine v_iinc4 (pc' := 33) dX3_isIn_30 rfl (by decide) rfl (inc_nI _) ?_
          refine v_goto (tgt := 3) dX3_isIn_33 (by decide) ?_
          refine ih (f + 1) (by omega) ?_
          show (fIs M x m f && decide (¬ lush m (nI (vf M x f)) &&& 1 = 0)) = true
          rw [hi, Bool.true_and, decide_eq_true_eq]
          exact fun z => hq (lcmp0.mpr z)
        · refine v_iconst (v := nI 0) (pc' := 29) dX3_isIn_28 rfl (by decide) ?_
          exact v_zret dX3_isIn_29 rfl rfl (Nat.le_refl _) (Nat.le_refl _) ⟨by
              rw [if_neg]
              intro z
              have z2 : fIs M x m (f + 1) = true := mono (f + 1) n (by rw [show f + 1 + n = K by omega]; exact z)
              have z3 : (fIs M x m f && decide (¬ lush m (nI (vf M x f)) &&& 1 = 0)) = true := z2
              rw [hi, Bool.true_and, decide_eq_true_eq] at z3
              exact z3 (lcmp0.mp hq), rfl, rfl, rfl, rfl⟩
  exact loop K 0 (by omega) rfl
/-! the chance -/
def fAb (b : Int32) : Nat → Int64
  | 0 => 1000
  | f + 1 => fAb b f * b.toInt64
def fBe (M : Nat) : Nat → Int64
  | 0 => 1
  | f + 1 => fBe M f * (nI M).toInt64
def rCh (b : Int32) (M K : Nat) : Int32 := (fAb b K / fBe M K).toInt32
theorem fBe_n {M : Nat} (hM2 : M ≤ 64) : ∀ f, fBe M f = lN (M ^ f)
  | 0 => rfl
  | f + 1 => by
    show fBe M f * (nI M).toInt64 = lN (M ^ (f + 1))
    rw [fBe_n hM2 f, nI_l (by omega), Nat.pow_succ]
    unfold lN
    rw [Int64.ofNat_mul]
theorem fBe_pos {M K : Nat} (hM1 : 0 < M) (hM2 : M ≤ 64) (hK2 : K ≤ 4) : 1 ≤ fBe M K ∧ ¬ fBe M K = 0 := by
  have h1 : 0 < M ^ K := Nat.pow_pos hM1
  have h2 : M ^ K ≤ 64 ^ 4 := Nat.le_trans (Nat.pow_le_pow_left hM2 K) (Nat.pow_le_pow_right (by decide) hK2)
  have h3 : M ^ K < 2 ^ 31 := Nat.lt_of_le_of_lt h2 (by decide)
  rw [fBe_n hM2]
  constructor
  · exact (lN_le (a := 1) (by decide) h3).mpr h1
  · intro h
    have h4 := lN_toInt h3
    rw [h] at h4
    have h5 : (0 : Int) = (M ^ K : Nat) := h4
    omega
theorem ok_bitCount {m : Int64} : Ok l yJ13_bitCount_95d88 cJ13_bitCount_95d88 2 (some .int) 0 0 0 [.long m] I L R 287 (eqP (some (.int (pcn m 64))) I L R 287) := by
  refine Ok.ofV [some (.long m), none] rfl (by decide) (Nat.le_of_ble_eq_true rfl) ?_
  refine v_lload_n (pc' := 1) dJ13_bitCount_95d88_0 rfl rfl ?_
  refine v_lload_n (pc' := 2) dJ13_bitCount_95d88_1 rfl rfl ?_
  refine v_iconst (v := nI 1) (pc' := 3) dJ13_bitCount_95d88_2 rfl (by decide) ?_
  refine v_lushr (pc' := 4) dJ13_bitCount_95d88_3 rfl ?_
  refine v_ldc2 (pc' := 7) dJ13_bitCount_95d88_4 rfl kc_J13_314 ?_
  refine v_land (pc' := 8) dJ13_bitCount_95d88_7 rfl ?_
  refine v_lsub (pc' := 9) dJ13_bitCount_95d88_8 rfl ?_
  refine v_lstore_n0 (pc' := 10) dJ13_bitCount_95d88_9 rfl (by decide) ?_
  refine v_lload_n (pc' := 11) dJ13_bitCount_95d88_10 rfl rfl ?_
  refine v_ldc2 (pc' := 14) dJ13_bitCount_95d88_11 rfl kc_J13_316 ?_
  refine v_land (pc' := 15) dJ13_bitCount_95d88_14 rfl ?_
  refine v_lload_n (pc' := 16) dJ13_bitCount_95d88_15 rfl rfl ?_
  refine v_iconst (v := nI 2) (pc' := 17) dJ13_bitCount_95d88_16 rfl (by decide) ?_
  refine v_lushr (pc' := 18) dJ13_bitCount_95d88_17 rfl ?_
  refine v_ldc2 (pc' := 21) dJ13_bitCount_95d88_18 rfl kc_J13_316 ?_
  refine v_land (pc' := 22) dJ13_bitCount_95d88_21 rfl ?_
  refine v_ladd (pc' := 23) dJ13_bitCount_95d88_22 rfl ?_
  refine v_lstore_n0 (pc' := 24) dJ13_bitCount_95d88_23 rfl (by decide) ?_
  refine v_lload_n (pc' := 25) dJ13_bitCount_95d88_24 rfl rfl ?_
  refine v_lload_n (pc' := 26) dJ13_bitCount_95d88_25 rfl rfl ?_
  refine v_iconst (v := nI 4) (pc' := 27) dJ13_bitCount_95d88_26 rfl (by decide) ?_
  refine v_lushr (pc' := 28) dJ13_bitCount_95d88_27 rfl ?_
  refine v_ladd (pc' := 29) dJ13_bitCount_95d88_28 rfl ?_
  refine v_ldc2 (pc' := 32) dJ13_bitCount_95d88_29 rfl kc_J13_318 ?_
  refine v_land (pc' := 33) dJ13_bitCount_95d88_32 rfl ?_
  refine v_lstore_n0 (pc' := 34) dJ13_bitCount_95d88_33 rfl (by decide) ?_
  refine v_lload_n (pc' := 35) dJ13_bitCount_95d88_34 rfl rfl ?_
  refine v_lload_n (pc' := 36) dJ13_bitCount_95d88_35 rfl rfl ?_
  refine v_bipush (v := nI 8) (pc' := 38) dJ13_bitCount_95d88_36 rfl (by decide) ?_
  refine v_lushr (pc' := 39) dJ13_bitCount_95d88_38 rfl ?_
  refine v_ladd (pc' := 40) dJ13_bitCount_95d88_39 rfl ?_
  refine v_lstore_n0 (pc' := 41) dJ13_bitCount_95d88_40 rfl (by decide) ?_
  refine v_lload_n (pc' := 42) dJ13_bitCount_95d88_41 rfl rfl ?_
  refine v_lload_n (pc' := 43) dJ13_bitCount_95d88_42 rfl rfl ?_
  refine v_bipush (v := nI 16) (pc' := 45) dJ13_bitCount_95d88_43 rfl (by decide) ?_
  refine v_lushr (pc' := 46) dJ13_bitCount_95d88_45 rfl ?_
  refine v_ladd (pc' := 47) dJ13_bitCount_95d88_46 rfl ?_
  refine v_lstore_n0 (pc' := 48) dJ13_bitCount_95d88_47 rfl (by decide) ?_
  refine v_lload_n (pc' := 49) dJ13_bitCount_95d88_48 rfl rfl ?_
  refine v_lload_n (pc' := 50) dJ13_bitCount_95d88_49 rfl rfl ?_
  refine v_bipush (v := nI 32) (pc' := 52) dJ13_bitCount_95d88_50 rfl (by decide) ?_
  refine v_lushr (pc' := 53) dJ13_bitCount_95d88_52 rfl ?_
  refine v_ladd (pc' := 54) dJ13_bitCount_95d88_53 rfl ?_
  refine v_lstore_n0 (pc' := 55) dJ13_bitCount_95d88_54 rfl (by decide) ?_
  refine v_lload_n (pc' := 56) dJ13_bitCount_95d88_55 rfl rfl ?_
  refine v_l2i (pc' := 57) dJ13_bitCount_95d88_56 rfl ?_
  refine v_bipush (v := nI 127) (pc' := 59) dJ13_bitCount_95d88_57 rfl (by decide) ?_
  refine v_iand (pc' := 60) dJ13_bitCount_95d88_59 rfl ?_
  exact v_iret dJ13_bitCount_95d88_60 rfl (Nat.le_refl _) (Nat.le_refl _) ⟨by rw [← bitCount_eq m]; rfl, rfl, rfl, rfl, rfl⟩
theorem ok_chanceOf {p g M K : Nat} {m : Int64} (kS : KP 287 p (3, g, 0, 0, 0)) (hM : I g 0 = nI M) (hM1 : 0 < M) (hM2 : M ≤ 64) (hK : I g 1 = nI K) (hK2 : K ≤ 4) : Ok l yX3_chanceOf cX3_chanceOf 9 (some .int) 1 0 0 [.ref p, .long m] I L R 287 (eqP (some (.int (rCh (pcn m 64) M K))) I L R 287) := by
  refine Ok.ofV [some (.ref p), some (.long m), none, none, none, none, none, none, none] rfl (by decide) (Nat.le_of_ble_eq_true rfl) ?_
  refine v_lload_n (pc' := 1) dX3_chanceOf_0 rfl rfl ?_
  refine v_cS1i (pc' := 4) dX3_chanceOf_1 rfl cs_X3_29 (Nat.le_of_ble_eq_true rfl) rfl (ok_bitCount) ?_
  refine v_istore_n3 (pc' := 5) dX3_chanceOf_4 rfl (by decide) rfl ?_
  refine v_ldc2 (pc' := 8) dX3_chanceOf_5 rfl kc_X3_35 ?_
  refine v_lstore4 (pc' := 10) dX3_chanceOf_8 rfl (by decide) rfl ?_
  refine v_lconst (v := 1) (pc' := 11) dX3_chanceOf_10 rfl (by decide) ?_
  refine v_lstore6 (pc' := 13) dX3_chanceOf_11 rfl (by decide) rfl ?_
  refine v_iconst (v := nI 0) (pc' := 14) dX3_chanceOf_13 rfl (by decide) ?_
  refine v_istore8 (pc' := 16) dX3_chanceOf_14 rfl (by decide) rfl ?_
  have loop : ∀ (n f : Nat), f + n = K → V l yX3_chanceOf cX3_chanceOf 9 (some .int) (rmd 1 0 0) (QM 0 0 (eqP (some (.int (rCh (pcn m 64) M K))) I L R 287)) (fun _ _ => True) 16 [some (.ref p), some (.long m), none, some (.int (pcn m 64)), some (.long (fAb (pcn m 64) f)), none, some (.long (fBe M f)), none, some (.int (nI f))] [] I L R 287 0 0 := by
    intro n
    induction n with
    | zero =>
      intro f hf
      have hfK : f = K := by omega
      subst hfK
      refine v_iload (pc' := 18) dX3_chanceOf_16 rfl rfl ?_
      refine v_aload_n (pc' := 19) dX3_chanceOf_18 rfl rfl ?_
      refine v_gI (o := 1) (pc' := 22) dX3_chanceOf_19 rfl gf_X3_15 kS rfl rfl ?_
      refine v_icmp_ge (pc' := 25) (tgt := 48) dX3_chanceOf_22 rfl (by decide) (fun hb => ?_) (fun hb => ?_)
      · refine v_lload (pc' := 50) dX3_chanceOf_48 rfl rfl ?_
        refine v_lconst (v := 1) (pc' := 51) dX3_chanceOf_50 rfl (by decide) ?_
        refine v_lcmp (pc' := 52) dX3_chanceOf_51 rfl ?_
        refine v_if_ge (pc' := 55) (tgt := 59) dX3_chanceOf_52 rfl (by decide) (fun hq => ?_) (fun hq => ?_)
        · refine v_lload (pc' := 61) dX3_chanceOf_59 rfl rfl ?_
          refine v_lload (pc' := 63) dX3_chanceOf_61 rfl rfl ?_
          refine v_ldiv (pc' := 64) dX3_chanceOf_63 rfl (fBe_pos hM1 hM2 hK2).2 ?_
          refine v_l2i (pc' := 65) dX3_chanceOf_64 rfl ?_
          exact v_iret dX3_chanceOf_65 rfl (Nat.le_refl _) (Nat.le_refl _) ⟨rfl, rfl, rfl, rfl, rfl⟩
        · exact absurd ((lg_cmp_ge _ _).mpr (fBe_pos hM1 hM2 hK2).1) hq
      · exact absurd (by rw [hK]; exact nI_le (by omega) (by omega)) hb
    | succ n ih =>
      intro f hf
      refine v_iload (pc' := 18) dX3_chanceOf_16 rfl rfl ?_
      refine v_aload_n (pc' := 19) dX3_chanceOf_18 rfl rfl ?_
      refine v_gI (o := 1) (pc' := 22) dX3_chanceOf_19 rfl gf_X3_15 kS rfl rfl ?_
      refine v_icmp_ge (pc' := 25) (tgt := 48) dX3_chanceOf_22 rfl (by decide) (fun hb => ?_) (fun hb => ?_)
      · exact absurd (by rw [hK] at hb; exact hb) (nI_ge (by omega) (by omega))
      · refine v_lload (pc' := 27) dX3_chanceOf_25 rfl rfl ?_
        refine v_iload_n (pc' := 28) dX3_chanceOf_27 rfl rfl ?_
        refine v_i2l (pc' := 29) dX3_chanceOf_28 rfl ?_
        refine v_lmul (pc' := 30) dX3_chanceOf_29 rfl ?_
        refine v_lstore4 (pc' := 32) dX3_chanceOf_30 rfl (by decide) rfl ?_
        refine v_lload (pc' := 34) dX3_chanceOf_32 rfl rfl ?_
        refine v_aload_n (pc' := 35) dX3_chanceOf_34 rfl rfl ?_
        refine v_gI (o := 0) (pc' := 38) dX3_chanceOf_35 rfl gf_X3_9 kS rfl rfl ?_
        refine v_i2l (pc' := 39) dX3_chanceOf_38 rfl ?_
        refine v_lmul (pc' := 40) dX3_chanceOf_39 rfl ?_
        refine v_lstore6 (pc' := 42) dX3_chanceOf_40 rfl (by decide) rfl ?_
        rw [hM]
        refine v_iinc8 (pc' := 45) dX3_chanceOf_42 rfl (by decide) rfl (inc_nI _) ?_
        refine v_goto (tgt := 16) dX3_chanceOf_45 (by decide) ?_
        exact ih (f + 1) (by omega)
  exact loop K 0 (by omega)
end B13
