section B12
variable {l : Launch} {I : MI} {L : ML} {R : MR}
theorem ok_fill {p g b lb N : Nat} {v : Int32} (kA : KP 287 p (9, g, b, lb, N)) : Ok l yJ7_fill_53178 cJ7_fill_53178 4 none 0 0 0 [.ref p, .int v] I L R 287 (eqP (none) (va_up I g (fillF (I g) b N v)) L R 287) := by
  have hN : N < 10000 := kA.2.2.2
  refine Ok.ofV [some (.ref p), some (.int v), none, none] rfl (by decide) (Nat.le_of_ble_eq_true rfl) ?_
  refine v_iconst (v := nI 0) (pc' := 1) dJ7_fill_53178_0 rfl (by decide) ?_
  refine v_istore_n2 (pc' := 2) dJ7_fill_53178_1 rfl (by decide) rfl ?_
  refine v_aload_n (pc' := 3) dJ7_fill_53178_2 rfl rfl ?_
  refine v_alen (pc' := 4) dJ7_fill_53178_3 rfl kA rfl ?_
  refine v_istore_n3 (pc' := 5) dJ7_fill_53178_4 rfl (by decide) rfl ?_
  have loop : ∀ (n i : Nat) (J : MI), i + n = N → J = va_up I g (fillF (I g) b i v) → V l yJ7_fill_53178 cJ7_fill_53178 4 none (rmd 0 0 0) (QM 0 0 (eqP (none) (va_up I g (fillF (I g) b N v)) L R 287)) (fun _ _ => True) 5 [some (.ref p), some (.int v), some (.int (nI i)), some (.int (nI N))] [] J L R 287 0 0 := by
    intro n
    induction n with
    | zero =>
      intro i J hi hJ
      refine v_iload_n (pc' := 6) dJ7_fill_53178_5 rfl rfl ?_
      refine v_iload_n (pc' := 7) dJ7_fill_53178_6 rfl rfl ?_
      refine v_icmp_ge (pc' := 10) (tgt := 20) dJ7_fill_53178_7 rfl (by decide) (fun hb => ?_) (fun hb => ?_)
      · exact v_vret dJ7_fill_53178_20 rfl (Nat.le_refl _) (Nat.le_refl _) ⟨rfl, by rw [hJ, show i = N by omega], rfl, rfl, rfl⟩
      · exact absurd (nI_le (by omega) (by omega)) hb
    | succ n ih =>
      intro i J hi hJ
      refine v_iload_n (pc' := 6) dJ7_fill_53178_5 rfl rfl ?_
      refine v_iload_n (pc' := 7) dJ7_fill_53178_6 rfl rfl ?_
      refine v_icmp_ge (pc' := 10) (tgt := 20) dJ7_fill_53178_7 rfl (by decide) (fun hb => ?_) (fun hb => ?_)
      · exact absurd hb (nI_ge (by omega) (by omega))
      · refine v_aload_n (pc' := 11) dJ7_fill_53178_10 rfl rfl ?_
        refine v_iload_n (pc' := 12) dJ7_fill_53178_11 rfl rfl ?_
        refine v_iload_n (pc' := 13) dJ7_fill_53178_12 rfl rfl ?_
        refine v_ias (pc' := 14) dJ7_fill_53178_13 rfl kA rfl rfl (by omega) ?_
        refine v_iinc2 (pc' := 17) dJ7_fill_53178_14 rfl (by decide) rfl (inc_nI _) ?_
        refine v_goto (tgt := 5) dJ7_fill_53178_17 (by decide) ?_
        exact ih (i + 1) _ (by omega) (by rw [hJ, stI_up, fillF_succ (I g) b i v])
  exact loop N 0 I (by omega) (by rw [fillF_0, up_id])
theorem ok_fillL {p g b lb N : Nat} {v : Int64} (kA : KP 287 p (10, g, b, lb, N)) : Ok l yJ7_fill_d0a16 cJ7_fill_d0a16 5 none 0 0 0 [.ref p, .long v] I L R 287 (eqP (none) I (va_up L g (fillF (L g) b N v)) R 287) := by
  have hN : N < 10000 := kA.2.2.2
  refine Ok.ofV [some (.ref p), some (.long v), none, none, none] rfl (by decide) (Nat.le_of_ble_eq_true rfl) ?_
  refine v_iconst (v := nI 0) (pc' := 1) dJ7_fill_d0a16_0 rfl (by decide) ?_
  refine v_istore_n3 (pc' := 2) dJ7_fill_d0a16_1 rfl (by decide) rfl ?_
  refine v_aload_n (pc' := 3) dJ7_fill_d0a16_2 rfl rfl ?_
  refine v_alenL (pc' := 4) dJ7_fill_d0a16_3 rfl kA rfl ?_
  refine v_istore4 (pc' := 6) dJ7_fill_d0a16_4 rfl (by decide) rfl ?_
  have loop : ∀ (n i : Nat) (J : ML), i + n = N → J = va_up L g (fillF (L g) b i v) → V l yJ7_fill_d0a16 cJ7_fill_d0a16 5 none (rmd 0 0 0) (QM 0 0 (eqP (none) I (va_up L g (fillF (L g) b N v)) R 287)) (fun _ _ => True) 6 [some (.ref p), some (.long v), none, some (.int (nI i)), some (.int (nI N))] [] I J R 287 0 0 := by
    intro n
    induction n with
    | zero =>
      intro i J hi hJ
      refine v_iload_n (pc' := 7) dJ7_fill_d0a16_6 rfl rfl ?_
      refine v_iload (pc' := 9) dJ7_fill_d0a16_7 rfl rfl ?_
      refine v_icmp_ge (pc' := 12) (tgt := 22) dJ7_fill_d0a16_9 rfl (by decide) (fun hb => ?_) (fun hb => ?_)
      · exact v_vret dJ7_fill_d0a16_22 rfl (Nat.le_refl _) (Nat.le_refl _) ⟨rfl, rfl, by rw [hJ, show i = N by omega], rfl, rfl⟩
      · exact absurd (nI_le (by omega) (by omega)) hb
    | succ n ih =>
      intro i J hi hJ
      refine v_iload_n (pc' := 7) dJ7_fill_d0a16_6 rfl rfl ?_
      refine v_iload (pc' := 9) dJ7_fill_d0a16_7 rfl rfl ?_
      refine v_icmp_ge (pc' := 12) (tgt := 22) dJ7_fill_d0a16_9 rfl (by decide) (fun hb => ?_) (fun hb => ?_)
      · exact absurd hb (nI_ge (by omega) (by omega))
      · refine v_aload_n (pc' := 13) dJ7_fill_d0a16_12 rfl rfl ?_
        refine v_iload_n (pc' := 14) dJ7_fill_d0a16_13 rfl rfl ?_
        refine v_lload_n (pc' := 15) dJ7_fill_d0a16_14 rfl rfl ?_
        refine v_las (pc' := 16) dJ7_fill_d0a16_15 rfl kA rfl rfl (by omega) ?_
        refine v_iinc3 (pc' := 19) dJ7_fill_d0a16_16 rfl (by decide) rfl (inc_nI _) ?_
        refine v_goto (tgt := 6) dJ7_fill_d0a16_19 (by decide) ?_
        exact ih (i + 1) _ (by omega) (by rw [hJ, stL_up, fillF_succ (L g) b i v])
  exact loop N 0 L (by omega) (by rw [fillF_0, up_id])
/-! ===== Filter ===== -/
theorem ok_countIn {s c x M K : Nat} (hR : RS R) (hs : s < 5) (hc : c < 5) (hM : I s 0 = nI M) (hM1 : 0 < M) (hM2 : M ≤ 64) (hK : I s 1 = nI K) (hK2 : K ≤ 4) (hx : x < 1000) : Ok l yX1_countIn cX1_countIn 4 none 1 0 0 [.ref (pq s c + 8), .int (nI x)] I L R 287 (eqP (none) (va_up I s (fIn M c x K (I s))) L R 287) := by
  refine Ok.ofV [some (.ref (pq s c + 8)), some (.int (nI x)), none, none] rfl (by decide) (Nat.le_of_ble_eq_true rfl) ?_
  refine v_iconst (v := nI 0) (pc' := 1) dX1_countIn_0 rfl (by decide) ?_
  refine v_istore_n2 (pc' := 2) dX1_countIn_1 rfl (by decide) rfl ?_
  have loop : ∀ (n f : Nat) (w : Option Value) (J : MI), f + n = K → J = va_up I s (fIn M c x f (I s)) → V l yX1_countIn cX1_countIn 4 none (rmd 1 0 0) (QM 0 0 (eqP (none) (va_up I s (fIn M c x K (I s))) L R 287)) (fun _ _ => True) 2 [some (.ref (pq s c + 8)), some (.int (nI x)), some (.int (nI f)), w] [] J L R 287 0 0 := by
    intro n
    induction n with
    | zero =>
      intro f w J hf hJ
      have e1 : J s 1 = nI K := by rw [hJ, va_up_self, fIn_ne hM1 hM2 (by omega)]; exact hK
      refine v_iload_n (pc' := 3) dX1_countIn_2 rfl rfl ?_
      refine v_aload_n (pc' := 4) dX1_countIn_3 rfl rfl ?_
      refine v_getQ (pc' := 7) dX1_countIn_4 rfl gf_X1_15 (kp_F hs hc) rfl (rf_F_shape hR hs hc) ?_
      refine v_gI (o := 1) (pc' := 10) dX1_countIn_7 rfl gf_X1_19 (kp_S hs) rfl rfl ?_
      refine v_icmp_ge (pc' := 13) (tgt := 50) dX1_countIn_10 rfl (by decide) (fun hb => ?_) (fun hb => ?_)
      · exact v_vret dX1_countIn_50 rfl (Nat.le_refl _) (Nat.le_refl _) ⟨rfl, by rw [hJ, show f = K by omega], rfl, rfl, rfl⟩
      · exact absurd (by rw [e1]; exact nI_le (by omega) (by omega)) hb
    | succ n ih =>
      intro f w J hf hJ
      have e1 : J s 1 = nI K := by rw [hJ, va_up_self, fIn_ne hM1 hM2 (by omega)]; exact hK
      have e0 : J s 0 = nI M := by rw [hJ, va_up_self, fIn_ne hM1 hM2 (by omega)]; exact hM
      have hv := vf_lt (x := x) (f := f) hM1
      have ej : J s = fIn M c x f (I s) := by rw [hJ, va_up_self]
      refine v_iload_n (pc' := 3) dX1_countIn_2 rfl rfl ?_
      refine v_aload_n (pc' := 4) dX1_countIn_3 rfl rfl ?_
      refine v_getQ (pc' := 7) dX1_countIn_4 rfl gf_X1_15 (kp_F hs hc) rfl (rf_F_shape hR hs hc) ?_
      refine v_gI (o := 1) (pc' := 10) dX1_countIn_7 rfl gf_X1_19 (kp_S hs) rfl rfl ?_
      refine v_icmp_ge (pc' := 13) (tgt := 50) dX1_countIn_10 rfl (by decide) (fun hb => ?_) (fun hb => ?_)
      · exact absurd (by rw [e1] at hb; exact hb) (nI_ge (by omega) (by omega))
      · refine v_aload_n (pc' := 14) dX1_countIn_13 rfl rfl ?_
        refine v_getQ (pc' := 17) dX1_countIn_14 rfl gf_X1_15 (kp_F hs hc) rfl (rf_F_shape hR hs hc) ?_
        refine v_iload_n (pc' := 18) dX1_countIn_17 rfl rfl ?_
        refine v_iload_n (pc' := 19) dX1_countIn_18 rfl rfl ?_
        refine v_cV2i (pc' := 22) dX1_countIn_19 rfl cv_X1_25 (kp_S hs) (Nat.le_of_ble_eq_true rfl) rfl (ok_valueOf (kp_S hs) e0 hM1 hM2 hx (by omega)) ?_
        refine v_istore_n3 (pc' := 23) dX1_countIn_22 rfl (by decide) rfl ?_
        refine v_aload_n (pc' := 24) dX1_countIn_23 rfl rfl ?_
        refine v_getQ (pc' := 27) dX1_countIn_24 rfl gf_X1_9 (kp_F hs hc) rfl (rf_F_counts hR hs hc) ?_
        refine v_iload_n (pc' := 28) dX1_countIn_27 rfl rfl ?_
        refine v_ial (pc' := 29) dX1_countIn_28 rfl (kp_counts hs hc) rfl rfl (by omega) ?_
        refine v_bipush (v := nI 7) (pc' := 31) dX1_countIn_29 rfl (by decide) ?_
        refine v_icmp_ge (pc' := 34) (tgt := 44) dX1_countIn_31 rfl (by decide) (fun hq => ?_) (fun hq => ?_)
        · refine v_iinc2 (pc' := 47) dX1_countIn_44 rfl (by decide) rfl (inc_nI _) ?_
          refine v_goto (tgt := 2) dX1_countIn_47 (by decide) ?_
          refine ih (f + 1) _ J (by omega) ?_
          show J = va_up I s (cIn1 c (vf M x f) (fIn M c x f (I s)))
          rw [← ej]
          unfold cIn1
          rw [if_neg (Int32.not_lt.mpr hq), ej]
          exact hJ
        · refine v_aload_n (pc' := 35) dX1_countIn_34 rfl rfl ?_
          refine v_getQ (pc' := 38) dX1_countIn_35 rfl gf_X1_9 (kp_F hs hc) rfl (rf_F_counts hR hs hc) ?_
          refine v_iload_n (pc' := 39) dX1_countIn_38 rfl rfl ?_
          refine v_dup2 (pc' := 40) dX1_countIn_39 rfl rfl rfl ?_
          refine v_ial (pc' := 41) dX1_countIn_40 rfl (kp_counts hs hc) rfl rfl (by omega) ?_
          refine v_iconst (v := nI 1) (pc' := 42) dX1_countIn_41 rfl (by decide) ?_
          refine v_iadd (pc' := 43) dX1_countIn_42 rfl ?_
          refine v_ias (pc' := 44) dX1_countIn_43 rfl (kp_counts hs hc) rfl rfl (by omega) ?_
          refine v_iinc2 (pc' := 47) dX1_countIn_44 rfl (by decide) rfl (inc_nI _) ?_
          refine v_goto (tgt := 2) dX1_countIn_47 (by decide) ?_
          refine ih (f + 1) _ _ (by omega) ?_
          show stI J s _ _ = va_up I s (cIn1 c (vf M x f) (fIn M c x f (I s)))
          rw [← ej]
          unfold cIn1
          rw [if_pos (Int32.not_le.mp hq)]
          unfold stI
          rw [hJ, bx_uu]
  exact loop K 0 _ I (by omega) (up_id I s).symm
theorem ok_countOut {s c x M K : Nat} (hR : RS R) (hs : s < 5) (hc : c < 5) (hM : I s 0 = nI M) (hM1 : 0 < M) (hM2 : M ≤ 64) (hK : I s 1 = nI K) (hK2 : K ≤ 4) (hx : x < 1000) : Ok l yX1_countOut cX1_countOut 4 none 1 0 0 [.ref (pq s c + 8), .int (nI x)] I L R 287 (eqP (none) (va_up I s (fOut M c x K (I s))) L R 287) := by
  refine Ok.ofV [some (.ref (pq s c + 8)), some (.int (nI x)), none, none] rfl (by decide) (Nat.le_of_ble_eq_true rfl) ?_
  refine v_iconst (v := nI 0) (pc' := 1) dX1_countOut_0 rfl (by decide) ?_
  refine v_istore_n2 (pc' := 2) dX1_countOut_1 rfl (by decide) rfl ?_
  have loop : ∀ (n f : Nat) (w : Option Value) (J : MI), f + n = K → J = va_up I s (fOut M c x f (I s)) → V l yX1_countOut cX1_countOut 4 none (rmd 1 0 0) (QM 0 0 (eqP (none) (va_up I s (fOut M c x K (I s))) L R 287)) (fun _ _ => True) 2 [some (.ref (pq s c + 8)), some (.int (nI x)), some (.int (nI f)), w] [] J L R 287 0 0 := by
    intro n
    induction n with
    | zero =>
      intro f w J hf hJ
      have e1 : J s 1 = nI K := by rw [hJ, va_up_self, fOut_ne hM1 hM2 (by omega)]; exact hK
      refine v_iload_n (pc' := 3) dX1_countOut_2 rfl rfl ?_
      refine v_aload_n (pc' := 4) dX1_countOut_3 rfl rfl ?_
      refine v_getQ (pc' := 7) dX1_countOut_4 rfl gf_X1_15 (kp_F hs hc) rfl (rf_F_shape hR hs hc) ?_
      refine v_gI (o := 1) (pc' := 10) dX1_countOut_7 rfl gf_X1_19 (kp_S hs) rfl rfl ?_
      refine v_icmp_ge (pc' := 13) (tgt := 59) dX1_countOut_10 rfl (by decide) (fun hb => ?_) (fun hb => ?_)
      · exact v_vret dX1_countOut_59 rfl (Nat.le_refl _) (Nat.le_refl _) ⟨rfl, by rw [hJ, show f = K by omega], rfl, rfl, rfl⟩
      · exact absurd (by rw [e1]; exact nI_le (by omega) (by omega)) hb
    | succ n ih =>
      intro f w J hf hJ
      have e1 : J s 1 = nI K := by rw [hJ, va_up_self, fOut_ne hM1 hM2 (by omega)]; exact hK
      have e0 : J s 0 = nI M := by rw [hJ, va_up_self, fOut_ne hM1 hM2 (by omega)]; exact hM
      have hv := vf_lt (x := x) (f := f) hM1
      have ej : J s = fOut M c x f (I s) := by rw [hJ, va_up_self]
      have keep : ¬ (0 < J s (24 + 110 * c + vf M x f) ∧ J s (24 + 110 * c + vf M x f) < nI 7) → J = va_up I s (fOut M c x (f + 1) (I s)) := by
        intro hn
        show J = va_up I s (cOut1 c (vf M x f) (fOut M c x f (I s)))
        rw [← ej]
        unfold cOut1
        rw [if_neg hn, ej]
        exact hJ
      refine v_iload_n (pc' := 3) dX1_countOut_2 rfl rfl ?_
      refine v_aload_n (pc' := 4) dX1_countOut_3 rfl rfl ?_
      refine v_getQ (pc' := 7) dX1_countOut_4 rfl gf_X1_15 (kp_F hs hc) rfl (rf_F_shape hR hs hc) ?_
      refine v_gI (o := 1) (pc' := 10) dX1_countOut_7 rfl gf_X1_19 (kp_S hs) rfl rfl ?_
      refine v_icmp_ge (pc' := 13) (tgt := 59) dX1_countOut_10 rfl (by decide) (fun hb => ?_) (fun hb => ?_)
      · exact absurd (by rw [e1] at hb; exact hb) (nI_ge (by omega) (by omega))
      · refine v_aload_n (pc' := 14) dX1_countOut_13 rfl rfl ?_
        refine v_getQ (pc' := 17) dX1_countOut_14 rfl gf_X1_15 (kp_F hs hc) rfl (rf_F_shape hR hs hc) ?_
        refine v_iload_n (pc' := 18) dX1_countOut_17 rfl rfl ?_
        refine v_iload_n (pc' := 19) dX1_countOut_18 rfl rfl ?_
        refine v_cV2i (pc' := 22) dX1_countOut_19 rfl cv_X1_25 (kp_S hs) (Nat.le_of_ble_eq_true rfl) rfl (ok_valueOf (kp_S hs) e0 hM1 hM2 hx (by omega)) ?_
        refine v_istore_n3 (pc' := 23) dX1_countOut_22 rfl (by decide) rfl ?_
        refine v_aload_n (pc' := 24) dX1_countOut_23 rfl rfl ?_
        refine v_getQ (pc' := 27) dX1_countOut_24 rfl gf_X1_9 (kp_F hs hc) rfl (rf_F_counts hR hs hc) ?_
        refine v_iload_n (pc' := 28) dX1_countOut_27 rfl rfl ?_
        refine v_ial (pc' := 29) dX1_countOut_28 rfl (kp_counts hs hc) rfl rfl (by omega) ?_
        refine v_if_le (pc' := 32) (tgt := 53) dX1_countOut_29 rfl (by decide) (fun hq => ?_) (fun hq => ?_)
        · refine v_iinc2 (pc' := 56) dX1_countOut_53 rfl (by decide) rfl (inc_nI _) ?_
          refine v_goto (tgt := 2) dX1_countOut_56 (by decide) ?_
          exact ih (f + 1) _ J (by omega) (keep (fun z => absurd z.1 (Int32.not_lt.mpr hq)))
        · refine v_aload_n (pc' := 33) dX1_countOut_32 rfl rfl ?_
          refine v_getQ (pc' := 36) dX1_countOut_33 rfl gf_X1_9 (kp_F hs hc) rfl (rf_F_counts hR hs hc) ?_
          refine v_iload_n (pc' := 37) dX1_countOut_36 rfl rfl ?_
          refine v_ial (pc' := 38) dX1_countOut_37 rfl (kp_counts hs hc) rfl rfl (by omega) ?_
          refine v_bipush (v := nI 7) (pc' := 40) dX1_countOut_38 rfl (by decide) ?_
          refine v_icmp_ge (pc' := 43) (tgt := 53) dX1_countOut_40 rfl (by decide) (fun hr => ?_) (fun hr => ?_)
          · refine v_iinc2 (pc' := 56) dX1_countOut_53 rfl (by decide) rfl (inc_nI _) ?_
            refine v_goto (tgt := 2) dX1_countOut_56 (by decide) ?_
            exact ih (f + 1) _ J (by omega) (keep (fun z => absurd z.2 (Int32.not_lt.mpr hr)))
          · refine v_aload_n (pc' := 44) dX1_countOut_43 rfl rfl ?_
            refine v_getQ (pc' := 47) dX1_countOut_44 rfl gf_X1_9 (kp_F hs hc) rfl (rf_F_counts hR hs hc) ?_
            refine v_iload_n (pc' := 48) dX1_countOut_47 rfl rfl ?_
            refine v_dup2 (pc' := 49) dX1_countOut_48 rfl rfl rfl ?_
            refine v_ial (pc' := 50) dX1_countOut_49 rfl (kp_counts hs hc) rfl rfl (by omega) ?_
            refine v_iconst (v := nI 1) (pc' := 51) dX1_countOut_50 rfl (by decide) ?_
            refine v_isub (pc' := 52) dX1_countOut_51 rfl ?_
            refine v_ias (pc' := 53) dX1_countOut_52 rfl (kp_counts hs hc) rfl rfl (by omega) ?_
            refine v_iinc2 (pc' := 56) dX1_countOut_53 rfl (by decide) rfl (inc_nI _) ?_
            refine v_goto (tgt := 2) dX1_countOut_56 (by decide) ?_
            refine ih (f + 1) _ _ (by omega) ?_
            show stI J s _ _ = va_up I s (cOut1 c (vf M x f) (fOut M c x f (I s)))
            rw [← ej]
            unfold cOut1
            rw [if_pos ⟨Int32.not_le.mp hq, Int32.not_le.mp hr⟩]
            unfold stI
            rw [hJ, bx_uu]
  exact loop K 0 _ I (by omega) (up_id I s).symm
theorem ok_clear {s c : Nat} (hR : RS R) (hs : s < 5) (hc : c < 5) : Ok l yX1_clear cX1_clear 1 none 1 0 0 [.ref (pq s c + 8)] I L R 287 (eqP (none) (va_up I s (fillF (I s) (24 + 110 * c) 64 0)) L R 287) := by
  refine Ok.ofV [some (.ref (pq s c + 8))] rfl (by decide) (Nat.le_of_ble_eq_true rfl) ?_
  refine v_aload_n (pc' := 1) dX1_clear_0 rfl rfl ?_
  refine v_getQ (pc' := 4) dX1_clear_1 rfl gf_X1_9 (kp_F hs hc) rfl (rf_F_counts hR hs hc) ?_
  refine v_iconst (v := nI 0) (pc' := 5) dX1_clear_4 rfl (by decide) ?_
  refine v_cS2v (pc' := 8) dX1_clear_5 rfl cs_X1_29 (Nat.le_of_ble_eq_true rfl) rfl (ok_fill (kp_counts hs hc)) ?_
  exact v_vret dX1_clear_8 rfl (Nat.le_refl _) (Nat.le_refl _) ⟨rfl, rfl, rfl, rfl, rfl⟩
theorem ok_bits {s c M : Nat} (hR : RS R) (hs : s < 5) (hc : c < 5) (hM : I s 0 = nI M) (hM2 : M ≤ 64) : Ok l yX1_bits cX1_bits 4 (some .long) 0 0 0 [.ref (pq s c + 8)] I L R 287 (eqP (some (.long (fBt (I s) c M))) I L R 287) := by
  refine Ok.ofV [some (.ref (pq s c + 8)), none, none, none] rfl (by decide) (Nat.le_of_ble_eq_true rfl) ?_
  refine v_lconst (v := 0) (pc' := 1) dX1_bits_0 rfl (by decide) ?_
  refine v_lstore_n1 (pc' := 2) dX1_bits_1 rfl (by decide) rfl ?_
  refine v_iconst (v := nI 0) (pc' := 3) dX1_bits_2 rfl (by decide) ?_
  refine v_istore_n3 (pc' := 4) dX1_bits_3 rfl (by decide) rfl ?_
  have loop : ∀ (n k : Nat), k + n = M → V l yX1_bits cX1_bits 4 (some .long) (rmd 0 0 0) (QM 0 0 (eqP (some (.long (fBt (I s) c M))) I L R 287)) (fun _ _ => True) 4 [some (.ref (pq s c + 8)), some (.long (fBt (I s) c k)), none, some (.int (nI k))] [] I L R 287 0 0 := by
    intro n
    induction n with
    | zero =>
      intro k hk
      refine v_iload_n (pc' := 5) dX1_bits_4 rfl rfl ?_
      refine v_aload_n (pc' := 6) dX1_bits_5 rfl rfl ?_
      refine v_getQ (pc' := 9) dX1_bits_6 rfl gf_X1_15 (kp_F hs hc) rfl (rf_F_shape hR hs hc) ?_
      refine v_gI (o := 0) (pc' := 12) dX1_bits_9 rfl gf_X1_35 (kp_S hs) rfl rfl ?_
      refine v_icmp_ge (pc' := 15) (tgt := 36) dX1_bits_12 rfl (by decide) (fun hb => ?_) (fun hb => ?_)
      · refine v_lload_n (pc' := 37) dX1_bits_36 rfl rfl ?_
        exact v_lret dX1_bits_37 rfl (Nat.le_refl _) (Nat.le_refl _) ⟨by rw [show k = M by omega], rfl, rfl, rfl, rfl⟩
      · exact absurd (by rw [hM]; exact nI_le (by omega) (by omega)) hb
    | succ n ih =>
      intro k hk
      refine v_iload_n (pc' := 5) dX1_bits_4 rfl rfl ?_
      refine v_aload_n (pc' := 6) dX1_bits_5 rfl rfl ?_
      refine v_getQ (pc' := 9) dX1_bits_6 rfl gf_X1_15 (kp_F hs hc) rfl (rf_F_shape hR hs hc) ?_
      refine v_gI (o := 0) (pc' := 12) dX1_bits_9 rfl gf_X1_35 (kp_S hs) rfl rfl ?_
      refine v_icmp_ge (pc' := 15) (tgt := 36) dX1_bits_12 rfl (by decide) (fun hb => ?_) (fun hb => ?_)
      · exact absurd (by rw [hM] at hb; exact hb) (nI_ge (by omega) (by omega))
      · refine v_aload_n (pc' := 16) dX1_bits_15 rfl rfl ?_
        refine v_getQ (pc' := 19) dX1_bits_16 rfl gf_X1_9 (kp_F hs hc) rfl (rf_F_counts hR hs hc) ?_
        refine v_iload_n (pc' := 20) dX1_bits_19 rfl rfl ?_
        refine v_ial (pc' := 21) dX1_bits_20 rfl (kp_counts hs hc) rfl rfl (by omega) ?_
        refine v_if_le (pc' := 24) (tgt := 30) dX1_bits_21 rfl (by decide) (fun hq => ?_) (fun hq => ?_)
        · refine v_iinc3 (pc' := 33) dX1_bits_30 rfl (by decide) rfl (inc_nI _) ?_
          refine v_goto (tgt := 4) dX1_bits_33 (by decide) ?_
          have e : fBt (I s) c (k + 1) = fBt (I s) c k := if_neg (Int32.not_lt.mpr hq)
          have := ih (k + 1) (by omega)
          rw [e] at this
          exact this
        · refine v_lload_n (pc' := 25) dX1_bits_24 rfl rfl ?_
          refine v_lconst (v := 1) (pc' := 26) dX1_bits_25 rfl (by decide) ?_
          refine v_iload_n (pc' := 27) dX1_bits_26 rfl rfl ?_
          refine v_lshl (pc' := 28) dX1_bits_27 rfl ?_
          refine v_lor (pc' := 29) dX1_bits_28 rfl ?_
          refine v_lstore_n1 (pc' := 30) dX1_bits_29 rfl (by decide) rfl ?_
          refine v_iinc3 (pc' := 33) dX1_bits_30 rfl (by decide) rfl (inc_nI _) ?_
          refine v_goto (tgt := 4) dX1_bits_33 (by decide) ?_
          have e : fBt (I s) c (k + 1) = fBt (I s) c k ||| lshf 1 (nI k) := if_pos (Int32.not_le.mp hq)
          have := ih (k + 1) (by omega)
          rw [e] at this
          exact this
  exact loop M 0 (by omega)
theorem ok_copyCountsTo {s c p g b lb N : Nat} (hR : RS R) (hs : s < 5) (hc : c < 5) (kA : KP 287 p (9, g, b, lb, N)) (hN : 64 ≤ N) : Ok l yX1_copyCountsTo cX1_copyCountsTo 2 none 1 0 0 [.ref (pq s c + 8), .ref p] I L R 287 (eqP (none) (cpI I s (24 + 110 * c) g b 64) L R 287) := by
  refine Ok.ofV [some (.ref (pq s c + 8)), some (.ref p)] rfl (by decide) (Nat.le_of_ble_eq_true rfl) ?_
  refine v_aload_n (pc' := 1) dX1_copyCountsTo_0 rfl rfl ?_
  refine v_getQ (pc' := 4) dX1_copyCountsTo_1 rfl gf_X1_9 (kp_F hs hc) rfl (rf_F_counts hR hs hc) ?_
  refine v_iconst (v := nI 0) (pc' := 5) dX1_copyCountsTo_4 rfl (by decide) ?_
  refine v_aload_n (pc' := 6) dX1_copyCountsTo_5 rfl rfl ?_
  refine v_iconst (v := nI 0) (pc' := 7) dX1_copyCountsTo_6 rfl (by decide) ?_
  refine v_bipush (v := nI 64) (pc' := 9) dX1_copyCountsTo_7 rfl (by decide) ?_
  refine v_copyI (pc' := 12) dX1_copyCountsTo_9 rfl cs_X1_38 ac_nat ac_stat ac_init (kp_counts hs hc) kA rfl rfl rfl (by decide) hN (Nat.le_of_ble_eq_true rfl) (by decide) ?_
  exact v_vret dX1_copyCountsTo_12 rfl (Nat.le_refl _) (Nat.le_refl _) ⟨rfl, rfl, rfl, rfl, rfl⟩
theorem ok_copyFromF {s c s2 : Nat} (hR : RS R) (hs : s < 5) (hc : c < 5) (hs2 : s2 < 5) : Ok l yX1_copyFrom cX1_copyFrom 2 none 2 0 0 [.ref (pq s c + 8), .ref (pq s2 c + 8)] I L R 287 (eqP (none) (cpI I s2 (24 + 110 * c) s (24 + 110 * c) 64) L R 287) := by
  refine Ok.ofV [some (.ref (pq s c + 8)), some (.ref (pq s2 c + 8))] rfl (by decide) (Nat.le_of_ble_eq_true rfl) ?_
  refine v_aload_n (pc' := 1) dX1_copyFrom_0 rfl rfl ?_
  refine v_aload_n (pc' := 2) dX1_copyFrom_1 rfl rfl ?_
  refine v_getQ (pc' := 5) dX1_copyFrom_2 rfl gf_X1_9 (kp_F hs hc) rfl (rf_F_counts hR hs hc) ?_
  refine v_cV1v (pc' := 8) dX1_copyFrom_5 rfl cv_X1_44 (kp_F hs2 hc) (Nat.le_of_ble_eq_true rfl) rfl (ok_copyCountsTo hR hs2 hc (kp_counts hs hc) (by decide)) ?_
  exact v_vret dX1_copyFrom_8 rfl (Nat.le_refl _) (Nat.le_refl _) ⟨rfl, rfl, rfl, rfl, rfl⟩
/-- in how many of the first n places two rows differ -/
def fDf (r w : Row) (b : Nat) : Nat → Int32
  | 0 => nI 0
  | k + 1 => if r (b + k) = w k then fDf r w b k else fDf r w b k + 1
theorem ok_differences {s c p g : Nat} (hR : RS R) (hs : s < 5) (hc : c < 5) (kA : KP 287 p (9, g, 0, 0, 64)) : Ok l yX1_differences cX1_differences 4 (some .int) 0 0 0 [.ref (pq s c + 8), .ref p] I L R 287 (eqP (some (.int (fDf (I s) (I g) (24 + 110 * c) 64))) I L R 287) := by
  refine Ok.ofV [some (.ref (pq s c + 8)), some (.ref p), none, none] rfl (by decide) (Nat.le_of_ble_eq_true rfl) ?_
  refine v_iconst (v := nI 0) (pc' := 1) dX1_differences_0 rfl (by decide) ?_
  refine v_istore_n2 (pc' := 2) dX1_differences_1 rfl (by decide) rfl ?_
  refine v_iconst (v := nI 0) (pc' := 3) dX1_differences_2 rfl (by decide) ?_
  refine v_istore_n3 (pc' := 4) dX1_differences_3 rfl (by decide) rfl ?_
  have loop : ∀ (n k : Nat), k + n = 64 → V l yX1_differences cX1_differences 4 (some .int) (rmd 0 0 0) (QM 0 0 (eqP (some (.int (fDf (I s) (I g) (24 + 110 * c) 64))) I L R 287)) (fun _ _ => True) 4 [some (.ref (pq s c + 8)), some (.ref p), some (.int (fDf (I s) (I g) (24 + 110 * c) k)), some (.int (nI k))] [] I L R 287 0 0 := by
    intro n
    induction n with
    | zero =>
      intro k hk
      refine v_iload_n (pc' := 5) dX1_differences_4 rfl rfl ?_
      refine v_bipush (v := nI 64) (pc' := 7) dX1_differences_5 rfl (by decide) ?_
      refine v_icmp_ge (pc' := 10) (tgt := 31) dX1_differences_7 rfl (by decide) (fun hb => ?_) (fun hb => ?_)
      · refine v_iload_n (pc' := 32) dX1_differences_31 rfl rfl ?_
        exact v_iret dX1_differences_32 rfl (Nat.le_refl _) (Nat.le_refl _) ⟨by rw [show k = 64 by omega], rfl, rfl, rfl, rfl⟩
      · exact absurd (nI_le (by omega) (by omega)) hb
    | succ n ih =>
      intro k hk
      refine v_iload_n (pc' := 5) dX1_differences_4 rfl rfl ?_
      refine v_bipush (v := nI 64) (pc' := 7) dX1_differences_5 rfl (by decide) ?_
      refine v_icmp_ge (pc' := 10) (tgt := 31) dX1_differences_7 rfl (by decide) (fun hb => ?_) (fun hb => ?_)
      · exact absurd hb (nI_ge (by omega) (by omega))
      · refine v_aload_n (pc' := 11) dX1_differences_10 rfl rfl ?_
        refine v_getQ (pc' := 14) dX1_differences_11 rfl gf_X1_9 (kp_F hs hc) rfl (rf_F_counts hR hs hc) ?_
        refine v_iload_n (pc' := 15) dX1_differences_14 rfl rfl ?_
        refine v_ial (pc' := 16) dX1_differences_15 rfl (kp_counts hs hc) rfl rfl (by omega) ?_
        refine v_aload_n (pc' := 17) dX1_differences_16 rfl rfl ?_
        refine v_iload_n (pc' := 18) dX1_differences_17 rfl rfl ?_
        refine v_ial (pc' := 19) dX1_differences_18 rfl kA (Nat.zero_add _) rfl (by omega) ?_
        refine v_icmp_eq (pc' := 22) (tgt := 25) dX1_differences_19 rfl (by decide) (fun hq => ?_) (fun hq => ?_)
        · refine v_iinc3 (pc' := 28) dX1_differences_25 rfl (by decide) rfl (inc_nI _) ?_
          refine v_goto (tgt := 4) dX1_differences_28 (by decide) ?_
          have := ih (k + 1) (by omega)
          unfold fDf at this
          rw [if_pos hq] at this
          exact this
        · refine v_iinc2 (pc' := 25) dX1_differences_22 rfl (by decide) rfl rfl ?_
          refine v_iinc3 (pc' := 28) dX1_differences_25 rfl (by decide) rfl (inc_nI _) ?_
          refine v_goto (tgt := 4) dX1_differences_28 (by decide) ?_
          have := ih (k + 1) (by omega)
          unfold fDf at this
          rw [if_neg hq] at this
          exact this
  exact loop 64 0 (by omega)
end B12
