/-! ===== DigestCaches: requests, text ===== -/
section B27
variable {l : Launch} {I : MI} {L : ML} {R : MR} {sg : Nat → Nat} {k : Nat} {TI : MI} {TL : ML}
theorem d_sized_no1 {a b : Int32} (h : noC a) : Ok l yX7_sized cX7_sized 6 (some .int) 3 0 0 [.ref 0, .int a, .int b] I L R 287 (eqP (some (.int (-2))) I L R 287) := by
  refine Ok.ofV [some (.ref 0), some (.int a), some (.int b), none, none, none] rfl (by decide) (Nat.le_of_ble_eq_true rfl) ?_
  refine v_iload_n (pc' := 1) dX7_sized_0 rfl rfl ?_
  refine v_cS1i (pc' := 4) dX7_sized_1 rfl cs_X7_72 (Nat.le_of_ble_eq_true rfl) rfl (ok_isNoCache) ?_
  refine v_if_eq (pc' := 7) (tgt := 10) dX7_sized_4 rfl (by decide) (fun hb => ?_) (fun hb => ?_)
  · exact absurd h (ite01.mp hb)
  · refine v_bipush (v := -2) (pc' := 9) dX7_sized_7 rfl (by decide) ?_
    exact v_iret dX7_sized_9 rfl (Nat.le_refl _) (Nat.le_refl _) ⟨rfl, rfl, rfl, rfl, rfl⟩
theorem d_sized_no2 {c : Nat} {b : Int32} (hc : c < 5) (h : b < nI 0 ∨ nI 1000 < b) : Ok l yX7_sized cX7_sized 6 (some .int) 3 0 0 [.ref 0, .int (nI c), .int b] I L R 287 (eqP (some (.int (-3))) I L R 287) := by
  refine Ok.ofV [some (.ref 0), some (.int (nI c)), some (.int b), none, none, none] rfl (by decide) (Nat.le_of_ble_eq_true rfl) ?_
  refine v_iload_n (pc' := 1) dX7_sized_0 rfl rfl ?_
  refine v_cS1i (pc' := 4) dX7_sized_1 rfl cs_X7_72 (Nat.le_of_ble_eq_true rfl) rfl (ok_isNoCache) ?_
  refine v_if_eq (pc' := 7) (tgt := 10) dX7_sized_4 rfl (by decide) (fun hb => ?_) (fun hb => ?_)
  · refine v_iload_n (pc' := 11) dX7_sized_10 rfl rfl ?_
    refine v_iconst (v := nI 0) (pc' := 12) dX7_sized_11 rfl (by decide) ?_
    refine v_sipush (v := nI 1000) (pc' := 15) dX7_sized_12 rfl (by decide) ?_
    refine v_cS3i (pc' := 18) dX7_sized_15 rfl cs_X7_53 (Nat.le_of_ble_eq_true rfl) rfl (ok_isOutside) ?_
    refine v_if_eq (pc' := 21) (tgt := 24) dX7_sized_18 rfl (by decide) (fun hq => ?_) (fun hq => ?_)
    · exact absurd h (ite01.mp hq)
    · refine v_bipush (v := -3) (pc' := 23) dX7_sized_21 rfl (by decide) ?_
      exact v_iret dX7_sized_23 rfl (Nat.le_refl _) (Nat.le_refl _) ⟨rfl, rfl, rfl, rfl, rfl⟩
  · exact absurd (ite01.mpr (ncC hc)) hb
theorem d_sized {c m : Nat} {ta : Int32} (hR : RS R) (hI : Inv (I 0)) (hc : c < 5) (hm : m ≤ 1000) (hTI : va_up I 13 (szM (I 0) c (nI m) 57 (I 13)).1 = TI) (hta : (szM (I 0) c (nI m) 57 (I 13)).2 = ta) : Ok l yX7_sized cX7_sized 6 (some .int) 3 0 0 [.ref 0, .int (nI c), .int (nI m)] I L R 287 (eqP (some (.int ta)) TI L R 287) := by
  have h05 : (0 : Nat) < 5 := by decide
  have hIS := (hI.2.1 c hc).1
  generalize hY : szM (I 0) c (nI m) 57 (I 13) = Y at hTI hta
  refine Ok.ofV [some (.ref 0), some (.int (nI c)), some (.int (nI m)), none, none, none] rfl (by decide) (Nat.le_of_ble_eq_true rfl) ?_
  refine v_iload_n (pc' := 1) dX7_sized_0 rfl rfl ?_
  refine v_cS1i (pc' := 4) dX7_sized_1 rfl cs_X7_72 (Nat.le_of_ble_eq_true rfl) rfl (ok_isNoCache) ?_
  refine v_if_eq (pc' := 7) (tgt := 10) dX7_sized_4 rfl (by decide) (fun hb => ?_) (fun hb => ?_)
  · refine v_iload_n (pc' := 11) dX7_sized_10 rfl rfl ?_
    refine v_iconst (v := nI 0) (pc' := 12) dX7_sized_11 rfl (by decide) ?_
    refine v_sipush (v := nI 1000) (pc' := 15) dX7_sized_12 rfl (by decide) ?_
    refine v_cS3i (pc' := 18) dX7_sized_15 rfl cs_X7_53 (Nat.le_of_ble_eq_true rfl) rfl (ok_isOutside) ?_
    refine v_if_eq (pc' := 21) (tgt := 24) dX7_sized_18 rfl (by decide) (fun hq => ?_) (fun hq => ?_)
    · refine v_aload_n (pc' := 25) dX7_sized_24 rfl rfl ?_
      refine v_getQ (pc' := 28) dX7_sized_25 rfl gf_X7_15 kp_D rfl (rf_D_state hR) ?_
      refine v_getQ (pc' := 31) dX7_sized_28 rfl gf_X7_76 (kp_T h05) rfl (rf_T_caches hR h05) ?_
      refine v_iload_n (pc' := 32) dX7_sized_31 rfl rfl ?_
      refine v_aaloadQ (pc' := 33) dX7_sized_32 rfl (kp_CA h05) rfl hc (rf_CA hR h05 hc) ?_
      refine v_astore_n3 (pc' := 34) dX7_sized_33 rfl (by decide) rfl ?_
      refine v_bipush (v := nI 8) (pc' := 36) dX7_sized_34 rfl (by decide) ?_
      refine v_istore4 (pc' := 38) dX7_sized_36 rfl (by decide) rfl ?_
      have loop : ∀ (n M : Nat) (w : Row) (v5 : Option Value), M + n = 65 → 8 ≤ M → Y = szM (I 0) c (nI m) n w → V l yX7_sized cX7_sized 6 (some .int) (rmd 3 0 0) (QM 0 0 (eqP (some (.int ta)) TI L R 287)) (fun _ _ => True) 38 [some (.ref 0), some (.int (nI c)), some (.int (nI m)), some (.ref (pq 0 c)), some (.int (nI M)), v5] [] (va_up I 13 w) L R 287 0 0 := by
        intro n
        induction n with
        | zero =>
          intro M w v5 hn hM8 he
          refine v_iload (pc' := 40) dX7_sized_38 rfl rfl ?_
          refine v_bipush (v := nI 64) (pc' := 42) dX7_sized_40 rfl (by decide) ?_
          refine v_icmp_gt (pc' := 45) (tgt := 105) dX7_sized_42 rfl (by decide) (fun hb => ?_) (fun hb => ?_)
          · refine v_iconst (v := -1) (pc' := 106) dX7_sized_105 rfl (by decide) ?_
            exact v_iret dX7_sized_106 rfl (Nat.le_refl _) (Nat.le_refl _) ⟨by rw [← hta, he]; rfl, by rw [← hTI, he]; rfl, rfl, rfl, rfl⟩
          · exact absurd (nI_lt (by omega) (by omega)) hb
        | succ n ih =>
          intro M w v5 hn hM8 he
          refine v_iload (pc' := 40) dX7_sized_38 rfl rfl ?_
          refine v_bipush (v := nI 64) (pc' := 42) dX7_sized_40 rfl (by decide) ?_
          refine v_icmp_gt (pc' := 45) (tgt := 105) dX7_sized_42 rfl (by decide) (fun hb => ?_) (fun hb => ?_)
          · exact absurd hb (nI_nlt (by omega) (by omega))
          · refine v_iconst (v := nI 1) (pc' := 46) dX7_sized_45 rfl (by decide) ?_
            refine v_istore5 (pc' := 48) dX7_sized_46 rfl (by decide) rfl ?_
            have hMn : M = 64 - n := by omega
            unfold szM at he
            rw [← hMn] at he
            generalize hZ : szF (I 0) c (nI m) M 4 w = Z at he
            have inner : ∀ (j K : Nat) (w' : Row), K + j = 5 → 1 ≤ K → Z = szF (I 0) c (nI m) M j w' → V l yX7_sized cX7_sized 6 (some .int) (rmd 3 0 0) (QM 0 0 (eqP (some (.int ta)) TI L R 287)) (fun _ _ => True) 48 [some (.ref 0), some (.int (nI c)), some (.int (nI m)), some (.ref (pq 0 c)), some (.int (nI M)), some (.int (nI K))] [] (va_up I 13 w') L R 287 0 0 := by
              intro j
              induction j with
              | zero =>
                intro K w' hK hK1 he2
                rw [he2] at he
                refine v_iload (pc' := 50) dX7_sized_48 rfl rfl ?_
                refine v_iconst (v := nI 4) (pc' := 51) dX7_sized_50 rfl (by decide) ?_
                refine v_icmp_gt (pc' := 54) (tgt := 99) dX7_sized_51 rfl (by decide) (fun hb => ?_) (fun hb => ?_)
                · refine v_iinc4 (pc' := 102) dX7_sized_99 rfl (by decide) rfl (inc_nI _) ?_
                  refine v_goto (tgt := 38) dX7_sized_102 (by decide) ?_
                  exact ih (M + 1) w' _ (by omega) (by omega) he
                · exact absurd (nI_lt (by omega) (by omega)) hb
              | succ j jh =>
                intro K w' hK hK1 he2
                have hKj : K = 4 - j := by omega
                unfold szF at he2
                rw [← hKj] at he2
                refine v_iload (pc' := 50) dX7_sized_48 rfl rfl ?_
                refine v_iconst (v := nI 4) (pc' := 51) dX7_sized_50 rfl (by decide) ?_
                refine v_icmp_gt (pc' := 54) (tgt := 99) dX7_sized_51 rfl (by decide) (fun hb => ?_) (fun hb => ?_)
                · exact absurd hb (nI_nlt (by omega) (by omega))
                · refine v_aload_n (pc' := 55) dX7_sized_54 rfl rfl ?_
                  refine v_getQ (pc' := 58) dX7_sized_55 rfl gf_X7_45 kp_D rfl (rf_D_trialShape hR) ?_
                  refine v_iload (pc' := 60) dX7_sized_58 rfl rfl ?_
                  refine v_iload (pc' := 62) dX7_sized_60 rfl rfl ?_
                  refine v_cV2v (pc' := 65) dX7_sized_62 rfl cv_X7_180 kp_S2 (Nat.le_of_ble_eq_true rfl) rfl (ok_change kp_S2) ?_
                  have e1 : stI (stI (va_up I 13 w') 13 0 (nI M)) 13 1 (nI K) = va_up I 13 (va_up (va_up w' 0 (nI M)) 1 (nI K)) := by
                    unfold stI
                    simp only [va_up_self, bx_uu]
                  rw [e1]
                  generalize hw2 : va_up (va_up w' 0 (nI M)) 1 (nI K) = w2 at he2 ⊢
                  have f0 : va_up I 13 w2 13 0 = nI M := by rw [va_up_self, ← hw2, va_up_ne _ _ (by decide), va_up_self]
                  have f1 : va_up I 13 w2 13 1 = nI K := by rw [va_up_self, ← hw2, va_up_self]
                  have f2 : va_up I 13 w2 0 = I 0 := va_up_ne _ _ (by decide)
                  refine v_aload_n (pc' := 66) dX7_sized_65 rfl rfl ?_
                  refine v_getQ (pc' := 69) dX7_sized_66 rfl gf_X7_45 kp_D rfl (rf_D_trialShape hR) ?_
                  refine v_aload_n (pc' := 70) dX7_sized_69 rfl rfl ?_
                  refine v_aload_n (pc' := 71) dX7_sized_70 rfl rfl ?_
                  refine v_getQ (pc' := 74) dX7_sized_71 rfl gf_X7_45 kp_D rfl (rf_D_trialShape hR) ?_
                  refine v_cV1l (pc' := 77) dX7_sized_74 rfl cv_X7_183 (kp_C h05 hc) (Nat.le_of_ble_eq_true rfl) rfl (ok_bitsWith hR h05 hc (by rw [f2]; exact hIS) kp_S2 f0 (by omega) (by omega) f1 (by omega)) ?_
                  rw [f2]
                  refine v_cV1i (pc' := 80) dX7_sized_77 rfl cv_X7_172 kp_S2 (Nat.le_of_ble_eq_true rfl) rfl (ok_chanceOf kp_S2 f0 (by omega) (by omega) f1 (by omega)) ?_
                  refine v_iload_n (pc' := 81) dX7_sized_80 rfl rfl ?_
                  refine v_icmp_gt (pc' := 84) (tgt := 93) dX7_sized_81 rfl (by decide) (fun hz => ?_) (fun hz => ?_)
                  · rw [if_neg (Int32.not_le.mpr hz)] at he2
                    refine v_iinc5 (pc' := 96) dX7_sized_93 rfl (by decide) rfl (inc_nI _) ?_
                    refine v_goto (tgt := 48) dX7_sized_96 (by decide) ?_
                    exact jh (K + 1) w2 (by omega) (by omega) he2
                  · rw [if_pos (Int32.not_lt.mp hz)] at he2
                    rw [he2] at he
                    refine v_bipush (v := nI 10) (pc' := 86) dX7_sized_84 rfl (by decide) ?_
                    refine v_iload (pc' := 88) dX7_sized_86 rfl rfl ?_
                    refine v_imul (pc' := 89) dX7_sized_88 rfl ?_
                    refine v_iload (pc' := 91) dX7_sized_89 rfl rfl ?_
                    refine v_iadd (pc' := 92) dX7_sized_91 rfl ?_
                    exact v_iret dX7_sized_92 rfl (Nat.le_refl _) (Nat.le_refl _) ⟨by rw [← hta, he], by rw [← hTI, he], rfl, rfl, rfl⟩
            exact inner 4 1 w (by omega) (by omega) hZ.symm
      have e0 : va_up I 13 (I 13) = I := up_id _ _
      have := loop 57 8 (I 13) none (by omega) (by omega) hY.symm
      rw [e0] at this
      exact this
    · exact absurd (ite01.mpr (inr (Nat.zero_le _) hm (by decide))) hq
  · exact absurd (ite01.mpr (ncC hc)) hb
theorem d_way_no {a : Int32} (h : a < 0) : Ok l yX7_way cX7_way 2 (some .int) 0 0 0 [.ref 0, .int a] I L R 287 (eqP (some (.int (-3))) I L R 287) := by
  refine Ok.ofV [some (.ref 0), some (.int a)] rfl (by decide) (Nat.le_of_ble_eq_true rfl) ?_
  refine v_iload_n (pc' := 1) dX7_way_0 rfl rfl ?_
  refine v_if_ge (pc' := 4) (tgt := 7) dX7_way_1 rfl (by decide) (fun hb => ?_) (fun hb => ?_)
  · exact absurd h (Int32.not_lt.mpr hb)
  · refine v_bipush (v := -3) (pc' := 6) dX7_way_4 rfl (by decide) ?_
    exact v_iret dX7_way_6 rfl (Nat.le_refl _) (Nat.le_refl _) ⟨rfl, rfl, rfl, rfl, rfl⟩
theorem d_way_out {i n : Nat} (hR : RS R) (hn : I 9 0 = nI n) (hi : n ≤ i) (hi2 : i < 2 ^ 31) : Ok l yX7_way cX7_way 2 (some .int) 0 0 0 [.ref 0, .int (nI i)] I L R 287 (eqP (some (.int (-1))) I L R 287) := by
  refine Ok.ofV [some (.ref 0), some (.int (nI i))] rfl (by decide) (Nat.le_of_ble_eq_true rfl) ?_
  refine v_iload_n (pc' := 1) dX7_way_0 rfl rfl ?_
  refine v_if_ge (pc' := 4) (tgt := 7) dX7_way_1 rfl (by decide) (fun hb => ?_) (fun hb => ?_)
  · refine v_iload_n (pc' := 8) dX7_way_7 rfl rfl ?_
    refine v_aload_n (pc' := 9) dX7_way_8 rfl rfl ?_
    refine v_getQ (pc' := 12) dX7_way_9 rfl gf_X7_38 kp_D rfl (rf_D_latest hR) ?_
    refine v_gI (o := 0) (pc' := 15) dX7_way_12 rfl gf_X7_219 kp_W rfl rfl ?_
    refine v_icmp_ge (pc' := 18) (tgt := 30) dX7_way_15 rfl (by decide) (fun hq => ?_) (fun hq => ?_)
    · refine v_iconst (v := -1) (pc' := 31) dX7_way_30 rfl (by decide) ?_
      exact v_iret dX7_way_31 rfl (Nat.le_refl _) (Nat.le_refl _) ⟨rfl, rfl, rfl, rfl, rfl⟩
    · refine absurd ?_ hq
      rw [hn]
      exact nI_le hi hi2
  · exact absurd (nI_pos' hi2) hb
theorem d_way {i n : Nat} (hR : RS R) (hn : I 9 0 = nI n) (hi : i < n) (hn5 : n ≤ 5) : Ok l yX7_way cX7_way 2 (some .int) 0 0 0 [.ref 0, .int (nI i)] I L R 287 (eqP (some (.int (I 10 i))) I L R 287) := by
  refine Ok.ofV [some (.ref 0), some (.int (nI i))] rfl (by decide) (Nat.le_of_ble_eq_true rfl) ?_
  refine v_iload_n (pc' := 1) dX7_way_0 rfl rfl ?_
  refine v_if_ge (pc' := 4) (tgt := 7) dX7_way_1 rfl (by decide) (fun hb => ?_) (fun hb => ?_)
  · refine v_iload_n (pc' := 8) dX7_way_7 rfl rfl ?_
    refine v_aload_n (pc' := 9) dX7_way_8 rfl rfl ?_
    refine v_getQ (pc' := 12) dX7_way_9 rfl gf_X7_38 kp_D rfl (rf_D_latest hR) ?_
    refine v_gI (o := 0) (pc' := 15) dX7_way_12 rfl gf_X7_219 kp_W rfl rfl ?_
    refine v_icmp_ge (pc' := 18) (tgt := 30) dX7_way_15 rfl (by decide) (fun hq => ?_) (fun hq => ?_)
    · rw [hn] at hq
      exact absurd hq (nI_ge hi (by omega))
    · refine v_aload_n (pc' := 19) dX7_way_18 rfl rfl ?_
      refine v_getQ (pc' := 22) dX7_way_19 rfl gf_X7_38 kp_D rfl (rf_D_latest hR) ?_
      refine v_getQ (pc' := 25) dX7_way_22 rfl gf_X7_222 kp_W rfl (rf_W_places hR) ?_
      refine v_iload_n (pc' := 26) dX7_way_25 rfl rfl ?_
      refine v_ial (pc' := 27) dX7_way_26 rfl kp_places (Nat.zero_add _) rfl (by omega) ?_
      refine v_goto (tgt := 31) dX7_way_27 (by decide) ?_
      exact v_iret dX7_way_31 rfl (Nat.le_refl _) (Nat.le_refl _) ⟨rfl, rfl, rfl, rfl, rfl⟩
  · exact absurd (nI_pos' (by omega)) hb
theorem d_serve {c x lim : Nat} {ta : Int32} (hR : RS R) (hI : Inv (I 0)) (hc : c < 5) (hx : x < 1000) (hlim : lim ≤ 4) (hTI : srv c x lim L I = TI) (hta : nI (skW (I 0) (L 0) c x lim).2.1 = ta) : Ok l yX7_serve cX7_serve 4 (some .int) 5 0 0 [.ref 0, .int (nI c), .int (nI x), .int (nI lim)] I L R 287 (eqP (some (.int ta)) TI L R 287) := by
  have h05 : (0 : Nat) < 5 := by decide
  have hsk : (skW (I 0) (L 0) c x lim).2.1 ≤ 5 := (skW_fact hc).1
  unfold srv at hTI
  generalize hJ : wkF I 9 10 (skW (I 0) (L 0) c x lim) (skM (I 0) (L 0) c x lim) = J at hTI
  have j0 : J 0 = I 0 := by
    rw [← hJ]
    unfold wkF
    rw [va_up_ne _ _ (by decide), va_up_ne _ _ (by decide)]
  have j9 : J 9 = wkN (skW (I 0) (L 0) c x lim).1.length (skW (I 0) (L 0) c x lim).2.1 (skW (I 0) (L 0) c x lim).2.2 (skM (I 0) (L 0) c x lim) (I 9) := by
    rw [← hJ]
    unfold wkF
    rw [va_up_ne _ _ (by decide), va_up_self]
  have j90 : J 9 0 = nI (skW (I 0) (L 0) c x lim).1.length := by rw [j9]; rfl
  have j91 : J 9 1 = nI (skW (I 0) (L 0) c x lim).2.1 := by rw [j9]; rfl
  have j92 : J 9 2 = nI (skW (I 0) (L 0) c x lim).2.2 := by rw [j9]; rfl
  have j93 : J 9 3 = nI (skM (I 0) (L 0) c x lim) := by rw [j9]; rfl
  have hT9 : TI 9 = J 9 := by rw [← hTI, va_up_ne _ _ (by decide)]
  refine Ok.ofV [some (.ref 0), some (.int (nI c)), some (.int (nI x)), some (.int (nI lim))] rfl (by decide) (Nat.le_of_ble_eq_true rfl) ?_
  refine v_aload_n (pc' := 1) dX7_serve_0 rfl rfl ?_
  refine v_getQ (pc' := 4) dX7_serve_1 rfl gf_X7_38 kp_D rfl (rf_D_latest hR) ?_
  refine v_aload_n (pc' := 5) dX7_serve_4 rfl rfl ?_
  refine v_getQ (pc' := 8) dX7_serve_5 rfl gf_X7_15 kp_D rfl (rf_D_state hR) ?_
  refine v_iload_n (pc' := 9) dX7_serve_8 rfl rfl ?_
  refine v_iload_n (pc' := 10) dX7_serve_9 rfl rfl ?_
  refine v_iload_n (pc' := 11) dX7_serve_10 rfl rfl ?_
  refine v_cV4v (pc' := 14) dX7_serve_11 rfl cv_X7_228 kp_W (Nat.le_of_ble_eq_true rfl) rfl (ok_seek hR kp_W (rf_W_places hR) kp_places (by decide) (by decide) (by decide) hc hx hlim hI.1 (fun c hc => (hI.2.1 c hc).1) hI.2.2.1 hJ) ?_
  refine v_aload_n (pc' := 15) dX7_serve_14 rfl rfl ?_
  refine v_getQ (pc' := 18) dX7_serve_15 rfl gf_X7_15 kp_D rfl (rf_D_state hR) ?_
  refine v_aload_n (pc' := 19) dX7_serve_18 rfl rfl ?_
  refine v_getQ (pc' := 22) dX7_serve_19 rfl gf_X7_38 kp_D rfl (rf_D_latest hR) ?_
  refine v_iload_n (pc' := 23) dX7_serve_22 rfl rfl ?_
  refine v_iload_n (pc' := 24) dX7_serve_23 rfl rfl ?_
  refine v_cV3v (pc' := 27) dX7_serve_24 rfl cv_X7_260 (kp_T h05) (Nat.le_of_ble_eq_true rfl) rfl (ok_settle (TI := TI) hR h05 hc hx (by rw [j0]; exact hI.1) (by rw [j0]; exact hI.2.1) hsk kp_W (by decide) j91 (by rw [j0, j90, j92, j93]; exact hTI)) ?_
  refine v_aload_n (pc' := 28) dX7_serve_27 rfl rfl ?_
  refine v_getQ (pc' := 31) dX7_serve_28 rfl gf_X7_38 kp_D rfl (rf_D_latest hR) ?_
  refine v_gI (o := 1) (pc' := 34) dX7_serve_31 rfl gf_X7_232 kp_W rfl rfl ?_
  exact v_iret dX7_serve_34 rfl (Nat.le_refl _) (Nat.le_refl _) ⟨by rw [hT9, j91, hta], rfl, rfl, rfl, rfl⟩
theorem d_request_no1 {a b w : Int32} (h : noC a ∨ noO b) : Ok l yX7_request cX7_request 5 (some .int) 6 0 0 [.ref 0, .int a, .int b, .int w] I L R 287 (eqP (some (.int (ofE a))) I L R 287) := by
  refine Ok.ofV [some (.ref 0), some (.int a), some (.int b), some (.int w), none] rfl (by decide) (Nat.le_of_ble_eq_true rfl) ?_
  refine v_iload_n (pc' := 1) dX7_request_0 rfl rfl ?_
  refine v_iload_n (pc' := 2) dX7_request_1 rfl rfl ?_
  refine v_cS2i (pc' := 5) dX7_request_2 rfl cs_X7_113 (Nat.le_of_ble_eq_true rfl) rfl (ok_of2 h) ?_
  refine v_istore4 (pc' := 7) dX7_request_5 rfl (by decide) rfl ?_
  refine v_iload (pc' := 9) dX7_request_7 rfl rfl ?_
  refine v_iconst (v := -1) (pc' := 10) dX7_request_9 rfl (by decide) ?_
  refine v_icmp_eq (pc' := 13) (tgt := 16) dX7_request_10 rfl (by decide) (fun hb => ?_) (fun hb => ?_)
  · exact absurd hb (ofE_ne a)
  · refine v_iload (pc' := 15) dX7_request_13 rfl rfl ?_
    exact v_iret dX7_request_15 rfl (Nat.le_refl _) (Nat.le_refl _) ⟨rfl, rfl, rfl, rfl, rfl⟩
theorem d_request_no2 {c x : Nat} {w : Int32} (hc : c < 5) (hx : x < 1000) (h : w < nI 0 ∨ nI 4 < w) : Ok l yX7_request cX7_request 5 (some .int) 6 0 0 [.ref 0, .int (nI c), .int (nI x), .int w] I L R 287 (eqP (some (.int (-3))) I L R 287) := by
  refine Ok.ofV [some (.ref 0), some (.int (nI c)), some (.int (nI x)), some (.int w), none] rfl (by decide) (Nat.le_of_ble_eq_true rfl) ?_
  refine v_iload_n (pc' := 1) dX7_request_0 rfl rfl ?_
  refine v_iload_n (pc' := 2) dX7_request_1 rfl rfl ?_
  refine v_cS2i (pc' := 5) dX7_request_2 rfl cs_X7_113 (Nat.le_of_ble_eq_true rfl) rfl (ok_of1 hc hx) ?_
  refine v_istore4 (pc' := 7) dX7_request_5 rfl (by decide) rfl ?_
  refine v_iload (pc' := 9) dX7_request_7 rfl rfl ?_
  refine v_iconst (v := -1) (pc' := 10) dX7_request_9 rfl (by decide) ?_
  refine v_icmp_eq (pc' := 13) (tgt := 16) dX7_request_10 rfl (by decide) (fun hb => ?_) (fun hb => ?_)
  · refine v_iload_n (pc' := 17) dX7_request_16 rfl rfl ?_
    refine v_iconst (v := nI 0) (pc' := 18) dX7_request_17 rfl (by decide) ?_
    refine v_iconst (v := nI 4) (pc' := 19) dX7_request_18 rfl (by decide) ?_
    refine v_cS3i (pc' := 22) dX7_request_19 rfl cs_X7_53 (Nat.le_of_ble_eq_true rfl) rfl (ok_isOutside) ?_
    refine v_if_eq (pc' := 25) (tgt := 28) dX7_request_22 rfl (by decide) (fun hq => ?_) (fun hq => ?_)
    · exact absurd h (ite01.mp hq)
    · refine v_bipush (v := -3) (pc' := 27) dX7_request_25 rfl (by decide) ?_
      exact v_iret dX7_request_27 rfl (Nat.le_refl _) (Nat.le_refl _) ⟨rfl, rfl, rfl, rfl, rfl⟩
  · exact absurd rfl hb
theorem d_request {c x lim : Nat} {ta : Int32} (hR : RS R) (hH : HS R sg) (hk : I 15 0 = nI k) (hk4 : k ≤ 4) (hI : Inv (I 0)) (hc : c < 5) (hx : x < 1000) (hlim : lim ≤ 4) (hTI : srv c x lim (KL L sg k) (KI I sg k) = TI) (hta : nI (skW (I 0) (L 0) c x lim).2.1 = ta) : Ok l yX7_request cX7_request 5 (some .int) 6 0 0 [.ref 0, .int (nI c), .int (nI x), .int (nI lim)] I L R 287 (eqP (some (.int ta)) TI (KL L sg k) (KR R sg k) 287) := by
  have h05 : (0 : Nat) < 5 := by decide
  have e0 : KI I sg k 0 = I 0 := KI_0 hH
  have l0 : KL L sg k 0 = L 0 := KL_0 hH
  refine Ok.ofV [some (.ref 0), some (.int (nI c)), some (.int (nI x)), some (.int (nI lim)), none] rfl (by decide) (Nat.le_of_ble_eq_true rfl) ?_
  refine v_iload_n (pc' := 1) dX7_request_0 rfl rfl ?_
  refine v_iload_n (pc' := 2) dX7_request_1 rfl rfl ?_
  refine v_cS2i (pc' := 5) dX7_request_2 rfl cs_X7_113 (Nat.le_of_ble_eq_true rfl) rfl (ok_of1 hc hx) ?_
  refine v_istore4 (pc' := 7) dX7_request_5 rfl (by decide) rfl ?_
  refine v_iload (pc' := 9) dX7_request_7 rfl rfl ?_
  refine v_iconst (v := -1) (pc' := 10) dX7_request_9 rfl (by decide) ?_
  refine v_icmp_eq (pc' := 13) (tgt := 16) dX7_request_10 rfl (by decide) (fun hb => ?_) (fun hb => ?_)
  · refine v_iload_n (pc' := 17) dX7_request_16 rfl rfl ?_
    refine v_iconst (v := nI 0) (pc' := 18) dX7_request_17 rfl (by decide) ?_
    refine v_iconst (v := nI 4) (pc' := 19) dX7_request_18 rfl (by decide) ?_
    refine v_cS3i (pc' := 22) dX7_request_19 rfl cs_X7_53 (Nat.le_of_ble_eq_true rfl) rfl (ok_isOutside) ?_
    refine v_if_eq (pc' := 25) (tgt := 28) dX7_request_22 rfl (by decide) (fun hq => ?_) (fun hq => ?_)
    · refine v_aload_n (pc' := 29) dX7_request_28 rfl rfl ?_
      refine v_getQ (pc' := 32) dX7_request_29 rfl gf_X7_24 kp_D rfl (rf_D_history hR) ?_
      refine v_aload_n (pc' := 33) dX7_request_32 rfl rfl ?_
      refine v_getQ (pc' := 36) dX7_request_33 rfl gf_X7_15 kp_D rfl (rf_D_state hR) ?_
      refine v_cV1v (pc' := 39) dX7_request_36 rfl cv_X7_57 kp_H (Nat.le_of_ble_eq_true rfl) rfl (ok_kp hR hH hk hk4 hI) ?_
      have hR := KRS (sg := sg) (k := k) hR
      refine v_aload_n (pc' := 40) dX7_request_39 rfl rfl ?_
      refine v_iload_n (pc' := 41) dX7_request_40 rfl rfl ?_
      refine v_iload_n (pc' := 42) dX7_request_41 rfl rfl ?_
      refine v_iload_n (pc' := 43) dX7_request_42 rfl rfl ?_
      refine v_cV3i (pc' := 46) dX7_request_43 rfl cv_X7_215 kp_D (Nat.le_of_ble_eq_true rfl) rfl (d_serve (TI := TI) (ta := ta) hR (by rw [e0]; exact hI) hc hx hlim hTI (by rw [e0, l0]; exact hta)) ?_
      exact v_iret dX7_request_46 rfl (Nat.le_refl _) (Nat.le_refl _) ⟨rfl, rfl, rfl, rfl, rfl⟩
    · exact absurd (ite01.mpr (inr (Nat.zero_le _) hlim (by decide))) hq
  · exact absurd rfl hb
theorem d_wouldServe_no {a b : Int32} (h : noC a ∨ noO b) : Ok l yX7_wouldServe cX7_wouldServe 4 (some .int) 5 0 0 [.ref 0, .int a, .int b] I L R 287 (eqP (some (.int (ofE a))) I L R 287) := by
  refine Ok.ofV [some (.ref 0), some (.int a), some (.int b), none] rfl (by decide) (Nat.le_of_ble_eq_true rfl) ?_
  refine v_iload_n (pc' := 1) dX7_wouldServe_0 rfl rfl ?_
  refine v_iload_n (pc' := 2) dX7_wouldServe_1 rfl rfl ?_
  refine v_cS2i (pc' := 5) dX7_wouldServe_2 rfl cs_X7_113 (Nat.le_of_ble_eq_true rfl) rfl (ok_of2 h) ?_
  refine v_istore_n3 (pc' := 6) dX7_wouldServe_5 rfl (by decide) rfl ?_
  refine v_iload_n (pc' := 7) dX7_wouldServe_6 rfl rfl ?_
  refine v_iconst (v := -1) (pc' := 8) dX7_wouldServe_7 rfl (by decide) ?_
  refine v_icmp_eq (pc' := 11) (tgt := 13) dX7_wouldServe_8 rfl (by decide) (fun hb => ?_) (fun hb => ?_)
  · exact absurd hb (ofE_ne a)
  · refine v_iload_n (pc' := 12) dX7_wouldServe_11 rfl rfl ?_
    exact v_iret dX7_wouldServe_12 rfl (Nat.le_refl _) (Nat.le_refl _) ⟨rfl, rfl, rfl, rfl, rfl⟩
theorem d_wouldServe {c x : Nat} {ta : Int32} (hR : RS R) (hI : Inv (I 0)) (hc : c < 5) (hx : x < 1000) (hTI : wkF I 11 12 (skW (I 0) (L 0) c x 4) (skM (I 0) (L 0) c x 4) = TI) (hta : nI (skW (I 0) (L 0) c x 4).2.1 = ta) : Ok l yX7_wouldServe cX7_wouldServe 4 (some .int) 5 0 0 [.ref 0, .int (nI c), .int (nI x)] I L R 287 (eqP (some (.int ta)) TI L R 287) := by
  have h05 : (0 : Nat) < 5 := by decide
  have j91 : TI 11 1 = nI (skW (I 0) (L 0) c x 4).2.1 := by
    rw [← hTI]
    unfold wkF
    rw [va_up_ne _ _ (by decide), va_up_self]
    rfl
  refine Ok.ofV [some (.ref 0), some (.int (nI c)), some (.int (nI x)), none] rfl (by decide) (Nat.le_of_ble_eq_true rfl) ?_
  refine v_iload_n (pc' := 1) dX7_wouldServe_0 rfl rfl ?_
  refine v_iload_n (pc' := 2) dX7_wouldServe_1 rfl rfl ?_
  refine v_cS2i (pc' := 5) dX7_wouldServe_2 rfl cs_X7_113 (Nat.le_of_ble_eq_true rfl) rfl (ok_of1 hc hx) ?_
  refine v_istore_n3 (pc' := 6) dX7_wouldServe_5 rfl (by decide) rfl ?_
  refine v_iload_n (pc' := 7) dX7_wouldServe_6 rfl rfl ?_
  refine v_iconst (v := -1) (pc' := 8) dX7_wouldServe_7 rfl (by decide) ?_
  refine v_icmp_eq (pc' := 11) (tgt := 13) dX7_wouldServe_8 rfl (by decide) (fun hb => ?_) (fun hb => ?_)
  · refine v_aload_n (pc' := 14) dX7_wouldServe_13 rfl rfl ?_
    refine v_getQ (pc' := 17) dX7_wouldServe_14 rfl gf_X7_42 kp_D rfl (rf_D_trialWalk hR) ?_
    refine v_aload_n (pc' := 18) dX7_wouldServe_17 rfl rfl ?_
    refine v_getQ (pc' := 21) dX7_wouldServe_18 rfl gf_X7_15 kp_D rfl (rf_D_state hR) ?_
    refine v_iload_n (pc' := 22) dX7_wouldServe_21 rfl rfl ?_
    refine v_iload_n (pc' := 23) dX7_wouldServe_22 rfl rfl ?_
    refine v_iconst (v := nI 4) (pc' := 24) dX7_wouldServe_23 rfl (by decide) ?_
    refine v_cV4v (pc' := 27) dX7_wouldServe_24 rfl cv_X7_228 kp_W2 (Nat.le_of_ble_eq_true rfl) rfl (ok_seek hR kp_W2 (rf_W2_places hR) kp_places2 (by decide) (by decide) (by decide) hc hx (Nat.le_refl _) hI.1 (fun c hc => (hI.2.1 c hc).1) hI.2.2.1 hTI) ?_
    refine v_aload_n (pc' := 28) dX7_wouldServe_27 rfl rfl ?_
    refine v_getQ (pc' := 31) dX7_wouldServe_28 rfl gf_X7_42 kp_D rfl (rf_D_trialWalk hR) ?_
    refine v_gI (o := 1) (pc' := 34) dX7_wouldServe_31 rfl gf_X7_232 kp_W2 rfl rfl ?_
    exact v_iret dX7_wouldServe_34 rfl (Nat.le_refl _) (Nat.le_refl _) ⟨by rw [j91, hta], rfl, rfl, rfl, rfl⟩
  · exact absurd rfl hb
theorem d_undo_no (hR : RS R) (hk : I 15 0 = nI 0) : Ok l yX7_undo cX7_undo 1 (some .int) 6 0 0 [.ref 0] I L R 287 (eqP (some (.int (-4))) I L R 287) := by
  refine Ok.ofV [some (.ref 0)] rfl (by decide) (Nat.le_of_ble_eq_true rfl) ?_
  refine v_aload_n (pc' := 1) dX7_undo_0 rfl rfl ?_
  refine v_getQ (pc' := 4) dX7_undo_1 rfl gf_X7_24 kp_D rfl (rf_D_history hR) ?_
  refine v_gI (o := 0) (pc' := 7) dX7_undo_4 rfl gf_X7_235 kp_H rfl rfl ?_
  refine v_if_ne (pc' := 10) (tgt := 13) dX7_undo_7 rfl (by decide) (fun hb => ?_) (fun hb => ?_)
  · rw [hk] at hb
    exact absurd rfl hb
  · refine v_bipush (v := -4) (pc' := 12) dX7_undo_10 rfl (by decide) ?_
    exact v_iret dX7_undo_12 rfl (Nat.le_refl _) (Nat.le_refl _) ⟨rfl, rfl, rfl, rfl, rfl⟩
theorem d_undo {t : Nat} (hR : RS R) (hH : HS R sg) (hk : I 15 0 = nI (k + 1)) (hk4 : k < 4) (ht : t = sg k) (hI : Inv (I t)) (hTI : va_up (stI I 15 0 (nI k)) 0 (ovr (I t) (I 0) 0 556) = TI) (hTL : va_up L 0 (ovr (L t) (L 0) 0 30) = TL) : Ok l yX7_undo cX7_undo 1 (some .int) 6 0 0 [.ref 0] I L R 287 (eqP (some (.int (nI k))) TI TL R 287) := by
  have h05 : (0 : Nat) < 5 := by decide
  have e15 : TI 15 0 = nI k := by
    rw [← hTI, va_up_ne _ _ (by decide)]
    rw [stI_self]
  refine Ok.ofV [some (.ref 0)] rfl (by decide) (Nat.le_of_ble_eq_true rfl) ?_
  refine v_aload_n (pc' := 1) dX7_undo_0 rfl rfl ?_
  refine v_getQ (pc' := 4) dX7_undo_1 rfl gf_X7_24 kp_D rfl (rf_D_history hR) ?_
  refine v_gI (o := 0) (pc' := 7) dX7_undo_4 rfl gf_X7_235 kp_H rfl rfl ?_
  refine v_if_ne (pc' := 10) (tgt := 13) dX7_undo_7 rfl (by decide) (fun hb => ?_) (fun hb => ?_)
  · refine v_aload_n (pc' := 14) dX7_undo_13 rfl rfl ?_
    refine v_getQ (pc' := 17) dX7_undo_14 rfl gf_X7_24 kp_D rfl (rf_D_history hR) ?_
    refine v_aload_n (pc' := 18) dX7_undo_17 rfl rfl ?_
    refine v_getQ (pc' := 21) dX7_undo_18 rfl gf_X7_15 kp_D rfl (rf_D_state hR) ?_
    refine v_cV1v (pc' := 24) dX7_undo_21 rfl cv_X7_238 kp_H (Nat.le_of_ble_eq_true rfl) rfl (ok_restoreTo hR hH hk hk4 ht (nar4 hI) hTI hTL) ?_
    refine v_aload_n (pc' := 25) dX7_undo_24 rfl rfl ?_
    refine v_getQ (pc' := 28) dX7_undo_25 rfl gf_X7_24 kp_D rfl (rf_D_history hR) ?_
    refine v_gI (o := 0) (pc' := 31) dX7_undo_28 rfl gf_X7_235 kp_H rfl rfl ?_
    exact v_iret dX7_undo_31 rfl (Nat.le_refl _) (Nat.le_refl _) ⟨by rw [e15], rfl, rfl, rfl, rfl⟩
  · rw [hk] at hb
    exact absurd hb (nI_ne0 (by omega) (by omega))
theorem d_type_no {a : Int32} (h : a < nI 0 ∨ nI 255 < a) : Ok l yX7_type cX7_type 2 (some .int) 1 0 0 [.ref 0, .int a] I L R 287 (eqP (some (.int (-3))) I L R 287) := by
  refine Ok.ofV [some (.ref 0), some (.int a)] rfl (by decide) (Nat.le_of_ble_eq_true rfl) ?_
  refine v_iload_n (pc' := 1) dX7_type_0 rfl rfl ?_
  refine v_iconst (v := nI 0) (pc' := 2) dX7_type_1 rfl (by decide) ?_
  refine v_sipush (v := nI 255) (pc' := 5) dX7_type_2 rfl (by decide) ?_
  refine v_cS3i (pc' := 8) dX7_type_5 rfl cs_X7_53 (Nat.le_of_ble_eq_true rfl) rfl (ok_isOutside) ?_
  refine v_if_eq (pc' := 11) (tgt := 14) dX7_type_8 rfl (by decide) (fun hb => ?_) (fun hb => ?_)
  · exact absurd h (ite01.mp hb)
  · refine v_bipush (v := -3) (pc' := 13) dX7_type_11 rfl (by decide) ?_
    exact v_iret dX7_type_13 rfl (Nat.le_refl _) (Nat.le_refl _) ⟨rfl, rfl, rfl, rfl, rfl⟩
theorem d_type_full {v : Nat} (hR : RS R) (hv : v ≤ 255) (hn : I 5 0 = nI 100) : Ok l yX7_type cX7_type 2 (some .int) 1 0 0 [.ref 0, .int (nI v)] I L R 287 (eqP (some (.int (-5))) I L R 287) := by
  refine Ok.ofV [some (.ref 0), some (.int (nI v))] rfl (by decide) (Nat.le_of_ble_eq_true rfl) ?_
  refine v_iload_n (pc' := 1) dX7_type_0 rfl rfl ?_
  refine v_iconst (v := nI 0) (pc' := 2) dX7_type_1 rfl (by decide) ?_
  refine v_sipush (v := nI 255) (pc' := 5) dX7_type_2 rfl (by decide) ?_
  refine v_cS3i (pc' := 8) dX7_type_5 rfl cs_X7_53 (Nat.le_of_ble_eq_true rfl) rfl (ok_isOutside) ?_
  refine v_if_eq (pc' := 11) (tgt := 14) dX7_type_8 rfl (by decide) (fun hb => ?_) (fun hb => ?_)
  · refine v_aload_n (pc' := 15) dX7_type_14 rfl rfl ?_
    refine v_getQ (pc' := 18) dX7_type_15 rfl gf_X7_31 kp_D rfl (rf_D_text hR) ?_
    refine v_iload_n (pc' := 19) dX7_type_18 rfl rfl ?_
    refine v_cV1i (pc' := 22) dX7_type_19 rfl cv_X7_241 kp_X (Nat.le_of_ble_eq_true rfl) rfl (ok_appendF hR hn) ?_
    refine v_if_eq (pc' := 25) (tgt := 35) dX7_type_22 rfl (by decide) (fun hq => ?_) (fun hq => ?_)
    · refine v_bipush (v := -5) (pc' := 37) dX7_type_35 rfl (by decide) ?_
      exact v_iret dX7_type_37 rfl (Nat.le_refl _) (Nat.le_refl _) ⟨rfl, rfl, rfl, rfl, rfl⟩
    · exact absurd rfl hq
  · exact absurd (ite01.mpr (inr (Nat.zero_le _) hv (by decide))) hb
theorem d_type {v n : Nat} (hR : RS R) (hv : v ≤ 255) (hn : I 5 0 = nI n) (hn2 : n < 100) : Ok l yX7_type cX7_type 2 (some .int) 1 0 0 [.ref 0, .int (nI v)] I L R 287 (eqP (some (.int (nI (n + 1)))) (stI (stI I 6 n (nI v)) 5 0 (nI (n + 1))) L R 287) := by
  refine Ok.ofV [some (.ref 0), some (.int (nI v))] rfl (by decide) (Nat.le_of_ble_eq_true rfl) ?_
  refine v_iload_n (pc' := 1) dX7_type_0 rfl rfl ?_
  refine v_iconst (v := nI 0) (pc' := 2) dX7_type_1 rfl (by decide) ?_
  refine v_sipush (v := nI 255) (pc' := 5) dX7_type_2 rfl (by decide) ?_
  refine v_cS3i (pc' := 8) dX7_type_5 rfl cs_X7_53 (Nat.le_of_ble_eq_true rfl) rfl (ok_isOutside) ?_
  refine v_if_eq (pc' := 11) (tgt := 14) dX7_type_8 rfl (by decide) (fun hb => ?_) (fun hb => ?_)
  · refine v_aload_n (pc' := 15) dX7_type_14 rfl rfl ?_
    refine v_getQ (pc' := 18) dX7_type_15 rfl gf_X7_31 kp_D rfl (rf_D_text hR) ?_
    refine v_iload_n (pc' := 19) dX7_type_18 rfl rfl ?_
    refine v_cV1i (pc' := 22) dX7_type_19 rfl cv_X7_241 kp_X (Nat.le_of_ble_eq_true rfl) rfl (ok_append hR hn hn2) ?_
    refine v_if_eq (pc' := 25) (tgt := 35) dX7_type_22 rfl (by decide) (fun hq => ?_) (fun hq => ?_)
    · exact absurd hq (by decide)
    · refine v_aload_n (pc' := 26) dX7_type_25 rfl rfl ?_
      refine v_getQ (pc' := 29) dX7_type_26 rfl gf_X7_31 kp_D rfl (rf_D_text hR) ?_
      refine v_gI (o := 0) (pc' := 32) dX7_type_29 rfl gf_X7_244 kp_X rfl rfl ?_
      rw [stI_self]
      refine v_goto (tgt := 37) dX7_type_32 (by decide) ?_
      exact v_iret dX7_type_37 rfl (Nat.le_refl _) (Nat.le_refl _) ⟨rfl, rfl, rfl, rfl, rfl⟩
  · exact absurd (ite01.mpr (inr (Nat.zero_le _) hv (by decide))) hb
theorem d_clearText (hR : RS R) : Ok l yX7_clearText cX7_clearText 2 (some .int) 0 0 0 [.ref 0] I L R 287 (eqP (some (.int (I 5 0))) (stI I 5 0 (nI 0)) L R 287) := by
  refine Ok.ofV [some (.ref 0), none] rfl (by decide) (Nat.le_of_ble_eq_true rfl) ?_
  refine v_aload_n (pc' := 1) dX7_clearText_0 rfl rfl ?_
  refine v_getQ (pc' := 4) dX7_clearText_1 rfl gf_X7_31 kp_D rfl (rf_D_text hR) ?_
  refine v_gI (o := 0) (pc' := 7) dX7_clearText_4 rfl gf_X7_244 kp_X rfl rfl ?_
  refine v_istore_n1 (pc' := 8) dX7_clearText_7 rfl (by decide) rfl ?_
  refine v_aload_n (pc' := 9) dX7_clearText_8 rfl rfl ?_
  refine v_getQ (pc' := 12) dX7_clearText_9 rfl gf_X7_31 kp_D rfl (rf_D_text hR) ?_
  refine v_iconst (v := nI 0) (pc' := 13) dX7_clearText_12 rfl (by decide) ?_
  refine v_pI (o := 0) (pc' := 16) dX7_clearText_13 rfl gf_X7_244 pf_X7_244 kp_X rfl rfl (Or.inl rfl) rfl rfl ?_
  refine v_iload_n (pc' := 17) dX7_clearText_16 rfl rfl ?_
  exact v_iret dX7_clearText_17 rfl (Nat.le_refl _) (Nat.le_refl _) ⟨rfl, rfl, rfl, rfl, rfl⟩
theorem d_textFault {n : Nat} {ta : Int32} (hR : RS R) (ht : TX I n) (hTI : pM I (pRun (cdN (I 6)) n 0 pS0).1 = TI) (hta : aPar (pRun (cdN (I 6)) n 0 pS0) n = ta) : Ok l yX7_textFault cX7_textFault 1 (some .int) 4 0 0 [.ref 0] I L R 287 (eqP (some (.int ta)) TI L R 287) := by
  refine Ok.ofV [some (.ref 0)] rfl (by decide) (Nat.le_of_ble_eq_true rfl) ?_
  refine v_aload_n (pc' := 1) dX7_textFault_0 rfl rfl ?_
  refine v_getQ (pc' := 4) dX7_textFault_1 rfl gf_X7_31 kp_D rfl (rf_D_text hR) ?_
  refine v_cV0i (pc' := 7) dX7_textFault_4 rfl cv_X7_245 kp_X (Nat.le_of_ble_eq_true rfl) rfl (ok_parse hR ht hTI hta) ?_
  exact v_iret dX7_textFault_7 rfl (Nat.le_refl _) (Nat.le_refl _) ⟨rfl, rfl, rfl, rfl, rfl⟩
theorem d_run_no {n : Nat} (hR : RS R) (ht : TX I n) (hTI : pM I (pRun (cdN (I 6)) n 0 pS0).1 = TI) (hta : aPar (pRun (cdN (I 6)) n 0 pS0) n ≠ -1) : Ok l yX7_run cX7_run 3 (some .int) 6 0 0 [.ref 0] I L R 287 (eqP (some (.int (-4))) TI L R 287) := by
  refine Ok.ofV [some (.ref 0), none, none] rfl (by decide) (Nat.le_of_ble_eq_true rfl) ?_
  refine v_aload_n (pc' := 1) dX7_run_0 rfl rfl ?_
  refine v_getQ (pc' := 4) dX7_run_1 rfl gf_X7_31 kp_D rfl (rf_D_text hR) ?_
  refine v_cV0i (pc' := 7) dX7_run_4 rfl cv_X7_245 kp_X (Nat.le_of_ble_eq_true rfl) rfl (ok_parse hR ht hTI rfl) ?_
  refine v_iconst (v := -1) (pc' := 8) dX7_run_7 rfl (by decide) ?_
  refine v_icmp_eq (pc' := 11) (tgt := 14) dX7_run_8 rfl (by decide) (fun hb => ?_) (fun hb => ?_)
  · exact absurd hb hta
  · refine v_bipush (v := -4) (pc' := 13) dX7_run_11 rfl (by decide) ?_
    exact v_iret dX7_run_13 rfl (Nat.le_refl _) (Nat.le_refl _) ⟨rfl, rfl, rfl, rfl, rfl⟩
theorem srv_o {c x lim u : Nat} (h0 : u ≠ 0) (h9 : u ≠ 9) (h10 : u ≠ 10) : srv c x lim L I u = I u := by
  unfold srv wkF
  rw [va_up_ne _ _ h0, va_up_ne _ _ h10, va_up_ne _ _ h9]
theorem srv_0 {c x lim : Nat} : srv c x lim L I 0 = rReq c x lim (I 0) (L 0) := va_up_self _ _ _
theorem d_run {n : Nat} {rq : List (Nat × Nat)} {TJ : MI} {tn : Nat} (hR : RS R) (hH : HS R sg) (hk : I 15 0 = nI k) (hk4 : k ≤ 4) (hI : Inv (I 0)) (ht : TX I n) (hta : aPar (pRun (cdN (I 6)) n 0 pS0) n = -1) (hTI : pM I (pRun (cdN (I 6)) n 0 pS0).1 = TI) (hrq : (pRun (cdN (I 6)) n 0 pS0).1.2.2.2 = rq) (hr5 : ∀ q ∈ rq, q.1 < 5 ∧ q.2 < 1000) (hrl : rq.length ≤ 100) (hTJ : rnI (KL L sg k) rq (KI TI sg k, 0) = (TJ, tn)) : Ok l yX7_run cX7_run 3 (some .int) 6 0 0 [.ref 0] I L R 287 (eqP (some (.int (nI tn))) TJ (KL L sg k) (KR R sg k) 287) := by
  have h05 : (0 : Nat) < 5 := by decide
  have t0 : TI 0 = I 0 := by
    rw [← hTI]
    unfold pM
    rw [va_up_ne _ _ (by decide), va_up_ne _ _ (by decide), va_up_ne _ _ (by decide)]
  have t15 : TI 15 = I 15 := by
    rw [← hTI]
    unfold pM
    rw [va_up_ne _ _ (by decide), va_up_ne _ _ (by decide), va_up_ne _ _ (by decide)]
  have t5 : TI 5 1 = nI rq.length := by
    rw [← hTI, ← hrq]
    unfold pM
    rw [va_up_ne _ _ (by decide), va_up_ne _ _ (by decide), va_up_self]
    rfl
  have t7 : ∀ j, j < rq.length → TI 7 j = nI (rq.getD j (0, 0)).1 := by
    intro j hj
    rw [← hTI]
    unfold pM
    rw [va_up_ne _ _ (by decide), va_up_self, hrq]
    unfold wsA
    rw [if_pos (by rw [List.length_map]; exact hj)]
    simp [List.getD_eq_getElem?_getD, hj]
  have t8 : ∀ j, j < rq.length → TI 8 j = nI (rq.getD j (0, 0)).2 := by
    intro j hj
    rw [← hTI]
    unfold pM
    rw [va_up_self, hrq]
    unfold wsA
    rw [if_pos (by rw [List.length_map]; exact hj)]
    simp [List.getD_eq_getElem?_getD, hj]
  have e0 : KI TI sg k 0 = TI 0 := KI_0 hH
  have eb : ∀ u, 5 ≤ u → u ≠ 15 → KI TI sg k u = TI u := fun u h1 h2 => KI_b hH h1 h2
  have l0 : KL L sg k 0 = L 0 := KL_0 hH
  have hparse := ok_parse (l := l) (L := L) hR ht hTI hta
  clear hTI
  refine Ok.ofV [some (.ref 0), none, none] rfl (by decide) (Nat.le_of_ble_eq_true rfl) ?_
  refine v_aload_n (pc' := 1) dX7_run_0 rfl rfl ?_
  refine v_getQ (pc' := 4) dX7_run_1 rfl gf_X7_31 kp_D rfl (rf_D_text hR) ?_
  refine v_cV0i (pc' := 7) dX7_run_4 rfl cv_X7_245 kp_X (Nat.le_of_ble_eq_true rfl) rfl (hparse) ?_
  refine v_iconst (v := -1) (pc' := 8) dX7_run_7 rfl (by decide) ?_
  refine v_icmp_eq (pc' := 11) (tgt := 14) dX7_run_8 rfl (by decide) (fun hb => ?_) (fun hb => ?_)
  · refine v_aload_n (pc' := 15) dX7_run_14 rfl rfl ?_
    refine v_getQ (pc' := 18) dX7_run_15 rfl gf_X7_24 kp_D rfl (rf_D_history hR) ?_
    refine v_aload_n (pc' := 19) dX7_run_18 rfl rfl ?_
    refine v_getQ (pc' := 22) dX7_run_19 rfl gf_X7_15 kp_D rfl (rf_D_state hR) ?_
    refine v_cV1v (pc' := 25) dX7_run_22 rfl cv_X7_57 kp_H (Nat.le_of_ble_eq_true rfl) rfl (ok_kp hR hH (by rw [t15]; exact hk) hk4 (by rw [t0]; exact hI)) ?_
    have hR := KRS (sg := sg) (k := k) hR
    refine v_iconst (v := nI 0) (pc' := 26) dX7_run_25 rfl (by decide) ?_
    refine v_istore_n1 (pc' := 27) dX7_run_26 rfl (by decide) rfl ?_
    refine v_iconst (v := nI 0) (pc' := 28) dX7_run_27 rfl (by decide) ?_
    refine v_istore_n2 (pc' := 29) dX7_run_28 rfl (by decide) rfl ?_
    have hJ : ∀ u, 5 ≤ u → u < 9 → KI TI sg k u = TI u := fun u h1 h2 => eb u h1 (by omega)
    have hJ0 : Inv (KI TI sg k 0) := by
      rw [e0, t0]
      exact hI
    generalize KI TI sg k = J0 at hTJ hJ hJ0
    clear e0 eb
    have loop : ∀ (d j sv : Nat) (J : MI), j + d = rq.length → Inv (J 0) → (∀ u, 5 ≤ u → u < 9 → J u = TI u) → rnI (KL L sg k) (rq.drop j) (J, sv) = (TJ, tn) → V l yX7_run cX7_run 3 (some .int) (rmd 6 0 0) (QM 0 0 (eqP (some (.int (nI tn))) TJ (KL L sg k) (KR R sg k) 287)) (fun _ _ => True) 29 [some (.ref 0), some (.int (nI sv)), some (.int (nI j))] [] J (KL L sg k) (KR R sg k) 287 0 0 := by
      intro d
      induction d with
      | zero =>
        intro j sv J hj hJI hJu he
        have e5 : J 5 1 = nI rq.length := by rw [hJu 5 (by omega) (by omega)]; exact t5
        rw [List.drop_eq_nil_of_le (by omega)] at he
        unfold rnI at he
        cases he
        refine v_iload_n (pc' := 30) dX7_run_29 rfl rfl ?_
        refine v_aload_n (pc' := 31) dX7_run_30 rfl rfl ?_
        refine v_getQ (pc' := 34) dX7_run_31 rfl gf_X7_31 kp_D rfl (rf_D_text hR) ?_
        refine v_gI (o := 1) (pc' := 37) dX7_run_34 rfl gf_X7_248 kp_X rfl rfl ?_
        refine v_icmp_ge (pc' := 40) (tgt := 82) dX7_run_37 rfl (by decide) (fun hb => ?_) (fun hb => ?_)
        · refine v_iload_n (pc' := 83) dX7_run_82 rfl rfl ?_
          exact v_iret dX7_run_83 rfl (Nat.le_refl _) (Nat.le_refl _) ⟨rfl, rfl, rfl, rfl, rfl⟩
        · exact absurd (by rw [e5]; exact nI_le (by omega) (by omega)) hb
      | succ d ih =>
        intro j sv J hj hJI hJu he
        have e5 : J 5 1 = nI rq.length := by rw [hJu 5 (by omega) (by omega)]; exact t5
        have e7 : J 7 j = nI (rq.getD j (0, 0)).1 := by rw [hJu 7 (by omega) (by omega)]; exact t7 j (by omega)
        have e8 : J 8 j = nI (rq.getD j (0, 0)).2 := by rw [hJu 8 (by omega) (by omega)]; exact t8 j (by omega)
        have eg : rq.getD j (0, 0) = rq[j]'(by omega) := by simp [List.getD_eq_getElem?_getD, show j < rq.length by omega]
        obtain ⟨q4, q5⟩ := hr5 _ (List.getElem_mem (show j < rq.length by omega))
        rw [List.drop_eq_getElem_cons (show j < rq.length by omega)] at he
        rw [eg] at e7 e8
        generalize rq[j]'(by omega) = cx at e7 e8 q4 q5 he
        obtain ⟨c, x⟩ := cx
        unfold rnI at he
        simp only at e7 e8 q4 q5 he
        obtain ⟨i1, i2, i3, i4, q, iq1, iq2⟩ := id hJI
        have egq : gQ (J 0) = q := by
          unfold gQ
          exact nn_at iq2 (by omega)
        rw [egq] at he
        refine v_iload_n (pc' := 30) dX7_run_29 rfl rfl ?_
        refine v_aload_n (pc' := 31) dX7_run_30 rfl rfl ?_
        refine v_getQ (pc' := 34) dX7_run_31 rfl gf_X7_31 kp_D rfl (rf_D_text hR) ?_
        refine v_gI (o := 1) (pc' := 37) dX7_run_34 rfl gf_X7_248 kp_X rfl rfl ?_
        refine v_icmp_ge (pc' := 40) (tgt := 82) dX7_run_37 rfl (by decide) (fun hb => ?_) (fun hb => ?_)
        · rw [e5] at hb
          exact absurd hb (nI_ge (by omega) (by omega))
        · refine v_aload_n (pc' := 41) dX7_run_40 rfl rfl ?_
          refine v_aload_n (pc' := 42) dX7_run_41 rfl rfl ?_
          refine v_getQ (pc' := 45) dX7_run_42 rfl gf_X7_31 kp_D rfl (rf_D_text hR) ?_
          refine v_getQ (pc' := 48) dX7_run_45 rfl gf_X7_251 kp_X rfl (rf_X_askedCaches hR) ?_
          refine v_iload_n (pc' := 49) dX7_run_48 rfl rfl ?_
          refine v_ial (pc' := 50) dX7_run_49 rfl kp_askedCaches (Nat.zero_add _) rfl (by omega) ?_
          refine v_aload_n (pc' := 51) dX7_run_50 rfl rfl ?_
          refine v_getQ (pc' := 54) dX7_run_51 rfl gf_X7_31 kp_D rfl (rf_D_text hR) ?_
          refine v_getQ (pc' := 57) dX7_run_54 rfl gf_X7_254 kp_X rfl (rf_X_askedObjects hR) ?_
          refine v_iload_n (pc' := 58) dX7_run_57 rfl rfl ?_
          refine v_ial (pc' := 59) dX7_run_58 rfl kp_askedObjects (Nat.zero_add _) rfl (by omega) ?_
          refine v_aload_n (pc' := 60) dX7_run_59 rfl rfl ?_
          refine v_getQ (pc' := 63) dX7_run_60 rfl gf_X7_15 kp_D rfl (rf_D_state hR) ?_
          refine v_gI (o := 5) (pc' := 66) dX7_run_63 rfl gf_X7_106 (kp_T h05) rfl rfl ?_
          rw [e7, e8, iq2]
          refine v_cV3i (pc' := 69) dX7_run_66 rfl cv_X7_215 kp_D (Nat.le_of_ble_eq_true rfl) rfl (d_serve (lim := q) hR hJI q4 q5 iq1 rfl rfl) ?_
          refine v_iconst (v := nI 5) (pc' := 70) dX7_run_69 rfl (by decide) ?_
          refine v_icmp_eq (pc' := 73) (tgt := 76) dX7_run_70 rfl (by decide) (fun hz => ?_) (fun hz => ?_)
          · have hz' : (skW (J 0) (KL L sg k 0) c x q).2.1 = 5 := (nI_eq (by have := (skW_fact (r := J 0) (m := KL L sg k 0) (x := x) (lim := q) q4).1; omega) (by omega)).mp hz
            rw [if_pos hz'] at he
            refine v_iinc2 (pc' := 79) dX7_run_76 rfl (by decide) rfl (inc_nI _) ?_
            refine v_goto (tgt := 29) dX7_run_79 (by decide) ?_
            exact ih (j + 1) sv _ (by omega) (by rw [srv_0]; exact rReq_Inv hJI q4 q5) (fun u h1 h2 => by rw [srv_o (by omega) (by omega) (by omega)]; exact hJu u h1 h2) he
          · have hz' : ¬ (skW (J 0) (KL L sg k 0) c x q).2.1 = 5 := fun z => hz (by rw [z])
            rw [if_neg hz'] at he
            refine v_iinc1 (pc' := 76) dX7_run_73 rfl (by decide) rfl (inc_nI _) ?_
            refine v_iinc2 (pc' := 79) dX7_run_76 rfl (by decide) rfl (inc_nI _) ?_
            refine v_goto (tgt := 29) dX7_run_79 (by decide) ?_
            exact ih (j + 1) (sv + 1) _ (by omega) (by rw [srv_0]; exact rReq_Inv hJI q4 q5) (fun u h1 h2 => by rw [srv_o (by omega) (by omega) (by omega)]; exact hJu u h1 h2) he
    exact loop rq.length 0 0 J0 (by omega) hJ0 hJ (by rw [List.drop_zero]; exact hTJ)
  · exact absurd rfl hb
end B27
