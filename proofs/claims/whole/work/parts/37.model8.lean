/-! ===== DigestCachesModel: sized, copies, requests, digest ===== -/
/-- the smallest filter: the answer alone -/
def szA (r : Row) (c : Nat) (lim : Int32) (M : Nat) : Nat → Option Int32
  | 0 => none
  | n + 1 => if rCh (pcn (fBw r c M (4 - n) (gS r c)) 64) M (4 - n) ≤ lim then some (nI 10 * nI M + nI (4 - n)) else szA r c lim M n
def szB (r : Row) (c : Nat) (lim : Int32) : Nat → Int32
  | 0 => -1
  | n + 1 => match szA r c lim (64 - n) 4 with
    | some a => a
    | none => szB r c lim n
theorem szF_A {r : Row} {c : Nat} {lim : Int32} {M : Nat} : ∀ (n : Nat) (w : Row), (szF r c lim M n w).2 = szA r c lim M n
  | 0, _ => rfl
  | n + 1, w => by
    unfold szF szA
    split
    · rfl
    · exact szF_A n _
theorem szM_B {r : Row} {c : Nat} {lim : Int32} : ∀ (n : Nat) (w : Row), (szM r c lim n w).2 = szB r c lim n
  | 0, _ => rfl
  | n + 1, w => by
    unfold szM szB
    have h := szF_A (r := r) (c := c) (lim := lim) (M := 64 - n) 4 w
    generalize szF r c lim (64 - n) 4 w = q at h
    obtain ⟨w', o⟩ := q
    simp only at h
    rw [← h]
    cases o with
    | none => exact szM_B n w'
    | some a => rfl
section B37
variable {l : Launch} {I : MI} {L : ML} {R : MR} {r X : Row} {m Y : Msk} {k : Nat} {TR : Row}
theorem e_sized_no1 {a b : Int32} (h : noC a) : Ok l yX8_sized cX8_sized 9 (some .int) 2 0 0 [.ref 278, .int a, .int b] I L R 287 (eqP (some (.int (-2))) I L R 287) := by
  refine Ok.ofV [some (.ref 278), some (.int a), some (.int b), none, none, none, none, none, none] rfl (by decide) (Nat.le_of_ble_eq_true rfl) ?_
  refine v_iload_n (pc' := 1) dX8_sized_0 rfl rfl ?_
  refine v_cS1i (pc' := 4) dX8_sized_1 rfl cs_X8_88 (Nat.le_of_ble_eq_true rfl) rfl (m_isCache) ?_
  refine v_if_ne (pc' := 7) (tgt := 10) dX8_sized_4 rfl (by decide) (fun hb => ?_) (fun hb => ?_)
  · exact absurd (ite10.mpr h) hb
  · refine v_bipush (v := -2) (pc' := 9) dX8_sized_7 rfl (by decide) ?_
    exact v_iret dX8_sized_9 rfl (Nat.le_refl _) (Nat.le_refl _) ⟨rfl, rfl, rfl, rfl, rfl⟩
theorem e_sized_no2 {c : Nat} {b : Int32} (hc : c < 5) (h : b < nI 0 ∨ nI 1000 < b) : Ok l yX8_sized cX8_sized 9 (some .int) 2 0 0 [.ref 278, .int (nI c), .int b] I L R 287 (eqP (some (.int (-3))) I L R 287) := by
  refine Ok.ofV [some (.ref 278), some (.int (nI c)), some (.int b), none, none, none, none, none, none] rfl (by decide) (Nat.le_of_ble_eq_true rfl) ?_
  refine v_iload_n (pc' := 1) dX8_sized_0 rfl rfl ?_
  refine v_cS1i (pc' := 4) dX8_sized_1 rfl cs_X8_88 (Nat.le_of_ble_eq_true rfl) rfl (m_isCache) ?_
  refine v_if_ne (pc' := 7) (tgt := 10) dX8_sized_4 rfl (by decide) (fun hb => ?_) (fun hb => ?_)
  · refine v_iload_n (pc' := 11) dX8_sized_10 rfl rfl ?_
    refine v_iconst (v := nI 0) (pc' := 12) dX8_sized_11 rfl (by decide) ?_
    refine v_sipush (v := nI 1000) (pc' := 15) dX8_sized_12 rfl (by decide) ?_
    refine v_cS3i (pc' := 18) dX8_sized_15 rfl cs_X8_47 (Nat.le_of_ble_eq_true rfl) rfl (m_in) ?_
    refine v_if_ne (pc' := 21) (tgt := 24) dX8_sized_18 rfl (by decide) (fun hq => ?_) (fun hq => ?_)
    · exact absurd (ite10.mpr h) hq
    · refine v_bipush (v := -3) (pc' := 23) dX8_sized_21 rfl (by decide) ?_
      exact v_iret dX8_sized_23 rfl (Nat.le_refl _) (Nat.le_refl _) ⟨rfl, rfl, rfl, rfl, rfl⟩
  · exact absurd (ite10.mp hb) (ncC hc)
theorem fBo_or {M x : Nat} (b : Int64) : ∀ K, b ||| fBo M x (K + 1) = (b ||| fBo M x K) ||| lshf 1 (nI (vf M x K)) := by
  intro K
  show b ||| (fBo M x K ||| lshf 1 (nI (vf M x K))) = _
  rw [Int64.or_assoc]
theorem e_sized {c lm : Nat} {ta : Int32} (hR : RS R) (hF : MF I) (hI : Inv r) (hc : c < 5) (hm : lm ≤ 1000) (hta : szB r c (nI lm) 57 = ta) : Ok l yX8_sized cX8_sized 9 (some .int) 2 0 0 [.ref 278, .int (nI c), .int (nI lm)] (mm I r X) L R 287 (eqP (some (.int ta)) (mm I r X) L R 287) := by
  obtain ⟨i1, i2, i3, i4⟩ := (hI.2.1 c hc).1
  generalize hY : szB r c (nI lm) 57 = Yv at hta
  refine Ok.ofV [some (.ref 278), some (.int (nI c)), some (.int (nI lm)), none, none, none, none, none, none] rfl (by decide) (Nat.le_of_ble_eq_true rfl) ?_
  refine v_iload_n (pc' := 1) dX8_sized_0 rfl rfl ?_
  refine v_cS1i (pc' := 4) dX8_sized_1 rfl cs_X8_88 (Nat.le_of_ble_eq_true rfl) rfl (m_isCache) ?_
  refine v_if_ne (pc' := 7) (tgt := 10) dX8_sized_4 rfl (by decide) (fun hb => ?_) (fun hb => ?_)
  · refine v_iload_n (pc' := 11) dX8_sized_10 rfl rfl ?_
    refine v_iconst (v := nI 0) (pc' := 12) dX8_sized_11 rfl (by decide) ?_
    refine v_sipush (v := nI 1000) (pc' := 15) dX8_sized_12 rfl (by decide) ?_
    refine v_cS3i (pc' := 18) dX8_sized_15 rfl cs_X8_47 (Nat.le_of_ble_eq_true rfl) rfl (m_in) ?_
    refine v_if_ne (pc' := 21) (tgt := 24) dX8_sized_18 rfl (by decide) (fun hq => ?_) (fun hq => ?_)
    · refine v_bipush (v := nI 8) (pc' := 26) dX8_sized_24 rfl (by decide) ?_
      refine v_istore_n3 (pc' := 27) dX8_sized_26 rfl (by decide) rfl ?_
      have loop : ∀ (n M : Nat) (v4 v5 v6 v7 v8 : Option Value), M + n = 65 → 8 ≤ M → Yv = szB r c (nI lm) n → (v6 = none ∨ True) → V l yX8_sized cX8_sized 9 (some .int) (rmd 2 0 0) (QM 0 0 (eqP (some (.int ta)) (mm I r X) L R 287)) (fun _ _ => True) 27 [some (.ref 278), some (.int (nI c)), some (.int (nI lm)), some (.int (nI M)), v4, v5, none, v7, v8] [] (mm I r X) L R 287 0 0 := by
        intro n
        induction n with
        | zero =>
          intro M v4 v5 v6 v7 v8 hn hM8 he _
          refine v_iload_n (pc' := 28) dX8_sized_27 rfl rfl ?_
          refine v_bipush (v := nI 64) (pc' := 30) dX8_sized_28 rfl (by decide) ?_
          refine v_icmp_gt (pc' := 33) (tgt := 139) dX8_sized_30 rfl (by decide) (fun hb => ?_) (fun hb => ?_)
          · refine v_iconst (v := -1) (pc' := 140) dX8_sized_139 rfl (by decide) ?_
            exact v_iret dX8_sized_140 rfl (Nat.le_refl _) (Nat.le_refl _) ⟨by rw [← hta, he]; rfl, rfl, rfl, rfl, rfl⟩
          · exact absurd (nI_lt (by omega) (by omega)) hb
        | succ n ih =>
          intro M v4 v5 v6 v7 v8 hn hM8 he _
          refine v_iload_n (pc' := 28) dX8_sized_27 rfl rfl ?_
          refine v_bipush (v := nI 64) (pc' := 30) dX8_sized_28 rfl (by decide) ?_
          refine v_icmp_gt (pc' := 33) (tgt := 139) dX8_sized_30 rfl (by decide) (fun hb => ?_) (fun hb => ?_)
          · exact absurd hb (nI_nlt (by omega) (by omega))
          · refine v_iconst (v := nI 1) (pc' := 34) dX8_sized_33 rfl (by decide) ?_
            refine v_istore4 (pc' := 36) dX8_sized_34 rfl (by decide) rfl ?_
            have hMn : M = 64 - n := by omega
            unfold szB at he
            rw [← hMn] at he
            generalize hZ : szA r c (nI lm) M 4 = Z at he
            have inner : ∀ (j K : Nat) (v5 v7 v8 : Option Value), K + j = 5 → 1 ≤ K → Z = szA r c (nI lm) M j → V l yX8_sized cX8_sized 9 (some .int) (rmd 2 0 0) (QM 0 0 (eqP (some (.int ta)) (mm I r X) L R 287)) (fun _ _ => True) 36 [some (.ref 278), some (.int (nI c)), some (.int (nI lm)), some (.int (nI M)), some (.int (nI K)), v5, none, v7, v8] [] (mm I r X) L R 287 0 0 := by
              intro j
              induction j with
              | zero =>
                intro K v5 v7 v8 hK hK1 he2
                rw [he2] at he
                refine v_iload (pc' := 38) dX8_sized_36 rfl rfl ?_
                refine v_iconst (v := nI 4) (pc' := 39) dX8_sized_38 rfl (by decide) ?_
                refine v_icmp_gt (pc' := 42) (tgt := 133) dX8_sized_39 rfl (by decide) (fun hb => ?_) (fun hb => ?_)
                · refine v_iinc3 (pc' := 136) dX8_sized_133 rfl (by decide) rfl (inc_nI _) ?_
                  refine v_goto (tgt := 27) dX8_sized_136 (by decide) ?_
                  exact ih (M + 1) _ _ none _ _ (by omega) (by omega) he (Or.inr trivial)
                · exact absurd (nI_lt (by omega) (by omega)) hb
              | succ j jh =>
                intro K v5 v7 v8 hK hK1 he2
                have hKj : K = 4 - j := by omega
                unfold szA at he2
                rw [← hKj] at he2
                refine v_iload (pc' := 38) dX8_sized_36 rfl rfl ?_
                refine v_iconst (v := nI 4) (pc' := 39) dX8_sized_38 rfl (by decide) ?_
                refine v_icmp_gt (pc' := 42) (tgt := 133) dX8_sized_39 rfl (by decide) (fun hb => ?_) (fun hb => ?_)
                · exact absurd hb (nI_nlt (by omega) (by omega))
                · refine v_lconst (v := 0) (pc' := 43) dX8_sized_42 rfl (by decide) ?_
                  refine v_lstore5 (pc' := 45) dX8_sized_43 rfl (by decide) rfl ?_
                  refine v_iconst (v := nI 0) (pc' := 46) dX8_sized_45 rfl (by decide) ?_
                  refine v_istore7 (pc' := 48) dX8_sized_46 rfl (by decide) rfl ?_
                  have obj : ∀ (n2 i : Nat) (v8 : Option Value), i + n2 = gS r c → V l yX8_sized cX8_sized 9 (some .int) (rmd 2 0 0) (QM 0 0 (eqP (some (.int ta)) (mm I r X) L R 287)) (fun _ _ => True) 48 [some (.ref 278), some (.int (nI c)), some (.int (nI lm)), some (.int (nI M)), some (.int (nI K)), some (.long (fBw r c M K i)), none, some (.int (nI i)), v8] [] (mm I r X) L R 287 0 0 := by
                    intro n2
                    induction n2 with
                    | zero =>
                      intro i v8 hin
                      have hi : i = gS r c := by omega
                      subst hi
                      refine v_iload (pc' := 50) dX8_sized_48 rfl rfl ?_
                      refine v_aload_n (pc' := 51) dX8_sized_50 rfl rfl ?_
                      refine v_iload_n (pc' := 52) dX8_sized_51 rfl rfl ?_
                      refine v_iconst (v := nI 1) (pc' := 53) dX8_sized_52 rfl (by decide) ?_
                      refine v_cV2i (pc' := 56) dX8_sized_53 rfl cv_X8_55 kp_M (Nat.le_of_ble_eq_true rfl) rfl (m_of (w := 1) (j := 7 + 110 * c) hR rfl (by omega)) ?_
                      refine v_icmp_ge (pc' := 59) (tgt := 104) dX8_sized_56 rfl (by decide) (fun hb => ?_) (fun hb => ?_)
                      · refine v_lload (pc' := 106) dX8_sized_104 rfl rfl ?_
                        refine v_cS1i (pc' := 109) dX8_sized_106 rfl cs_X8_112 (Nat.le_of_ble_eq_true rfl) rfl (m_bits) ?_
                        refine v_iload_n (pc' := 110) dX8_sized_109 rfl rfl ?_
                        refine v_iload (pc' := 112) dX8_sized_110 rfl rfl ?_
                        refine v_cS3i (pc' := 115) dX8_sized_112 rfl cs_X8_116 (Nat.le_of_ble_eq_true rfl) rfl (m_chanceOf (by omega) (by omega) (by omega)) ?_
                        refine v_iload_n (pc' := 116) dX8_sized_115 rfl rfl ?_
                        refine v_icmp_gt (pc' := 119) (tgt := 127) dX8_sized_116 rfl (by decide) (fun hz => ?_) (fun hz => ?_)
                        · rw [if_neg (Int32.not_le.mpr hz)] at he2
                          refine v_iinc4 (pc' := 130) dX8_sized_127 rfl (by decide) rfl (inc_nI _) ?_
                          refine v_goto (tgt := 36) dX8_sized_130 (by decide) ?_
                          exact jh (K + 1) _ _ _ (by omega) (by omega) he2
                        · rw [if_pos (Int32.not_lt.mp hz)] at he2
                          rw [he2] at he
                          refine v_bipush (v := nI 10) (pc' := 121) dX8_sized_119 rfl (by decide) ?_
                          refine v_iload_n (pc' := 122) dX8_sized_121 rfl rfl ?_
                          refine v_imul (pc' := 123) dX8_sized_122 rfl ?_
                          refine v_iload (pc' := 125) dX8_sized_123 rfl rfl ?_
                          refine v_iadd (pc' := 126) dX8_sized_125 rfl ?_
                          exact v_iret dX8_sized_126 rfl (Nat.le_refl _) (Nat.le_refl _) ⟨by rw [← hta, he], rfl, rfl, rfl, rfl⟩
                      · exact absurd (by rw [i1]; exact nI_le (by omega) (by omega)) hb
                    | succ n2 oh =>
                      intro i v8 hin
                      obtain ⟨o1, o2⟩ := i3 i (by omega)
                      refine v_iload (pc' := 50) dX8_sized_48 rfl rfl ?_
                      refine v_aload_n (pc' := 51) dX8_sized_50 rfl rfl ?_
                      refine v_iload_n (pc' := 52) dX8_sized_51 rfl rfl ?_
                      refine v_iconst (v := nI 1) (pc' := 53) dX8_sized_52 rfl (by decide) ?_
                      refine v_cV2i (pc' := 56) dX8_sized_53 rfl cv_X8_55 kp_M (Nat.le_of_ble_eq_true rfl) rfl (m_of (w := 1) (j := 7 + 110 * c) hR rfl (by omega)) ?_
                      refine v_icmp_ge (pc' := 59) (tgt := 104) dX8_sized_56 rfl (by decide) (fun hb => ?_) (fun hb => ?_)
                      · exact absurd (by rw [i1] at hb; exact hb) (nI_ge (by omega) (by omega))
                      · refine v_iconst (v := nI 0) (pc' := 60) dX8_sized_59 rfl (by decide) ?_
                        refine v_istore8 (pc' := 62) dX8_sized_60 rfl (by decide) rfl ?_
                        have fun_ : ∀ (n3 f : Nat), f + n3 = K → V l yX8_sized cX8_sized 9 (some .int) (rmd 2 0 0) (QM 0 0 (eqP (some (.int ta)) (mm I r X) L R 287)) (fun _ _ => True) 62 [some (.ref 278), some (.int (nI c)), some (.int (nI lm)), some (.int (nI M)), some (.int (nI K)), some (.long (fBw r c M K i ||| fBo M (gO r c i) f)), none, some (.int (nI i)), some (.int (nI f))] [] (mm I r X) L R 287 0 0 := by
                          intro n3
                          induction n3 with
                          | zero =>
                            intro f hf
                            have hfK : f = K := by omega
                            subst hfK
                            refine v_iload (pc' := 64) dX8_sized_62 rfl rfl ?_
                            refine v_iload (pc' := 66) dX8_sized_64 rfl rfl ?_
                            refine v_icmp_ge (pc' := 69) (tgt := 98) dX8_sized_66 rfl (by decide) (fun hb => ?_) (fun hb => ?_)
                            · refine v_iinc7 (pc' := 101) dX8_sized_98 rfl (by decide) rfl (inc_nI _) ?_
                              refine v_goto (tgt := 48) dX8_sized_101 (by decide) ?_
                              exact oh (i + 1) _ (by omega)
                            · exact absurd (nI_le (by omega) (by omega)) hb
                          | succ n3 fh =>
                            intro f hf
                            refine v_iload (pc' := 64) dX8_sized_62 rfl rfl ?_
                            refine v_iload (pc' := 66) dX8_sized_64 rfl rfl ?_
                            refine v_icmp_ge (pc' := 69) (tgt := 98) dX8_sized_66 rfl (by decide) (fun hb => ?_) (fun hb => ?_)
                            · exact absurd hb (nI_ge (by omega) (by omega))
                            · refine v_lload (pc' := 71) dX8_sized_69 rfl rfl ?_
                              refine v_lconst (v := 1) (pc' := 72) dX8_sized_71 rfl (by decide) ?_
                              refine v_aload_n (pc' := 73) dX8_sized_72 rfl rfl ?_
                              refine v_aload_n (pc' := 74) dX8_sized_73 rfl rfl ?_
                              refine v_iload_n (pc' := 75) dX8_sized_74 rfl rfl ?_
                              refine v_iconst (v := nI 2) (pc' := 76) dX8_sized_75 rfl (by decide) ?_
                              refine v_iload (pc' := 78) dX8_sized_76 rfl rfl ?_
                              refine v_iadd (pc' := 79) dX8_sized_78 rfl ?_
                              refine v_cV2i (pc' := 82) dX8_sized_79 rfl cv_X8_55 kp_M (Nat.le_of_ble_eq_true rfl) rfl (m_of (w := 2 + i) (j := 8 + 110 * c + i) hR (nI_add _ _) (by omega)) ?_
                              rw [o1]
                              refine v_iload (pc' := 84) dX8_sized_82 rfl rfl ?_
                              refine v_iload_n (pc' := 85) dX8_sized_84 rfl rfl ?_
                              refine v_cV3i (pc' := 88) dX8_sized_85 rfl cv_X8_51 kp_M (Nat.le_of_ble_eq_true rfl) rfl (m_valueOf hR (MF_mm hF) (by omega) (by omega) o2 (by omega)) ?_
                              refine v_lshl (pc' := 89) dX8_sized_88 rfl ?_
                              refine v_lor (pc' := 90) dX8_sized_89 rfl ?_
                              refine v_lstore5 (pc' := 92) dX8_sized_90 rfl (by decide) rfl ?_
                              refine v_iinc8 (pc' := 95) dX8_sized_92 rfl (by decide) rfl (inc_nI _) ?_
                              refine v_goto (tgt := 62) dX8_sized_95 (by decide) ?_
                              have := fh (f + 1) (by omega)
                              rw [fBo_or] at this
                              exact this
                        have := fun_ K 0 (by omega)
                        rw [show fBo M (gO r c i) 0 = 0 from rfl, Int64.or_zero] at this
                        exact this
                  exact obj (gS r c) 0 _ (by omega)
            exact inner 4 1 _ _ _ (by omega) (by omega) hZ.symm
      exact loop 57 8 _ _ none _ _ (by omega) (by omega) hY.symm (Or.inr trivial)
    · exact absurd (ite10.mp hq) (inr (Nat.zero_le _) hm (by decide))
  · exact absurd (ite10.mp hb) (ncC hc)
theorem e_copy_no {a b w : Int32} (h : noC a ∨ noC b ∨ a = b) : Ok l yX8_copy cX8_copy 6 (some .int) 2 0 0 [.ref 278, .int a, .int b, .int w] I L R 287 (eqP (some (.int (pfE a b))) I L R 287) := by
  refine Ok.ofV [some (.ref 278), some (.int a), some (.int b), some (.int w), none, none] rfl (by decide) (Nat.le_of_ble_eq_true rfl) ?_
  refine v_iload_n (pc' := 1) dX8_copy_0 rfl rfl ?_
  refine v_cS1i (pc' := 4) dX8_copy_1 rfl cs_X8_88 (Nat.le_of_ble_eq_true rfl) rfl (m_isCache) ?_
  refine v_if_eq (pc' := 7) (tgt := 14) dX8_copy_4 rfl (by decide) (fun hb => ?_) (fun hb => ?_)
  · refine v_bipush (v := -2) (pc' := 16) dX8_copy_14 rfl (by decide) ?_
    exact v_iret dX8_copy_16 rfl (Nat.le_refl _) (Nat.le_refl _) ⟨by unfold pfE; rw [if_pos (Or.inl (ite10.mp hb))], rfl, rfl, rfl, rfl⟩
  · have hb : ¬ noC a := fun z => hb (ite10.mpr z)
    refine v_iload_n (pc' := 8) dX8_copy_7 rfl rfl ?_
    refine v_cS1i (pc' := 11) dX8_copy_8 rfl cs_X8_88 (Nat.le_of_ble_eq_true rfl) rfl (m_isCache) ?_
    refine v_if_ne (pc' := 14) (tgt := 17) dX8_copy_11 rfl (by decide) (fun hc => ?_) (fun hc => ?_)
    · have hc : ¬ noC b := fun z => hc (ite10.mpr z)
      refine v_iload_n (pc' := 18) dX8_copy_17 rfl rfl ?_
      refine v_iload_n (pc' := 19) dX8_copy_18 rfl rfl ?_
      refine v_icmp_ne (pc' := 22) (tgt := 25) dX8_copy_19 rfl (by decide) (fun hd => ?_) (fun hd => ?_)
      · exact absurd ((h.resolve_left hb).resolve_left hc) hd
      · refine v_bipush (v := -3) (pc' := 24) dX8_copy_22 rfl (by decide) ?_
        exact v_iret dX8_copy_24 rfl (Nat.le_refl _) (Nat.le_refl _) ⟨by unfold pfE; rw [if_neg (fun z => z.elim hb hc)], rfl, rfl, rfl, rfl⟩
    · refine v_bipush (v := -2) (pc' := 16) dX8_copy_14 rfl (by decide) ?_
      exact v_iret dX8_copy_16 rfl (Nat.le_refl _) (Nat.le_refl _) ⟨by unfold pfE; rw [if_pos (Or.inr (ite10.mp hc))], rfl, rfl, rfl, rfl⟩
theorem copy_to {a b : Nat} {w ta : Int32} (hR : RS R) (ha : a < 5) (hb5 : b < 5) (hne : a ≠ b) (kk : V l yX8_copy cX8_copy 6 (some .int) (rmd 2 0 0) (QM 0 0 (eqP (some (.int ta)) (mm I r X) (mL L m Y) R 287)) (fun _ _ => True) 40 [some (.ref 278), some (.int (nI a)), some (.int (nI b)), some (.int w), some (.long (m (5 + 5 * a + b))), none] [.int w] (mm I r X) (mL L m Y) R 287 0 0) : Ok l yX8_copy cX8_copy 6 (some .int) 2 0 0 [.ref 278, .int (nI a), .int (nI b), .int w] (mm I r X) (mL L m Y) R 287 (eqP (some (.int ta)) (mm I r X) (mL L m Y) R 287) := by
  refine Ok.ofV [some (.ref 278), some (.int (nI a)), some (.int (nI b)), some (.int w), none, none] rfl (by decide) (Nat.le_of_ble_eq_true rfl) ?_
  refine v_iload_n (pc' := 1) dX8_copy_0 rfl rfl ?_
  refine v_cS1i (pc' := 4) dX8_copy_1 rfl cs_X8_88 (Nat.le_of_ble_eq_true rfl) rfl (m_isCache) ?_
  refine v_if_eq (pc' := 7) (tgt := 14) dX8_copy_4 rfl (by decide) (fun hb => ?_) (fun hb => ?_)
  · exact absurd (ite10.mp hb) (ncC ha)
  · refine v_iload_n (pc' := 8) dX8_copy_7 rfl rfl ?_
    refine v_cS1i (pc' := 11) dX8_copy_8 rfl cs_X8_88 (Nat.le_of_ble_eq_true rfl) rfl (m_isCache) ?_
    refine v_if_ne (pc' := 14) (tgt := 17) dX8_copy_11 rfl (by decide) (fun hc => ?_) (fun hc => ?_)
    · refine v_iload_n (pc' := 18) dX8_copy_17 rfl rfl ?_
      refine v_iload_n (pc' := 19) dX8_copy_18 rfl rfl ?_
      refine v_icmp_ne (pc' := 22) (tgt := 25) dX8_copy_19 rfl (by decide) (fun hd => ?_) (fun hd => ?_)
      · refine v_aload_n (pc' := 26) dX8_copy_25 rfl rfl ?_
        refine v_getQ (pc' := 29) dX8_copy_26 rfl gf_X8_13 kp_M rfl (rf_M_mask hR) ?_
        refine v_iconst (v := nI 5) (pc' := 30) dX8_copy_29 rfl (by decide) ?_
        refine v_iconst (v := nI 5) (pc' := 31) dX8_copy_30 rfl (by decide) ?_
        refine v_iload_n (pc' := 32) dX8_copy_31 rfl rfl ?_
        refine v_imul (pc' := 33) dX8_copy_32 rfl ?_
        refine v_iadd (pc' := 34) dX8_copy_33 rfl ?_
        refine v_iload_n (pc' := 35) dX8_copy_34 rfl rfl ?_
        refine v_iadd (pc' := 36) dX8_copy_35 rfl ?_
        refine v_lal (pc' := 37) dX8_copy_36 rfl kp_mask (Nat.zero_add _) ix5 (by omega) ?_
        rw [mL_at (by omega)]
        refine v_lstore4 (pc' := 39) dX8_copy_37 rfl (by decide) rfl ?_
        refine v_iload_n (pc' := 40) dX8_copy_39 rfl rfl ?_
        exact kk
      · exact absurd ((nI_eq (by omega) (by omega)).mp hd) hne
    · exact absurd (ite10.mp hc) (ncC hb5)
theorem e_copy_out {a b : Nat} {w : Int32} (hR : RS R) (ha : a < 5) (hb5 : b < 5) (hne : a ≠ b) (hw : w.toInt < 0 ∨ 4 < w.toInt) : Ok l yX8_copy cX8_copy 6 (some .int) 2 0 0 [.ref 278, .int (nI a), .int (nI b), .int w] (mm I r X) (mL L m Y) R 287 (eqP (some (.int (-3))) (mm I r X) (mL L m Y) R 287) := by
  refine copy_to hR ha hb5 hne ?_
  refine v_tabOut (tgt := 129) dX8_copy_40 (hw) (by decide) ?_
  refine v_bipush (v := -3) (pc' := 131) dX8_copy_129 rfl (by decide) ?_
  exact v_iret dX8_copy_131 rfl (Nat.le_refl _) (Nat.le_refl _) ⟨rfl, rfl, rfl, rfl, rfl⟩
theorem e_copy_0 {a b : Nat} (hR : RS R) (ha : a < 5) (hb5 : b < 5) (hne : a ≠ b) : Ok l yX8_copy cX8_copy 6 (some .int) 2 0 0 [.ref 278, .int (nI a), .int (nI b), .int (nI 0)] (mm I r X) (mL L m Y) R 287 (eqP (some (.int (r (106 + 110 * a + b)))) (mm I r X) (mL L m Y) R 287) := by
  refine copy_to hR ha hb5 hne ?_
  refine v_tabIn (tgt := 76) dX8_copy_40 (by decide) (by decide) rfl (by decide) ?_
  refine v_aload_n (pc' := 77) dX8_copy_76 rfl rfl ?_
  refine v_iload_n (pc' := 78) dX8_copy_77 rfl rfl ?_
  refine v_bipush (v := nI 100) (pc' := 80) dX8_copy_78 rfl (by decide) ?_
  refine v_iload_n (pc' := 81) dX8_copy_80 rfl rfl ?_
  refine v_iadd (pc' := 82) dX8_copy_81 rfl ?_
  refine v_cV2i (pc' := 85) dX8_copy_82 rfl cv_X8_55 kp_M (Nat.le_of_ble_eq_true rfl) rfl (m_of (w := 100 + b) (j := 106 + 110 * a + b) hR (nI_add _ _) (by omega)) ?_
  exact v_iret dX8_copy_85 rfl (Nat.le_refl _) (Nat.le_refl _) ⟨rfl, rfl, rfl, rfl, rfl⟩
theorem e_copy_1 {a b : Nat} (hR : RS R) (ha : a < 5) (hb5 : b < 5) (hne : a ≠ b) : Ok l yX8_copy cX8_copy 6 (some .int) 2 0 0 [.ref 278, .int (nI a), .int (nI b), .int (nI 1)] (mm I r X) (mL L m Y) R 287 (eqP (some (.int (r (111 + 110 * a + b)))) (mm I r X) (mL L m Y) R 287) := by
  refine copy_to hR ha hb5 hne ?_
  refine v_tabIn (tgt := 86) dX8_copy_40 (by decide) (by decide) rfl (by decide) ?_
  refine v_aload_n (pc' := 87) dX8_copy_86 rfl rfl ?_
  refine v_iload_n (pc' := 88) dX8_copy_87 rfl rfl ?_
  refine v_bipush (v := nI 105) (pc' := 90) dX8_copy_88 rfl (by decide) ?_
  refine v_iload_n (pc' := 91) dX8_copy_90 rfl rfl ?_
  refine v_iadd (pc' := 92) dX8_copy_91 rfl ?_
  refine v_cV2i (pc' := 95) dX8_copy_92 rfl cv_X8_55 kp_M (Nat.le_of_ble_eq_true rfl) rfl (m_of (w := 105 + b) (j := 111 + 110 * a + b) hR (nI_add _ _) (by omega)) ?_
  exact v_iret dX8_copy_95 rfl (Nat.le_refl _) (Nat.le_refl _) ⟨rfl, rfl, rfl, rfl, rfl⟩
theorem e_copy_2 {a b : Nat} (hR : RS R) (ha : a < 5) (hb5 : b < 5) (hne : a ≠ b) : Ok l yX8_copy cX8_copy 6 (some .int) 2 0 0 [.ref 278, .int (nI a), .int (nI b), .int (nI 2)] (mm I r X) (mL L m Y) R 287 (eqP (some (.int (pcn (m (5 + 5 * a + b)) 64))) (mm I r X) (mL L m Y) R 287) := by
  refine copy_to hR ha hb5 hne ?_
  refine v_tabIn (tgt := 96) dX8_copy_40 (by decide) (by decide) rfl (by decide) ?_
  refine v_lload (pc' := 98) dX8_copy_96 rfl rfl ?_
  refine v_cS1i (pc' := 101) dX8_copy_98 rfl cs_X8_112 (Nat.le_of_ble_eq_true rfl) rfl (m_bits) ?_
  exact v_iret dX8_copy_101 rfl (Nat.le_refl _) (Nat.le_refl _) ⟨rfl, rfl, rfl, rfl, rfl⟩
theorem e_copy_3 {a b : Nat} (hR : RS R) (ha : a < 5) (hb5 : b < 5) (hne : a ≠ b) : Ok l yX8_copy cX8_copy 6 (some .int) 2 0 0 [.ref 278, .int (nI a), .int (nI b), .int (nI 3)] (mm I r X) (mL L m Y) R 287 (eqP (some (.int (if rFr r a b then nI 1 else nI 0))) (mm I r X) (mL L m Y) R 287) := by
  refine copy_to hR ha hb5 hne ?_
  refine v_tabIn (tgt := 102) dX8_copy_40 (by decide) (by decide) rfl (by decide) ?_
  refine v_aload_n (pc' := 103) dX8_copy_102 rfl rfl ?_
  refine v_iload_n (pc' := 104) dX8_copy_103 rfl rfl ?_
  refine v_iload_n (pc' := 105) dX8_copy_104 rfl rfl ?_
  refine v_cV2i (pc' := 108) dX8_copy_105 rfl cv_X8_119 kp_M (Nat.le_of_ble_eq_true rfl) rfl (m_isFresh hR ha hb5) ?_
  refine v_if_eq (pc' := 111) (tgt := 115) dX8_copy_108 rfl (by decide) (fun hq => ?_) (fun hq => ?_)
  · refine v_iconst (v := nI 0) (pc' := 116) dX8_copy_115 rfl (by decide) ?_
    exact v_iret dX8_copy_116 rfl (Nat.le_refl _) (Nat.le_refl _) ⟨by rw [if_neg (ite01.mp hq)], rfl, rfl, rfl, rfl⟩
  · refine v_iconst (v := nI 1) (pc' := 112) dX8_copy_111 rfl (by decide) ?_
    refine v_goto (tgt := 116) dX8_copy_112 (by decide) ?_
    exact v_iret dX8_copy_116 rfl (Nat.le_refl _) (Nat.le_refl _) ⟨by rw [if_pos (Classical.not_not.mp (fun z => hq (ite01.mpr z)))], rfl, rfl, rfl, rfl⟩
theorem e_copy_4 {a b : Nat} (hR : RS R) (hI : Inv r) (ha : a < 5) (hb5 : b < 5) (hne : a ≠ b) : Ok l yX8_copy cX8_copy 6 (some .int) 2 0 0 [.ref 278, .int (nI a), .int (nI b), .int (nI 4)] (mm I r X) (mL L m Y) R 287 (eqP (some (.int (pcn (m (5 + 5 * a + b) ^^^ rBits b r) 64))) (mm I r X) (mL L m Y) R 287) := by
  refine copy_to hR ha hb5 hne ?_
  refine v_tabIn (tgt := 117) dX8_copy_40 (by decide) (by decide) rfl (by decide) ?_
  refine v_lload (pc' := 119) dX8_copy_117 rfl rfl ?_
  refine v_aload_n (pc' := 120) dX8_copy_119 rfl rfl ?_
  refine v_iload_n (pc' := 121) dX8_copy_120 rfl rfl ?_
  refine v_cV1l (pc' := 124) dX8_copy_121 rfl cv_X8_102 kp_M (Nat.le_of_ble_eq_true rfl) rfl (m_bitsOf hR hb5 hI.1.1 hI.1.2.2.1 rfl) ?_
  refine v_lxor (pc' := 125) dX8_copy_124 rfl ?_
  refine v_cS1i (pc' := 128) dX8_copy_125 rfl cs_X8_112 (Nat.le_of_ble_eq_true rfl) rfl (m_bits) ?_
  exact v_iret dX8_copy_128 rfl (Nat.le_refl _) (Nat.le_refl _) ⟨rfl, rfl, rfl, rfl, rfl⟩
theorem e_mask_no {a b : Int32} (h : noC a ∨ noC b ∨ a = b) : Ok l yX8_mask cX8_mask 3 (some .long) 2 0 0 [.ref 278, .int a, .int b] I L R 287 (eqP (some (.long (pfE a b).toInt64)) I L R 287) := by
  refine Ok.ofV [some (.ref 278), some (.int a), some (.int b)] rfl (by decide) (Nat.le_of_ble_eq_true rfl) ?_
  refine v_iload_n (pc' := 1) dX8_mask_0 rfl rfl ?_
  refine v_cS1i (pc' := 4) dX8_mask_1 rfl cs_X8_88 (Nat.le_of_ble_eq_true rfl) rfl (m_isCache) ?_
  refine v_if_eq (pc' := 7) (tgt := 14) dX8_mask_4 rfl (by decide) (fun hb => ?_) (fun hb => ?_)
  · refine v_ldc2 (pc' := 17) dX8_mask_14 rfl kc_X8_123 ?_
    exact v_lret dX8_mask_17 rfl (Nat.le_refl _) (Nat.le_refl _) ⟨by unfold pfE; rw [if_pos (Or.inl (ite10.mp hb))]; rfl, rfl, rfl, rfl, rfl⟩
  · have hb : ¬ noC a := fun z => hb (ite10.mpr z)
    refine v_iload_n (pc' := 8) dX8_mask_7 rfl rfl ?_
    refine v_cS1i (pc' := 11) dX8_mask_8 rfl cs_X8_88 (Nat.le_of_ble_eq_true rfl) rfl (m_isCache) ?_
    refine v_if_ne (pc' := 14) (tgt := 18) dX8_mask_11 rfl (by decide) (fun hc => ?_) (fun hc => ?_)
    · have hc : ¬ noC b := fun z => hc (ite10.mpr z)
      refine v_iload_n (pc' := 19) dX8_mask_18 rfl rfl ?_
      refine v_iload_n (pc' := 20) dX8_mask_19 rfl rfl ?_
      refine v_icmp_ne (pc' := 23) (tgt := 29) dX8_mask_20 rfl (by decide) (fun hd => ?_) (fun hd => ?_)
      · exact absurd ((h.resolve_left hb).resolve_left hc) hd
      · refine v_ldc2 (pc' := 26) dX8_mask_23 rfl kc_X8_125 ?_
        refine v_goto (tgt := 41) dX8_mask_26 (by decide) ?_
        exact v_lret dX8_mask_41 rfl (Nat.le_refl _) (Nat.le_refl _) ⟨by unfold pfE; rw [if_neg (fun z => z.elim hb hc)]; rfl, rfl, rfl, rfl, rfl⟩
    · refine v_ldc2 (pc' := 17) dX8_mask_14 rfl kc_X8_123 ?_
      exact v_lret dX8_mask_17 rfl (Nat.le_refl _) (Nat.le_refl _) ⟨by unfold pfE; rw [if_pos (Or.inr (ite10.mp hc))]; rfl, rfl, rfl, rfl, rfl⟩
theorem e_mask {a b : Nat} (hR : RS R) (ha : a < 5) (hb5 : b < 5) (hne : a ≠ b) : Ok l yX8_mask cX8_mask 3 (some .long) 2 0 0 [.ref 278, .int (nI a), .int (nI b)] I (mL L m Y) R 287 (eqP (some (.long (m (5 + 5 * a + b)))) I (mL L m Y) R 287) := by
  refine Ok.ofV [some (.ref 278), some (.int (nI a)), some (.int (nI b))] rfl (by decide) (Nat.le_of_ble_eq_true rfl) ?_
  refine v_iload_n (pc' := 1) dX8_mask_0 rfl rfl ?_
  refine v_cS1i (pc' := 4) dX8_mask_1 rfl cs_X8_88 (Nat.le_of_ble_eq_true rfl) rfl (m_isCache) ?_
  refine v_if_eq (pc' := 7) (tgt := 14) dX8_mask_4 rfl (by decide) (fun hb => ?_) (fun hb => ?_)
  · exact absurd (ite10.mp hb) (ncC ha)
  · refine v_iload_n (pc' := 8) dX8_mask_7 rfl rfl ?_
    refine v_cS1i (pc' := 11) dX8_mask_8 rfl cs_X8_88 (Nat.le_of_ble_eq_true rfl) rfl (m_isCache) ?_
    refine v_if_ne (pc' := 14) (tgt := 18) dX8_mask_11 rfl (by decide) (fun hc => ?_) (fun hc => ?_)
    · refine v_iload_n (pc' := 19) dX8_mask_18 rfl rfl ?_
      refine v_iload_n (pc' := 20) dX8_mask_19 rfl rfl ?_
      refine v_icmp_ne (pc' := 23) (tgt := 29) dX8_mask_20 rfl (by decide) (fun hd => ?_) (fun hd => ?_)
      · refine v_aload_n (pc' := 30) dX8_mask_29 rfl rfl ?_
        refine v_getQ (pc' := 33) dX8_mask_30 rfl gf_X8_13 kp_M rfl (rf_M_mask hR) ?_
        refine v_iconst (v := nI 5) (pc' := 34) dX8_mask_33 rfl (by decide) ?_
        refine v_iconst (v := nI 5) (pc' := 35) dX8_mask_34 rfl (by decide) ?_
        refine v_iload_n (pc' := 36) dX8_mask_35 rfl rfl ?_
        refine v_imul (pc' := 37) dX8_mask_36 rfl ?_
        refine v_iadd (pc' := 38) dX8_mask_37 rfl ?_
        refine v_iload_n (pc' := 39) dX8_mask_38 rfl rfl ?_
        refine v_iadd (pc' := 40) dX8_mask_39 rfl ?_
        refine v_lal (pc' := 41) dX8_mask_40 rfl kp_mask (Nat.zero_add _) ix5 (by omega) ?_
        exact v_lret dX8_mask_41 rfl (Nat.le_refl _) (Nat.le_refl _) ⟨by rw [mL_at (by omega)], rfl, rfl, rfl, rfl⟩
      · exact absurd ((nI_eq (by omega) (by omega)).mp hd) hne
    · exact absurd (ite10.mp hc) (ncC hb5)
theorem e_expects_no1 {a b x : Int32} (h : noC a ∨ noC b ∨ a = b) : Ok l yX8_expects cX8_expects 4 (some .int) 3 0 0 [.ref 278, .int a, .int b, .int x] I L R 287 (eqP (some (.int (pfE a b))) I L R 287) := by
  refine Ok.ofV [some (.ref 278), some (.int a), some (.int b), some (.int x)] rfl (by decide) (Nat.le_of_ble_eq_true rfl) ?_
  refine v_iload_n (pc' := 1) dX8_expects_0 rfl rfl ?_
  refine v_cS1i (pc' := 4) dX8_expects_1 rfl cs_X8_88 (Nat.le_of_ble_eq_true rfl) rfl (m_isCache) ?_
  refine v_if_eq (pc' := 7) (tgt := 14) dX8_expects_4 rfl (by decide) (fun hb => ?_) (fun hb => ?_)
  · refine v_bipush (v := -2) (pc' := 16) dX8_expects_14 rfl (by decide) ?_
    exact v_iret dX8_expects_16 rfl (Nat.le_refl _) (Nat.le_refl _) ⟨by unfold pfE; rw [if_pos (Or.inl (ite10.mp hb))], rfl, rfl, rfl, rfl⟩
  · have hb : ¬ noC a := fun z => hb (ite10.mpr z)
    refine v_iload_n (pc' := 8) dX8_expects_7 rfl rfl ?_
    refine v_cS1i (pc' := 11) dX8_expects_8 rfl cs_X8_88 (Nat.le_of_ble_eq_true rfl) rfl (m_isCache) ?_
    refine v_if_ne (pc' := 14) (tgt := 17) dX8_expects_11 rfl (by decide) (fun hc => ?_) (fun hc => ?_)
    · have hc : ¬ noC b := fun z => hc (ite10.mpr z)
      refine v_iload_n (pc' := 18) dX8_expects_17 rfl rfl ?_
      refine v_iload_n (pc' := 19) dX8_expects_18 rfl rfl ?_
      refine v_icmp_eq (pc' := 22) (tgt := 29) dX8_expects_19 rfl (by decide) (fun hd => ?_) (fun hd => ?_)
      · refine v_bipush (v := -3) (pc' := 31) dX8_expects_29 rfl (by decide) ?_
        exact v_iret dX8_expects_31 rfl (Nat.le_refl _) (Nat.le_refl _) ⟨by unfold pfE; rw [if_neg (fun z => z.elim hb hc)], rfl, rfl, rfl, rfl⟩
      · exact absurd ((h.resolve_left hb).resolve_left hc) hd
    · refine v_bipush (v := -2) (pc' := 16) dX8_expects_14 rfl (by decide) ?_
      exact v_iret dX8_expects_16 rfl (Nat.le_refl _) (Nat.le_refl _) ⟨by unfold pfE; rw [if_pos (Or.inr (ite10.mp hc))], rfl, rfl, rfl, rfl⟩
theorem e_expects_no2 {a b : Nat} {x : Int32} (ha : a < 5) (hb5 : b < 5) (hne : a ≠ b) (h : noO x) : Ok l yX8_expects cX8_expects 4 (some .int) 3 0 0 [.ref 278, .int (nI a), .int (nI b), .int x] I L R 287 (eqP (some (.int (-3))) I L R 287) := by
  refine Ok.ofV [some (.ref 278), some (.int (nI a)), some (.int (nI b)), some (.int x)] rfl (by decide) (Nat.le_of_ble_eq_true rfl) ?_
  refine v_iload_n (pc' := 1) dX8_expects_0 rfl rfl ?_
  refine v_cS1i (pc' := 4) dX8_expects_1 rfl cs_X8_88 (Nat.le_of_ble_eq_true rfl) rfl (m_isCache) ?_
  refine v_if_eq (pc' := 7) (tgt := 14) dX8_expects_4 rfl (by decide) (fun hb => ?_) (fun hb => ?_)
  · exact absurd (ite10.mp hb) (ncC ha)
  · refine v_iload_n (pc' := 8) dX8_expects_7 rfl rfl ?_
    refine v_cS1i (pc' := 11) dX8_expects_8 rfl cs_X8_88 (Nat.le_of_ble_eq_true rfl) rfl (m_isCache) ?_
    refine v_if_ne (pc' := 14) (tgt := 17) dX8_expects_11 rfl (by decide) (fun hc => ?_) (fun hc => ?_)
    · refine v_iload_n (pc' := 18) dX8_expects_17 rfl rfl ?_
      refine v_iload_n (pc' := 19) dX8_expects_18 rfl rfl ?_
      refine v_icmp_eq (pc' := 22) (tgt := 29) dX8_expects_19 rfl (by decide) (fun hd => ?_) (fun hd => ?_)
      · refine v_bipush (v := -3) (pc' := 31) dX8_expects_29 rfl (by decide) ?_
        exact v_iret dX8_expects_31 rfl (Nat.le_refl _) (Nat.le_refl _) ⟨rfl, rfl, rfl, rfl, rfl⟩
      · refine v_iload_n (pc' := 23) dX8_expects_22 rfl rfl ?_
        refine v_cS1i (pc' := 26) dX8_expects_23 rfl cs_X8_93 (Nat.le_of_ble_eq_true rfl) rfl (m_isObject) ?_
        refine v_if_ne (pc' := 29) (tgt := 32) dX8_expects_26 rfl (by decide) (fun hq => ?_) (fun hq => ?_)
        · exact absurd (ite10.mpr h) hq
        · refine v_bipush (v := -3) (pc' := 31) dX8_expects_29 rfl (by decide) ?_
          exact v_iret dX8_expects_31 rfl (Nat.le_refl _) (Nat.le_refl _) ⟨rfl, rfl, rfl, rfl, rfl⟩
    · exact absurd (ite10.mp hc) (ncC hb5)
theorem e_expects {a b x : Nat} (hR : RS R) (hF : MF I) (hI : Inv r) (ha : a < 5) (hb5 : b < 5) (hne : a ≠ b) (hx : x < 1000) : Ok l yX8_expects cX8_expects 4 (some .int) 3 0 0 [.ref 278, .int (nI a), .int (nI b), .int (nI x)] (mm I r X) (mL L m Y) R 287 (eqP (some (.int (if rEx r m a b x then nI 1 else nI 0))) (mm I r X) (mL L m Y) R 287) := by
  refine Ok.ofV [some (.ref 278), some (.int (nI a)), some (.int (nI b)), some (.int (nI x))] rfl (by decide) (Nat.le_of_ble_eq_true rfl) ?_
  refine v_iload_n (pc' := 1) dX8_expects_0 rfl rfl ?_
  refine v_cS1i (pc' := 4) dX8_expects_1 rfl cs_X8_88 (Nat.le_of_ble_eq_true rfl) rfl (m_isCache) ?_
  refine v_if_eq (pc' := 7) (tgt := 14) dX8_expects_4 rfl (by decide) (fun hb => ?_) (fun hb => ?_)
  · exact absurd (ite10.mp hb) (ncC ha)
  · refine v_iload_n (pc' := 8) dX8_expects_7 rfl rfl ?_
    refine v_cS1i (pc' := 11) dX8_expects_8 rfl cs_X8_88 (Nat.le_of_ble_eq_true rfl) rfl (m_isCache) ?_
    refine v_if_ne (pc' := 14) (tgt := 17) dX8_expects_11 rfl (by decide) (fun hc => ?_) (fun hc => ?_)
    · refine v_iload_n (pc' := 18) dX8_expects_17 rfl rfl ?_
      refine v_iload_n (pc' := 19) dX8_expects_18 rfl rfl ?_
      refine v_icmp_eq (pc' := 22) (tgt := 29) dX8_expects_19 rfl (by decide) (fun hd => ?_) (fun hd => ?_)
      · exact absurd ((nI_eq (by omega) (by omega)).mp hd) hne
      · refine v_iload_n (pc' := 23) dX8_expects_22 rfl rfl ?_
        refine v_cS1i (pc' := 26) dX8_expects_23 rfl cs_X8_93 (Nat.le_of_ble_eq_true rfl) rfl (m_isObject) ?_
        refine v_if_ne (pc' := 29) (tgt := 32) dX8_expects_26 rfl (by decide) (fun hq => ?_) (fun hq => ?_)
        · refine v_aload_n (pc' := 33) dX8_expects_32 rfl rfl ?_
          refine v_iload_n (pc' := 34) dX8_expects_33 rfl rfl ?_
          refine v_iload_n (pc' := 35) dX8_expects_34 rfl rfl ?_
          refine v_iload_n (pc' := 36) dX8_expects_35 rfl rfl ?_
          refine v_cV3i (pc' := 39) dX8_expects_36 rfl cv_X8_127 kp_M (Nat.le_of_ble_eq_true rfl) rfl (m_isExpected hR hF ha hb5 hx hI.1) ?_
          refine v_if_eq (pc' := 42) (tgt := 46) dX8_expects_39 rfl (by decide) (fun hz => ?_) (fun hz => ?_)
          · refine v_iconst (v := nI 0) (pc' := 47) dX8_expects_46 rfl (by decide) ?_
            exact v_iret dX8_expects_47 rfl (Nat.le_refl _) (Nat.le_refl _) ⟨by rw [if_neg (ite01.mp hz)], rfl, rfl, rfl, rfl⟩
          · refine v_iconst (v := nI 1) (pc' := 43) dX8_expects_42 rfl (by decide) ?_
            refine v_goto (tgt := 47) dX8_expects_43 (by decide) ?_
            exact v_iret dX8_expects_47 rfl (Nat.le_refl _) (Nat.le_refl _) ⟨by rw [if_pos (Classical.not_not.mp (fun z => hz (ite01.mpr z)))], rfl, rfl, rfl, rfl⟩
        · exact absurd (ite10.mp hq) (ncO hx)
    · exact absurd (ite10.mp hc) (ncC hb5)
theorem e_request_no1 {a b w : Int32} (h : noC a ∨ noO b) : Ok l yX8_request cX8_request 5 (some .int) 6 0 0 [.ref 278, .int a, .int b, .int w] I L R 287 (eqP (some (.int (ofE a))) I L R 287) := by
  refine Ok.ofV [some (.ref 278), some (.int a), some (.int b), some (.int w), none] rfl (by decide) (Nat.le_of_ble_eq_true rfl) ?_
  refine v_iload_n (pc' := 1) dX8_request_0 rfl rfl ?_
  refine v_iload_n (pc' := 2) dX8_request_1 rfl rfl ?_
  refine v_cS2i (pc' := 5) dX8_request_2 rfl cs_X8_96 (Nat.le_of_ble_eq_true rfl) rfl (m_no2 h) ?_
  refine v_istore4 (pc' := 7) dX8_request_5 rfl (by decide) rfl ?_
  refine v_iload (pc' := 9) dX8_request_7 rfl rfl ?_
  refine v_if_ge (pc' := 12) (tgt := 15) dX8_request_9 rfl (by decide) (fun hb => ?_) (fun hb => ?_)
  · exact absurd (ofE_neg a) (Int32.not_lt.mpr hb)
  · refine v_iload (pc' := 14) dX8_request_12 rfl rfl ?_
    exact v_iret dX8_request_14 rfl (Nat.le_refl _) (Nat.le_refl _) ⟨rfl, rfl, rfl, rfl, rfl⟩
theorem e_request_no2 {c x : Nat} {w : Int32} (hc : c < 5) (hx : x < 1000) (h : w < nI 0 ∨ nI 4 < w) : Ok l yX8_request cX8_request 5 (some .int) 6 0 0 [.ref 278, .int (nI c), .int (nI x), .int w] I L R 287 (eqP (some (.int (-3))) I L R 287) := by
  refine Ok.ofV [some (.ref 278), some (.int (nI c)), some (.int (nI x)), some (.int w), none] rfl (by decide) (Nat.le_of_ble_eq_true rfl) ?_
  refine v_iload_n (pc' := 1) dX8_request_0 rfl rfl ?_
  refine v_iload_n (pc' := 2) dX8_request_1 rfl rfl ?_
  refine v_cS2i (pc' := 5) dX8_request_2 rfl cs_X8_96 (Nat.le_of_ble_eq_true rfl) rfl (m_no1 hc hx) ?_
  refine v_istore4 (pc' := 7) dX8_request_5 rfl (by decide) rfl ?_
  refine v_iload (pc' := 9) dX8_request_7 rfl rfl ?_
  refine v_if_ge (pc' := 12) (tgt := 15) dX8_request_9 rfl (by decide) (fun hb => ?_) (fun hb => ?_)
  · refine v_iload_n (pc' := 16) dX8_request_15 rfl rfl ?_
    refine v_iconst (v := nI 0) (pc' := 17) dX8_request_16 rfl (by decide) ?_
    refine v_iconst (v := nI 4) (pc' := 18) dX8_request_17 rfl (by decide) ?_
    refine v_cS3i (pc' := 21) dX8_request_18 rfl cs_X8_47 (Nat.le_of_ble_eq_true rfl) rfl (m_in) ?_
    refine v_if_ne (pc' := 24) (tgt := 27) dX8_request_21 rfl (by decide) (fun hq => ?_) (fun hq => ?_)
    · exact absurd (ite10.mpr h) hq
    · refine v_bipush (v := -3) (pc' := 26) dX8_request_24 rfl (by decide) ?_
      exact v_iret dX8_request_26 rfl (Nat.le_refl _) (Nat.le_refl _) ⟨rfl, rfl, rfl, rfl, rfl⟩
  · exact absurd (by decide) hb
theorem e_request {c x lim : Nat} {ta : Int32} {TI : MI} (hR : RS R) (hF : MF I) (hk : I 21 0 = nI k) (hk4 : k ≤ 4) (hI : Inv r) (hc : c < 5) (hx : x < 1000) (hlim : lim ≤ 4) (hTI : gw (SI I k) (skW r m c x lim).1 (skW r m c x lim).2.2 = TI) (hta : nI (skW r m c x lim).2.1 = ta) (hTR : rReq c x lim r m = TR) : Ok l yX8_request cX8_request 5 (some .int) 6 0 0 [.ref 278, .int (nI c), .int (nI x), .int (nI lim)] (mm I r X) (mL L m Y) R 287 (eqP (some (.int ta)) (mm TI TR (SX k r X)) (mL L m (SY k m Y)) R 287) := by
  refine Ok.ofV [some (.ref 278), some (.int (nI c)), some (.int (nI x)), some (.int (nI lim)), none] rfl (by decide) (Nat.le_of_ble_eq_true rfl) ?_
  refine v_iload_n (pc' := 1) dX8_request_0 rfl rfl ?_
  refine v_iload_n (pc' := 2) dX8_request_1 rfl rfl ?_
  refine v_cS2i (pc' := 5) dX8_request_2 rfl cs_X8_96 (Nat.le_of_ble_eq_true rfl) rfl (m_no1 hc hx) ?_
  refine v_istore4 (pc' := 7) dX8_request_5 rfl (by decide) rfl ?_
  refine v_iload (pc' := 9) dX8_request_7 rfl rfl ?_
  refine v_if_ge (pc' := 12) (tgt := 15) dX8_request_9 rfl (by decide) (fun hb => ?_) (fun hb => ?_)
  · refine v_iload_n (pc' := 16) dX8_request_15 rfl rfl ?_
    refine v_iconst (v := nI 0) (pc' := 17) dX8_request_16 rfl (by decide) ?_
    refine v_iconst (v := nI 4) (pc' := 18) dX8_request_17 rfl (by decide) ?_
    refine v_cS3i (pc' := 21) dX8_request_18 rfl cs_X8_47 (Nat.le_of_ble_eq_true rfl) rfl (m_in) ?_
    refine v_if_ne (pc' := 24) (tgt := 27) dX8_request_21 rfl (by decide) (fun hq => ?_) (fun hq => ?_)
    · refine v_aload_n (pc' := 28) dX8_request_27 rfl rfl ?_
      refine v_cV0v (pc' := 31) dX8_request_28 rfl cv_X8_81 kp_M (Nat.le_of_ble_eq_true rfl) rfl (ok_sv hR hk hk4) ?_
      refine v_aload_n (pc' := 32) dX8_request_31 rfl rfl ?_
      refine v_iload_n (pc' := 33) dX8_request_32 rfl rfl ?_
      refine v_iload_n (pc' := 34) dX8_request_33 rfl rfl ?_
      refine v_iload_n (pc' := 35) dX8_request_34 rfl rfl ?_
      refine v_cV3i (pc' := 38) dX8_request_35 rfl cv_X8_145 kp_M (Nat.le_of_ble_eq_true rfl) rfl (m_requests hR (MF_SI hF) hI hc hx hlim hTI hta hTR) ?_
      exact v_iret dX8_request_38 rfl (Nat.le_refl _) (Nat.le_refl _) ⟨rfl, rfl, rfl, rfl, rfl⟩
    · exact absurd (ite10.mp hq) (inr (Nat.zero_le _) hlim (by decide))
  · exact absurd (by decide) hb
theorem e_type_no {a : Int32} (h : a < nI 0 ∨ nI 255 < a) : Ok l yX8_type cX8_type 2 (some .int) 1 0 0 [.ref 278, .int a] I L R 287 (eqP (some (.int (-3))) I L R 287) := by
  refine Ok.ofV [some (.ref 278), some (.int a)] rfl (by decide) (Nat.le_of_ble_eq_true rfl) ?_
  refine v_iload_n (pc' := 1) dX8_type_0 rfl rfl ?_
  refine v_iconst (v := nI 0) (pc' := 2) dX8_type_1 rfl (by decide) ?_
  refine v_sipush (v := nI 255) (pc' := 5) dX8_type_2 rfl (by decide) ?_
  refine v_cS3i (pc' := 8) dX8_type_5 rfl cs_X8_47 (Nat.le_of_ble_eq_true rfl) rfl (m_in) ?_
  refine v_if_ne (pc' := 11) (tgt := 14) dX8_type_8 rfl (by decide) (fun hb => ?_) (fun hb => ?_)
  · exact absurd (ite10.mpr h) hb
  · refine v_bipush (v := -3) (pc' := 13) dX8_type_11 rfl (by decide) ?_
    exact v_iret dX8_type_13 rfl (Nat.le_refl _) (Nat.le_refl _) ⟨rfl, rfl, rfl, rfl, rfl⟩
theorem e_type_full {v : Nat} (hR : RS R) (hv : v ≤ 255) (hn : I 21 4 = nI 100) : Ok l yX8_type cX8_type 2 (some .int) 1 0 0 [.ref 278, .int (nI v)] I L R 287 (eqP (some (.int (-5))) I L R 287) := by
  refine Ok.ofV [some (.ref 278), some (.int (nI v))] rfl (by decide) (Nat.le_of_ble_eq_true rfl) ?_
  refine v_iload_n (pc' := 1) dX8_type_0 rfl rfl ?_
  refine v_iconst (v := nI 0) (pc' := 2) dX8_type_1 rfl (by decide) ?_
  refine v_sipush (v := nI 255) (pc' := 5) dX8_type_2 rfl (by decide) ?_
  refine v_cS3i (pc' := 8) dX8_type_5 rfl cs_X8_47 (Nat.le_of_ble_eq_true rfl) rfl (m_in) ?_
  refine v_if_ne (pc' := 11) (tgt := 14) dX8_type_8 rfl (by decide) (fun hb => ?_) (fun hb => ?_)
  · refine v_aload_n (pc' := 15) dX8_type_14 rfl rfl ?_
    refine v_gI (o := 4) (pc' := 18) dX8_type_15 rfl gf_X8_148 kp_M rfl rfl ?_
    refine v_bipush (v := nI 100) (pc' := 20) dX8_type_18 rfl (by decide) ?_
    refine v_icmp_ne (pc' := 23) (tgt := 26) dX8_type_20 rfl (by decide) (fun hq => ?_) (fun hq => ?_)
    · exact absurd hn hq
    · refine v_bipush (v := -5) (pc' := 25) dX8_type_23 rfl (by decide) ?_
      exact v_iret dX8_type_25 rfl (Nat.le_refl _) (Nat.le_refl _) ⟨rfl, rfl, rfl, rfl, rfl⟩
  · exact absurd (ite10.mp hb) (inr (Nat.zero_le _) hv (by decide))
theorem e_type {v n : Nat} (hR : RS R) (hv : v ≤ 255) (hn : I 21 4 = nI n) (hn2 : n < 100) : Ok l yX8_type cX8_type 2 (some .int) 1 0 0 [.ref 278, .int (nI v)] I L R 287 (eqP (some (.int (nI (n + 1)))) (stI (stI I 27 n (nI v)) 21 4 (nI (n + 1))) L R 287) := by
  refine Ok.ofV [some (.ref 278), some (.int (nI v))] rfl (by decide) (Nat.le_of_ble_eq_true rfl) ?_
  refine v_iload_n (pc' := 1) dX8_type_0 rfl rfl ?_
  refine v_iconst (v := nI 0) (pc' := 2) dX8_type_1 rfl (by decide) ?_
  refine v_sipush (v := nI 255) (pc' := 5) dX8_type_2 rfl (by decide) ?_
  refine v_cS3i (pc' := 8) dX8_type_5 rfl cs_X8_47 (Nat.le_of_ble_eq_true rfl) rfl (m_in) ?_
  refine v_if_ne (pc' := 11) (tgt := 14) dX8_type_8 rfl (by decide) (fun hb => ?_) (fun hb => ?_)
  · refine v_aload_n (pc' := 15) dX8_type_14 rfl rfl ?_
    refine v_gI (o := 4) (pc' := 18) dX8_type_15 rfl gf_X8_148 kp_M rfl rfl ?_
    refine v_bipush (v := nI 100) (pc' := 20) dX8_type_18 rfl (by decide) ?_
    refine v_icmp_ne (pc' := 23) (tgt := 26) dX8_type_20 rfl (by decide) (fun hq => ?_) (fun hq => ?_)
    · refine v_aload_n (pc' := 27) dX8_type_26 rfl rfl ?_
      refine v_getQ (pc' := 30) dX8_type_27 rfl gf_X8_32 kp_M rfl (rf_M_text hR) ?_
      refine v_aload_n (pc' := 31) dX8_type_30 rfl rfl ?_
      refine v_gI (o := 4) (pc' := 34) dX8_type_31 rfl gf_X8_148 kp_M rfl rfl ?_
      refine v_iload_n (pc' := 35) dX8_type_34 rfl rfl ?_
      refine v_ias (pc' := 36) dX8_type_35 rfl kp_mtext (Nat.zero_add _) hn (by omega) ?_
      refine v_aload_n (pc' := 37) dX8_type_36 rfl rfl ?_
      refine v_dup (pc' := 38) dX8_type_37 rfl rfl ?_
      refine v_gI (o := 4) (pc' := 41) dX8_type_38 rfl gf_X8_148 kp_M rfl rfl ?_
      refine v_iconst (v := nI 1) (pc' := 42) dX8_type_41 rfl (by decide) ?_
      refine v_iadd (pc' := 43) dX8_type_42 rfl ?_
      rw [stI_ne (by omega), hn, nI_add]
      refine v_pI (o := 4) (pc' := 46) dX8_type_43 rfl gf_X8_148 pf_X8_148 kp_M rfl rfl (Or.inl rfl) rfl rfl ?_
      refine v_aload_n (pc' := 47) dX8_type_46 rfl rfl ?_
      refine v_gI (o := 4) (pc' := 50) dX8_type_47 rfl gf_X8_148 kp_M rfl rfl ?_
      rw [stI_self]
      exact v_iret dX8_type_50 rfl (Nat.le_refl _) (Nat.le_refl _) ⟨rfl, rfl, rfl, rfl, rfl⟩
    · rw [hn] at hq
      exact absurd ((nI_eq (by omega) (by omega)).mp hq) (by omega)
  · exact absurd (ite10.mp hb) (inr (Nat.zero_le _) hv (by decide))
theorem e_clearText (hR : RS R) : Ok l yX8_clearText cX8_clearText 2 (some .int) 0 0 0 [.ref 278] I L R 287 (eqP (some (.int (I 21 4))) (stI I 21 4 (nI 0)) L R 287) := by
  refine Ok.ofV [some (.ref 278), none] rfl (by decide) (Nat.le_of_ble_eq_true rfl) ?_
  refine v_aload_n (pc' := 1) dX8_clearText_0 rfl rfl ?_
  refine v_gI (o := 4) (pc' := 4) dX8_clearText_1 rfl gf_X8_148 kp_M rfl rfl ?_
  refine v_istore_n1 (pc' := 5) dX8_clearText_4 rfl (by decide) rfl ?_
  refine v_aload_n (pc' := 6) dX8_clearText_5 rfl rfl ?_
  refine v_iconst (v := nI 0) (pc' := 7) dX8_clearText_6 rfl (by decide) ?_
  refine v_pI (o := 4) (pc' := 10) dX8_clearText_7 rfl gf_X8_148 pf_X8_148 kp_M rfl rfl (Or.inl rfl) rfl rfl ?_
  refine v_iload_n (pc' := 11) dX8_clearText_10 rfl rfl ?_
  exact v_iret dX8_clearText_11 rfl (Nat.le_refl _) (Nat.le_refl _) ⟨rfl, rfl, rfl, rfl, rfl⟩
end B37
