/-! ===== the law: switch, loop, beginning ===== -/
theorem and63 (v : Int32) : ∃ t, t < 64 ∧ v &&& nI 63 = nI t := by
  refine ⟨(v.toBitVec &&& 63#32).toNat, ?_, ?_⟩
  · rw [BitVec.toNat_and]
    exact Nat.lt_of_le_of_lt Nat.and_le_right (by decide)
  · apply Int32.toBitVec_inj.mp
    show v.toBitVec &&& 63#32 = BitVec.ofNat 32 (v.toBitVec &&& 63#32).toNat
    rw [BitVec.ofNat_toNat, BitVec.setWidth_eq]
theorem lawGo {Ls i : Nat} (hL : Ls ≤ 2048) (hi : i ≤ 4096) (h : ¬ (nI Ls - nI 4 < nI i)) : i + 4 ≤ Ls := by
  by_cases h4 : 4 ≤ Ls
  · rw [nI_sub h4, nI_ltI (by omega) (by omega)] at h
    omega
  · exfalso
    apply h
    have hz : nI Ls - nI 4 < 0 := by
      match Ls, h4 with
      | 0, _ => decide
      | 1, _ => decide
      | 2, _ => decide
      | 3, _ => decide
      | n + 4, z => exact absurd (by omega) z
    have h0 := nI_pos' (n := i) (by omega)
    rw [Int32.lt_iff_toInt_lt] at hz ⊢
    rw [Int32.le_iff_toInt_le] at h0
    omega
section LOOP
variable {l : Launch} {nm : String} {b Ls i : Nat} {xs : Nat → Int32} {I : MI} {L : ML} {R : MR}
theorem w_sw (h : RLx I L R) (hi : i + 4 ≤ Ls) (hL : Ls ≤ 2048) (kk : ∀ I' L' R', RLx I' L' R' → VL l nm b Ls xs 1173 (LV b i) [] I' L' R' 287 287 6775) : ∀ t, t < 64 → VL l nm b Ls xs 32 (LV b i) [.int (nI t)] I L R 287 287 6775
  | 0, _ => v_tabIn (tgt := 180) dL_law_32 (by decide) (by decide) rfl (by decide) (w_0 h hi hL kk)
  | 1, _ => v_tabIn (tgt := 213) dL_law_32 (by decide) (by decide) rfl (by decide) (w_1 h hi hL kk)
  | 2, _ => v_tabIn (tgt := 246) dL_law_32 (by decide) (by decide) rfl (by decide) (w_2 h hi hL kk)
  | 3, _ => v_tabIn (tgt := 305) dL_law_32 (by decide) (by decide) rfl (by decide) (w_3 h hi hL kk)
  | 4, _ => v_tabIn (tgt := 348) dL_law_32 (by decide) (by decide) rfl (by decide) (w_4 h hi hL kk)
  | 5, _ => v_tabIn (tgt := 407) dL_law_32 (by decide) (by decide) rfl (by decide) (w_5 h hi hL kk)
  | 6, _ => v_tabIn (tgt := 430) dL_law_32 (by decide) (by decide) rfl (by decide) (w_6 h hi hL kk)
  | 7, _ => v_tabIn (tgt := 463) dL_law_32 (by decide) (by decide) rfl (by decide) (w_7 h hi hL kk)
  | 8, _ => v_tabIn (tgt := 496) dL_law_32 (by decide) (by decide) rfl (by decide) (w_8 h hi hL kk)
  | 9, _ => v_tabIn (tgt := 519) dL_law_32 (by decide) (by decide) rfl (by decide) (w_9 h hi hL kk)
  | 10, _ => v_tabIn (tgt := 542) dL_law_32 (by decide) (by decide) rfl (by decide) (w_10 h hi hL kk)
  | 11, _ => v_tabIn (tgt := 575) dL_law_32 (by decide) (by decide) rfl (by decide) (w_11 h hi hL kk)
  | 12, _ => v_tabIn (tgt := 608) dL_law_32 (by decide) (by decide) rfl (by decide) (w_12 h hi hL kk)
  | 13, _ => v_tabIn (tgt := 641) dL_law_32 (by decide) (by decide) rfl (by decide) (w_13 h hi hL kk)
  | 14, _ => v_tabIn (tgt := 674) dL_law_32 (by decide) (by decide) rfl (by decide) (w_14 h hi hL kk)
  | 15, _ => v_tabIn (tgt := 707) dL_law_32 (by decide) (by decide) rfl (by decide) (w_15 h hi hL kk)
  | 16, _ => v_tabIn (tgt := 730) dL_law_32 (by decide) (by decide) rfl (by decide) (w_16 h hi hL kk)
  | 17, _ => v_tabIn (tgt := 753) dL_law_32 (by decide) (by decide) rfl (by decide) (w_17 h hi hL kk)
  | 18, _ => v_tabIn (tgt := 786) dL_law_32 (by decide) (by decide) rfl (by decide) (w_18 h hi hL kk)
  | 19, _ => v_tabIn (tgt := 809) dL_law_32 (by decide) (by decide) rfl (by decide) (w_19 h hi hL kk)
  | 20, _ => v_tabIn (tgt := 832) dL_law_32 (by decide) (by decide) rfl (by decide) (w_20 h hi hL kk)
  | 21, _ => v_tabIn (tgt := 875) dL_law_32 (by decide) (by decide) rfl (by decide) (w_21 h hi hL kk)
  | 22, _ => v_tabIn (tgt := 909) dL_law_32 (by decide) (by decide) rfl (by decide) (w_22 h hi hL kk)
  | 23, _ => v_tabIn (tgt := 952) dL_law_32 (by decide) (by decide) rfl (by decide) (w_23 h hi hL kk)
  | 24, _ => v_tabIn (tgt := 995) dL_law_32 (by decide) (by decide) rfl (by decide) (w_24 h hi hL kk)
  | 25, _ => v_tabIn (tgt := 1018) dL_law_32 (by decide) (by decide) rfl (by decide) (w_25 h hi hL kk)
  | 26, _ => v_tabIn (tgt := 1051) dL_law_32 (by decide) (by decide) rfl (by decide) (w_26 h hi hL kk)
  | 27, _ => v_tabIn (tgt := 1084) dL_law_32 (by decide) (by decide) rfl (by decide) (w_27 h hi hL kk)
  | 28, _ => v_tabIn (tgt := 1097) dL_law_32 (by decide) (by decide) rfl (by decide) (w_28 h hi hL kk)
  | 29, _ => v_tabIn (tgt := 1120) dL_law_32 (by decide) (by decide) rfl (by decide) (w_29 h hi hL kk)
  | 30, _ => v_tabIn (tgt := 1133) dL_law_32 (by decide) (by decide) rfl (by decide) (w_30 h hi hL kk)
  | 31, _ => v_tabIn (tgt := 1146) dL_law_32 (by decide) (by decide) rfl (by decide) (w_31 h hi hL kk)
  | 32, _ => v_tabIn (tgt := 1159) dL_law_32 (by decide) (by decide) rfl (by decide) (w_32 h hi hL kk)
  | n + 33, hn => v_tabOut (tgt := 1173) dL_law_32 (Or.inr (by rw [nI_toInt (by omega)]; omega)) (by decide) (kk _ _ _ h)
theorem w_loop (hL : Ls ≤ 2048) : ∀ (k i : Nat) (I : MI) (L : ML) (R : MR), Ls < i + 4 * k + 4 → i ≤ 2048 → RLx I L R → VL l nm b Ls xs 18 (LV b i) [] I L R 287 287 6775 := by
  intro k
  induction k with
  | zero =>
    intro i I L R hk hi h
    refine v_iload_n (pc' := 19) dL_law_18 rfl rfl ?_
    refine v_aload_n (pc' := 20) dL_law_19 rfl rfl ?_
    refine v_slen (pc' := 21) dL_law_20 rfl ?_
    refine v_iconst (v := nI 4) (pc' := 22) dL_law_21 rfl (by decide) ?_
    refine v_isub (pc' := 23) dL_law_22 rfl ?_
    refine v_icmp_gt (pc' := 26) (tgt := 1179) dL_law_23 rfl (by decide) (fun _ => ?_) (fun hb => ?_)
    · refine v_iconst (v := nI 1) (pc' := 1180) dL_law_1179 rfl (by decide) ?_
      exact v_end dL_law_1180 (by decide) (by decide)
    · have := lawGo hL (by omega) hb
      omega
  | succ k ih =>
    intro i I L R hk hi h
    refine v_iload_n (pc' := 19) dL_law_18 rfl rfl ?_
    refine v_aload_n (pc' := 20) dL_law_19 rfl rfl ?_
    refine v_slen (pc' := 21) dL_law_20 rfl ?_
    refine v_iconst (v := nI 4) (pc' := 22) dL_law_21 rfl (by decide) ?_
    refine v_isub (pc' := 23) dL_law_22 rfl ?_
    refine v_icmp_gt (pc' := 26) (tgt := 1179) dL_law_23 rfl (by decide) (fun _ => ?_) (fun hb => ?_)
    · refine v_iconst (v := nI 1) (pc' := 1180) dL_law_1179 rfl (by decide) ?_
      exact v_end dL_law_1180 (by decide) (by decide)
    · have hg := lawGo hL (by omega) hb
      refine v_aload_n (pc' := 27) dL_law_26 rfl rfl ?_
      refine v_iload_n (pc' := 28) dL_law_27 rfl rfl ?_
      refine v_sld (k := i) (pc' := 29) dL_law_28 rfl rfl (by omega) (by omega) ?_
      refine v_bipush (v := nI 63) (pc' := 31) dL_law_29 rfl (by decide) ?_
      refine v_iand (pc' := 32) dL_law_31 rfl ?_
      obtain ⟨t, ht, et⟩ := and63 (xs i)
      rw [et]
      refine w_sw h hg hL (fun I' L' R' hr => ?_) t ht
      refine v_iinc3 (v := nI (i + 4)) (pc' := 1176) dL_law_1173 rfl (by decide) rfl (nI_add i 4) ?_
      refine v_goto (tgt := 18) dL_law_1176 (by decide) ?_
      exact ih (i + 4) I' L' R' (by omega) (by omega) hr
theorem w_begin (hL : Ls ≤ 2048) : VL l nm b Ls xs 0 [some (.ref (1000000 + b)), none, none, none] [] zI zL zR 0 0 0 := by
  refine v_new (t := 7) (pc' := 3) dL_law_0 rfl cl_L_7 is_X7 it_X7 ing7 tyX7_ok rfl (kp_D.1) (by decide) rfl dfX7 (by omega) (by first | rfl | (simp [scp, scv]; done) | (simp [scp, scv]; omega)) (by decide) (by decide) ?_
  refine v_dup (pc' := 4) dL_law_3 rfl rfl ?_
  refine v_callI (pc' := 7) dL_law_4 rfl ci_L_9 c_X7 rfl rfl (Nat.le_of_ble_eq_true rfl) rfl (Or.inr (by first | rfl | (simp [scp, scv]; done) | (simp [scp, scv]; omega))) ?_
  refine v_astore_n1 (pc' := 8) dL_law_7 rfl (by decide) rfl ?_
  refine v_new (t := 8) (pc' := 11) dL_law_8 rfl cl_L_10 is_X8 it_X8 ing8 tyX8_ok rfl (kp_M.1) (by decide) rfl dfX8 (by omega) (by first | rfl | (simp [scp, scv]; done) | (simp [scp, scv]; omega)) (by decide) (by decide) ?_
  refine v_dup (pc' := 12) dL_law_11 rfl rfl ?_
  refine v_callI (pc' := 15) dL_law_12 rfl ci_L_12 (c_X8 RB_RS) rfl rfl (Nat.le_of_ble_eq_true rfl) rfl (Or.inr (by first | rfl | (simp [scp, scv]; done) | (simp [scp, scv]; omega))) ?_
  refine v_astore_n2 (pc' := 16) dL_law_15 rfl (by decide) rfl ?_
  refine v_iconst (v := nI 0) (pc' := 17) dL_law_16 rfl (by decide) ?_
  refine v_istore_n3 (pc' := 18) dL_law_17 rfl (by decide) rfl ?_
  exact w_loop hL 512 0 IB LB RB (by omega) (by omega) rel_begin
end LOOP
