/-! ===== DigestCaches: the answers ===== -/
theorem nI_sub {a b : Nat} (h : b ≤ a) : nI a - nI b = nI (a - b) := by
  have e := nI_add (a - b) b
  rw [Nat.sub_add_cancel h] at e
  rw [← e, Int32.add_sub_cancel]
def aReb (c : Nat) (r : Row) : Int32 := fDf (rNew c r) (fun k => r (24 + 110 * c + k)) (24 + 110 * c) 64
theorem fDf_cg {r w v : Row} {b : Nat} : ∀ n, (∀ k, k < n → w k = v k) → fDf r w b n = fDf r v b n
  | 0, _ => rfl
  | n + 1, h => by
    unfold fDf
    rw [fDf_cg n (fun k hk => h k (by omega)), h n (by omega)]
/-- the smallest filter -/
def szF (r : Row) (c : Nat) (lim : Int32) (M : Nat) : Nat → Row → Row × Option Int32
  | 0, w => (w, none)
  | n + 1, w => if rCh (pcn (fBw r c M (4 - n) (gS r c)) 64) M (4 - n) ≤ lim then (va_up (va_up w 0 (nI M)) 1 (nI (4 - n)), some (nI 10 * nI M + nI (4 - n))) else szF r c lim M n (va_up (va_up w 0 (nI M)) 1 (nI (4 - n)))
def szM (r : Row) (c : Nat) (lim : Int32) : Nat → Row → Row × Int32
  | 0, w => (w, -1)
  | n + 1, w => match szF r c lim (64 - n) 4 w with
    | (w', some a) => (w', a)
    | (w', none) => szM r c lim n w'
def gQ (r : Row) : Nat := nn (r 5)
/-- a request is served -/
def srv (c x lim : Nat) (L : ML) (I : MI) : MI := va_up (wkF I 9 10 (skW (I 0) (L 0) c x lim) (skM (I 0) (L 0) c x lim)) 0 (rReq c x lim (I 0) (L 0))
def rnI (L : ML) : List (Nat × Nat) → MI × Nat → MI × Nat
  | [], q => q
  | (c, x) :: t, q => rnI L t (srv c x (gQ (q.1 0)) L q.1, if (skW (q.1 0) (L 0) c x (gQ (q.1 0))).2.1 = 5 then q.2 else q.2 + 1)
theorem sk_fact {r : Row} {m : Msk} {x lim : Nat} : ∀ (k : Nat) (ws : List Nat) (a fh : Nat), a < 5 → (∀ w ∈ ws, w < 5) → 1 ≤ ws.length → ws.length ≤ lim + 1 → (sk r m x lim k ws a fh).2.1 ≤ 5 ∧ (∀ w ∈ (sk r m x lim k ws a fh).1, w < 5) ∧ 1 ≤ (sk r m x lim k ws a fh).1.length ∧ (sk r m x lim k ws a fh).1.length ≤ lim + 1
  | 0, ws, a, fh, ha, hw, h1, h2 => ⟨Nat.le_refl _, hw, h1, h2⟩
  | k + 1, ws, a, fh, ha, hw, h1, h2 => by
    unfold sk
    by_cases c1 : hl r x a
    · rw [if_pos c1]
      exact ⟨by simp only; omega, hw, h1, h2⟩
    · rw [if_neg c1]
      by_cases c2 : ws.length - 1 < lim
      · rw [if_pos c2]
        cases hn : nx r m ws a x 5 with
        | none => exact ⟨Nat.le_refl _, hw, h1, h2⟩
        | some b =>
          have hb := (nx_lt hn).1
          refine sk_fact k (ws ++ [b]) b _ hb (fun w q => ?_) (by simp) (by simp; omega)
          rcases List.mem_append.mp q with z | z
          · exact hw w z
          · rw [List.mem_singleton.mp z]
            exact hb
      · rw [if_neg c2]
        exact ⟨Nat.le_refl _, hw, h1, h2⟩
theorem skW_fact {r : Row} {m : Msk} {c x lim : Nat} (hc : c < 5) : (skW r m c x lim).2.1 ≤ 5 ∧ (∀ w ∈ (skW r m c x lim).1, w < 5) ∧ 1 ≤ (skW r m c x lim).1.length ∧ (skW r m c x lim).1.length ≤ lim + 1 := sk_fact _ _ _ _ hc (fun w q => by rw [List.mem_singleton.mp q]; exact hc) (by simp) (by simp)
section B26
variable {l : Launch} {I : MI} {L : ML} {R : MR} {sg : Nat → Nat} {k : Nat} {TI : MI} {TL : ML}
theorem d_rebuild_no {a : Int32} (h : noC a) : Ok l yX7_rebuild cX7_rebuild 3 (some .int) 6 0 0 [.ref 0, .int a] I L R 287 (eqP (some (.int (-2))) I L R 287) := by
  refine Ok.ofV [some (.ref 0), some (.int a), none] rfl (by decide) (Nat.le_of_ble_eq_true rfl) ?_
  refine v_iload_n (pc' := 1) dX7_rebuild_0 rfl rfl ?_
  refine v_cS1i (pc' := 4) dX7_rebuild_1 rfl cs_X7_72 (Nat.le_of_ble_eq_true rfl) rfl (ok_isNoCache) ?_
  refine v_if_eq (pc' := 7) (tgt := 10) dX7_rebuild_4 rfl (by decide) (fun hb => ?_) (fun hb => ?_)
  · exact absurd h (ite01.mp hb)
  · refine v_bipush (v := -2) (pc' := 9) dX7_rebuild_7 rfl (by decide) ?_
    exact v_iret dX7_rebuild_9 rfl (Nat.le_refl _) (Nat.le_refl _) ⟨rfl, rfl, rfl, rfl, rfl⟩
theorem d_rebuild {c : Nat} (hR : RS R) (hH : HS R sg) (hk : I 15 0 = nI k) (hk4 : k ≤ 4) (hI : Inv (I 0)) (hc : c < 5) (hTI : va_up (cpI (KI I sg k) 0 (24 + 110 * c) 14 0 64) 0 (rNew c (I 0)) = TI) : Ok l yX7_rebuild cX7_rebuild 3 (some .int) 6 0 0 [.ref 0, .int (nI c)] I L R 287 (eqP (some (.int (aReb c (I 0)))) TI (KL L sg k) (KR R sg k) 287) := by
  have h05 : (0 : Nat) < 5 := by decide
  have e0 : KI I sg k 0 = I 0 := KI_0 hH
  refine Ok.ofV [some (.ref 0), some (.int (nI c)), none] rfl (by decide) (Nat.le_of_ble_eq_true rfl) ?_
  refine v_iload_n (pc' := 1) dX7_rebuild_0 rfl rfl ?_
  refine v_cS1i (pc' := 4) dX7_rebuild_1 rfl cs_X7_72 (Nat.le_of_ble_eq_true rfl) rfl (ok_isNoCache) ?_
  refine v_if_eq (pc' := 7) (tgt := 10) dX7_rebuild_4 rfl (by decide) (fun hb => ?_) (fun hb => ?_)
  · refine v_aload_n (pc' := 11) dX7_rebuild_10 rfl rfl ?_
    refine v_getQ (pc' := 14) dX7_rebuild_11 rfl gf_X7_24 kp_D rfl (rf_D_history hR) ?_
    refine v_aload_n (pc' := 15) dX7_rebuild_14 rfl rfl ?_
    refine v_getQ (pc' := 18) dX7_rebuild_15 rfl gf_X7_15 kp_D rfl (rf_D_state hR) ?_
    refine v_cV1v (pc' := 21) dX7_rebuild_18 rfl cv_X7_57 kp_H (Nat.le_of_ble_eq_true rfl) rfl (ok_kp hR hH hk hk4 hI) ?_
    have hR := KRS (sg := sg) (k := k) hR
    refine v_aload_n (pc' := 22) dX7_rebuild_21 rfl rfl ?_
    refine v_getQ (pc' := 25) dX7_rebuild_22 rfl gf_X7_15 kp_D rfl (rf_D_state hR) ?_
    refine v_getQ (pc' := 28) dX7_rebuild_25 rfl gf_X7_76 (kp_T h05) rfl (rf_T_caches hR h05) ?_
    refine v_iload_n (pc' := 29) dX7_rebuild_28 rfl rfl ?_
    refine v_aaloadQ (pc' := 30) dX7_rebuild_29 rfl (kp_CA h05) rfl hc (rf_CA hR h05 hc) ?_
    refine v_astore_n2 (pc' := 31) dX7_rebuild_30 rfl (by decide) rfl ?_
    refine v_aload_n (pc' := 32) dX7_rebuild_31 rfl rfl ?_
    refine v_getQ (pc' := 35) dX7_rebuild_32 rfl gf_X7_129 (kp_C h05 hc) rfl (rf_C_filter hR h05 hc) ?_
    refine v_aload_n (pc' := 36) dX7_rebuild_35 rfl rfl ?_
    refine v_getQ (pc' := 39) dX7_rebuild_36 rfl gf_X7_49 kp_D rfl (rf_D_spareRow hR) ?_
    refine v_cV1v (pc' := 42) dX7_rebuild_39 rfl cv_X7_133 (kp_F h05 hc) (Nat.le_of_ble_eq_true rfl) rfl (ok_copyCountsTo hR h05 hc kp_spareRow (Nat.le_refl _)) ?_
    have e1 : cpI (KI I sg k) 0 (24 + 110 * c) 14 0 64 0 = I 0 := by
      unfold cpI
      rw [va_up_ne _ _ (by decide), e0]
    have e2 : ∀ j, j < 64 → cpI (KI I sg k) 0 (24 + 110 * c) 14 0 64 14 j = I 0 (24 + 110 * c + j) := by
      intro j hj
      unfold cpI
      rw [va_up_self, e0]
      unfold va_cpy
      rw [if_pos (by omega)]
      congr 1
    generalize cpI (KI I sg k) 0 (24 + 110 * c) 14 0 64 = J at *
    refine v_aload_n (pc' := 43) dX7_rebuild_42 rfl rfl ?_
    refine v_cV0v (pc' := 46) dX7_rebuild_43 rfl cv_X7_139 (kp_C h05 hc) (Nat.le_of_ble_eq_true rfl) rfl (ok_refill hR h05 hc (by rw [e1]; exact hI.1) (by rw [e1]; exact (hI.2.1 c hc).1)) ?_
    rw [e1, hTI]
    have e3 : TI 0 = rNew c (I 0) := by rw [← hTI, va_up_self]
    have e4 : TI 14 = J 14 := by rw [← hTI, va_up_ne _ _ (by decide)]
    refine v_aload_n (pc' := 47) dX7_rebuild_46 rfl rfl ?_
    refine v_getQ (pc' := 50) dX7_rebuild_47 rfl gf_X7_129 (kp_C h05 hc) rfl (rf_C_filter hR h05 hc) ?_
    refine v_aload_n (pc' := 51) dX7_rebuild_50 rfl rfl ?_
    refine v_getQ (pc' := 54) dX7_rebuild_51 rfl gf_X7_49 kp_D rfl (rf_D_spareRow hR) ?_
    refine v_cV1i (pc' := 57) dX7_rebuild_54 rfl cv_X7_142 (kp_F h05 hc) (Nat.le_of_ble_eq_true rfl) rfl (ok_differences hR h05 hc kp_spareRow) ?_
    exact v_iret dX7_rebuild_57 rfl (Nat.le_refl _) (Nat.le_refl _) ⟨by unfold aReb; rw [e3, e4]; exact congrArg (fun z => some (Value.int z)) (fDf_cg 64 e2), rfl, rfl, rfl, rfl⟩
  · exact absurd (ite01.mpr (ncC hc)) hb
theorem d_size_no {a : Int32} (h : noC a) : Ok l yX7_size cX7_size 2 (some .int) 2 0 0 [.ref 0, .int a] I L R 287 (eqP (some (.int (-2))) I L R 287) := by
  refine Ok.ofV [some (.ref 0), some (.int a)] rfl (by decide) (Nat.le_of_ble_eq_true rfl) ?_
  refine v_iload_n (pc' := 1) dX7_size_0 rfl rfl ?_
  refine v_cS1i (pc' := 4) dX7_size_1 rfl cs_X7_72 (Nat.le_of_ble_eq_true rfl) rfl (ok_isNoCache) ?_
  refine v_if_eq (pc' := 7) (tgt := 12) dX7_size_4 rfl (by decide) (fun hb => ?_) (fun hb => ?_)
  · exact absurd h (ite01.mp hb)
  · refine v_bipush (v := -2) (pc' := 9) dX7_size_7 rfl (by decide) ?_
    refine v_goto (tgt := 24) dX7_size_9 (by decide) ?_
    exact v_iret dX7_size_24 rfl (Nat.le_refl _) (Nat.le_refl _) ⟨rfl, rfl, rfl, rfl, rfl⟩
theorem d_size {c : Nat} (hR : RS R) (hc : c < 5) : Ok l yX7_size cX7_size 2 (some .int) 2 0 0 [.ref 0, .int (nI c)] I L R 287 (eqP (some (.int (I 0 (7 + 110 * c)))) I L R 287) := by
  have h05 : (0 : Nat) < 5 := by decide
  refine Ok.ofV [some (.ref 0), some (.int (nI c))] rfl (by decide) (Nat.le_of_ble_eq_true rfl) ?_
  refine v_iload_n (pc' := 1) dX7_size_0 rfl rfl ?_
  refine v_cS1i (pc' := 4) dX7_size_1 rfl cs_X7_72 (Nat.le_of_ble_eq_true rfl) rfl (ok_isNoCache) ?_
  refine v_if_eq (pc' := 7) (tgt := 12) dX7_size_4 rfl (by decide) (fun hb => ?_) (fun hb => ?_)
  · refine v_aload_n (pc' := 13) dX7_size_12 rfl rfl ?_
    refine v_getQ (pc' := 16) dX7_size_13 rfl gf_X7_15 kp_D rfl (rf_D_state hR) ?_
    refine v_getQ (pc' := 19) dX7_size_16 rfl gf_X7_76 (kp_T h05) rfl (rf_T_caches hR h05) ?_
    refine v_iload_n (pc' := 20) dX7_size_19 rfl rfl ?_
    refine v_aaloadQ (pc' := 21) dX7_size_20 rfl (kp_CA h05) rfl hc (rf_CA hR h05 hc) ?_
    refine v_gI (o := 7 + 110 * c) (pc' := 24) dX7_size_21 rfl gf_X7_126 (kp_C h05 hc) rfl (by omega) ?_
    exact v_iret dX7_size_24 rfl (Nat.le_refl _) (Nat.le_refl _) ⟨rfl, rfl, rfl, rfl, rfl⟩
  · exact absurd (ite01.mpr (ncC hc)) hb
theorem d_held_no1 {a b : Int32} (h : noC a) : Ok l yX7_held cX7_held 3 (some .int) 2 0 0 [.ref 0, .int a, .int b] I L R 287 (eqP (some (.int (-2))) I L R 287) := by
  refine Ok.ofV [some (.ref 0), some (.int a), some (.int b)] rfl (by decide) (Nat.le_of_ble_eq_true rfl) ?_
  refine v_iload_n (pc' := 1) dX7_held_0 rfl rfl ?_
  refine v_cS1i (pc' := 4) dX7_held_1 rfl cs_X7_72 (Nat.le_of_ble_eq_true rfl) rfl (ok_isNoCache) ?_
  refine v_if_ne (pc' := 7) (tgt := 29) dX7_held_4 rfl (by decide) (fun hb => ?_) (fun hb => ?_)
  · refine v_bipush (v := -2) (pc' := 31) dX7_held_29 rfl (by decide) ?_
    exact v_iret dX7_held_31 rfl (Nat.le_refl _) (Nat.le_refl _) ⟨rfl, rfl, rfl, rfl, rfl⟩
  · exact absurd h (ite01.mp hb)
theorem d_held_no2 {c : Nat} {b : Int32} (hR : RS R) (hc : c < 5) (h : b < nI 0 ∨ I 0 (7 + 110 * c) - nI 1 < b) : Ok l yX7_held cX7_held 3 (some .int) 2 0 0 [.ref 0, .int (nI c), .int b] I L R 287 (eqP (some (.int (-2))) I L R 287) := by
  have h05 : (0 : Nat) < 5 := by decide
  refine Ok.ofV [some (.ref 0), some (.int (nI c)), some (.int b)] rfl (by decide) (Nat.le_of_ble_eq_true rfl) ?_
  refine v_iload_n (pc' := 1) dX7_held_0 rfl rfl ?_
  refine v_cS1i (pc' := 4) dX7_held_1 rfl cs_X7_72 (Nat.le_of_ble_eq_true rfl) rfl (ok_isNoCache) ?_
  refine v_if_ne (pc' := 7) (tgt := 29) dX7_held_4 rfl (by decide) (fun hb => ?_) (fun hb => ?_)
  · exact absurd (ite01.mpr (ncC hc)) hb
  · refine v_iload_n (pc' := 8) dX7_held_7 rfl rfl ?_
    refine v_iconst (v := nI 0) (pc' := 9) dX7_held_8 rfl (by decide) ?_
    refine v_aload_n (pc' := 10) dX7_held_9 rfl rfl ?_
    refine v_getQ (pc' := 13) dX7_held_10 rfl gf_X7_15 kp_D rfl (rf_D_state hR) ?_
    refine v_getQ (pc' := 16) dX7_held_13 rfl gf_X7_76 (kp_T h05) rfl (rf_T_caches hR h05) ?_
    refine v_iload_n (pc' := 17) dX7_held_16 rfl rfl ?_
    refine v_aaloadQ (pc' := 18) dX7_held_17 rfl (kp_CA h05) rfl hc (rf_CA hR h05 hc) ?_
    refine v_gI (o := 7 + 110 * c) (pc' := 21) dX7_held_18 rfl gf_X7_126 (kp_C h05 hc) rfl (by omega) ?_
    refine v_iconst (v := nI 1) (pc' := 22) dX7_held_21 rfl (by decide) ?_
    refine v_isub (pc' := 23) dX7_held_22 rfl ?_
    refine v_cS3i (pc' := 26) dX7_held_23 rfl cs_X7_53 (Nat.le_of_ble_eq_true rfl) rfl (ok_isOutside) ?_
    refine v_if_eq (pc' := 29) (tgt := 32) dX7_held_26 rfl (by decide) (fun hq => ?_) (fun hq => ?_)
    · exact absurd h (ite01.mp hq)
    · refine v_bipush (v := -2) (pc' := 31) dX7_held_29 rfl (by decide) ?_
      exact v_iret dX7_held_31 rfl (Nat.le_refl _) (Nat.le_refl _) ⟨rfl, rfl, rfl, rfl, rfl⟩
theorem d_held {c i : Nat} (hR : RS R) (hI : Inv (I 0)) (hc : c < 5) (hi : i < gS (I 0) c) : Ok l yX7_held cX7_held 3 (some .int) 2 0 0 [.ref 0, .int (nI c), .int (nI i)] I L R 287 (eqP (some (.int (I 0 (8 + 110 * c + i)))) I L R 287) := by
  have h05 : (0 : Nat) < 5 := by decide
  obtain ⟨i1, i2, i3, i4⟩ := (hI.2.1 c hc).1
  refine Ok.ofV [some (.ref 0), some (.int (nI c)), some (.int (nI i))] rfl (by decide) (Nat.le_of_ble_eq_true rfl) ?_
  refine v_iload_n (pc' := 1) dX7_held_0 rfl rfl ?_
  refine v_cS1i (pc' := 4) dX7_held_1 rfl cs_X7_72 (Nat.le_of_ble_eq_true rfl) rfl (ok_isNoCache) ?_
  refine v_if_ne (pc' := 7) (tgt := 29) dX7_held_4 rfl (by decide) (fun hb => ?_) (fun hb => ?_)
  · exact absurd (ite01.mpr (ncC hc)) hb
  · refine v_iload_n (pc' := 8) dX7_held_7 rfl rfl ?_
    refine v_iconst (v := nI 0) (pc' := 9) dX7_held_8 rfl (by decide) ?_
    refine v_aload_n (pc' := 10) dX7_held_9 rfl rfl ?_
    refine v_getQ (pc' := 13) dX7_held_10 rfl gf_X7_15 kp_D rfl (rf_D_state hR) ?_
    refine v_getQ (pc' := 16) dX7_held_13 rfl gf_X7_76 (kp_T h05) rfl (rf_T_caches hR h05) ?_
    refine v_iload_n (pc' := 17) dX7_held_16 rfl rfl ?_
    refine v_aaloadQ (pc' := 18) dX7_held_17 rfl (kp_CA h05) rfl hc (rf_CA hR h05 hc) ?_
    refine v_gI (o := 7 + 110 * c) (pc' := 21) dX7_held_18 rfl gf_X7_126 (kp_C h05 hc) rfl (by omega) ?_
    refine v_iconst (v := nI 1) (pc' := 22) dX7_held_21 rfl (by decide) ?_
    refine v_isub (pc' := 23) dX7_held_22 rfl ?_
    refine v_cS3i (pc' := 26) dX7_held_23 rfl cs_X7_53 (Nat.le_of_ble_eq_true rfl) rfl (ok_isOutside) ?_
    refine v_if_eq (pc' := 29) (tgt := 32) dX7_held_26 rfl (by decide) (fun hq => ?_) (fun hq => ?_)
    · refine v_aload_n (pc' := 33) dX7_held_32 rfl rfl ?_
      refine v_getQ (pc' := 36) dX7_held_33 rfl gf_X7_15 kp_D rfl (rf_D_state hR) ?_
      refine v_getQ (pc' := 39) dX7_held_36 rfl gf_X7_76 (kp_T h05) rfl (rf_T_caches hR h05) ?_
      refine v_iload_n (pc' := 40) dX7_held_39 rfl rfl ?_
      refine v_aaloadQ (pc' := 41) dX7_held_40 rfl (kp_CA h05) rfl hc (rf_CA hR h05 hc) ?_
      refine v_getQ (pc' := 44) dX7_held_41 rfl gf_X7_146 (kp_C h05 hc) rfl (rf_C_objects hR h05 hc) ?_
      refine v_iload_n (pc' := 45) dX7_held_44 rfl rfl ?_
      refine v_ial (pc' := 46) dX7_held_45 rfl (kp_objects h05 hc) rfl rfl (by omega) ?_
      exact v_iret dX7_held_46 rfl (Nat.le_refl _) (Nat.le_refl _) ⟨rfl, rfl, rfl, rfl, rfl⟩
    · refine absurd (ite01.mpr ?_) hq
      rw [i1, nI_sub (by omega)]
      exact inr (Nat.zero_le _) (by omega) (by omega)
theorem d_holds_no {a b : Int32} (h : noC a ∨ noO b) : Ok l yX7_holds cX7_holds 4 (some .int) 3 0 0 [.ref 0, .int a, .int b] I L R 287 (eqP (some (.int (ofE a))) I L R 287) := by
  refine Ok.ofV [some (.ref 0), some (.int a), some (.int b), none] rfl (by decide) (Nat.le_of_ble_eq_true rfl) ?_
  refine v_iload_n (pc' := 1) dX7_holds_0 rfl rfl ?_
  refine v_iload_n (pc' := 2) dX7_holds_1 rfl rfl ?_
  refine v_cS2i (pc' := 5) dX7_holds_2 rfl cs_X7_113 (Nat.le_of_ble_eq_true rfl) rfl (ok_of2 h) ?_
  refine v_istore_n3 (pc' := 6) dX7_holds_5 rfl (by decide) rfl ?_
  refine v_iload_n (pc' := 7) dX7_holds_6 rfl rfl ?_
  refine v_iconst (v := -1) (pc' := 8) dX7_holds_7 rfl (by decide) ?_
  refine v_icmp_eq (pc' := 11) (tgt := 13) dX7_holds_8 rfl (by decide) (fun hb => ?_) (fun hb => ?_)
  · exact absurd hb (ofE_ne a)
  · refine v_iload_n (pc' := 12) dX7_holds_11 rfl rfl ?_
    exact v_iret dX7_holds_12 rfl (Nat.le_refl _) (Nat.le_refl _) ⟨rfl, rfl, rfl, rfl, rfl⟩
theorem d_holds {c x : Nat} (hR : RS R) (hI : Inv (I 0)) (hc : c < 5) (hx : x < 1000) : Ok l yX7_holds cX7_holds 4 (some .int) 3 0 0 [.ref 0, .int (nI c), .int (nI x)] I L R 287 (eqP (some (.int (if rFind c x (I 0) ≠ none then nI 1 else nI 0))) I L R 287) := by
  have h05 : (0 : Nat) < 5 := by decide
  obtain ⟨i1, i2, i3, i4⟩ := (hI.2.1 c hc).1
  refine Ok.ofV [some (.ref 0), some (.int (nI c)), some (.int (nI x)), none] rfl (by decide) (Nat.le_of_ble_eq_true rfl) ?_
  refine v_iload_n (pc' := 1) dX7_holds_0 rfl rfl ?_
  refine v_iload_n (pc' := 2) dX7_holds_1 rfl rfl ?_
  refine v_cS2i (pc' := 5) dX7_holds_2 rfl cs_X7_113 (Nat.le_of_ble_eq_true rfl) rfl (ok_of1 hc hx) ?_
  refine v_istore_n3 (pc' := 6) dX7_holds_5 rfl (by decide) rfl ?_
  refine v_iload_n (pc' := 7) dX7_holds_6 rfl rfl ?_
  refine v_iconst (v := -1) (pc' := 8) dX7_holds_7 rfl (by decide) ?_
  refine v_icmp_eq (pc' := 11) (tgt := 13) dX7_holds_8 rfl (by decide) (fun hb => ?_) (fun hb => ?_)
  · refine v_aload_n (pc' := 14) dX7_holds_13 rfl rfl ?_
    refine v_getQ (pc' := 17) dX7_holds_14 rfl gf_X7_15 kp_D rfl (rf_D_state hR) ?_
    refine v_getQ (pc' := 20) dX7_holds_17 rfl gf_X7_76 (kp_T h05) rfl (rf_T_caches hR h05) ?_
    refine v_iload_n (pc' := 21) dX7_holds_20 rfl rfl ?_
    refine v_aaloadQ (pc' := 22) dX7_holds_21 rfl (kp_CA h05) rfl hc (rf_CA hR h05 hc) ?_
    refine v_iload_n (pc' := 23) dX7_holds_22 rfl rfl ?_
    refine v_cV1i (pc' := 26) dX7_holds_23 rfl cv_X7_149 (kp_C h05 hc) (Nat.le_of_ble_eq_true rfl) rfl (ok_has hR h05 hc i1 i2 i4) ?_
    refine v_if_eq (pc' := 29) (tgt := 33) dX7_holds_26 rfl (by decide) (fun hq => ?_) (fun hq => ?_)
    · refine v_iconst (v := nI 0) (pc' := 34) dX7_holds_33 rfl (by decide) ?_
      exact v_iret dX7_holds_34 rfl (Nat.le_refl _) (Nat.le_refl _) ⟨by rw [if_neg (show ¬ rFind c x (I 0) ≠ none from ite01.mp hq)], rfl, rfl, rfl, rfl⟩
    · refine v_iconst (v := nI 1) (pc' := 30) dX7_holds_29 rfl (by decide) ?_
      refine v_goto (tgt := 34) dX7_holds_30 (by decide) ?_
      exact v_iret dX7_holds_34 rfl (Nat.le_refl _) (Nat.le_refl _) ⟨by rw [if_pos (show rFind c x (I 0) ≠ none from Classical.not_not.mp (fun z => hq (ite01.mpr z)))], rfl, rfl, rfl, rfl⟩
  · exact absurd rfl hb
theorem d_counter_no1 {a b : Int32} (h : noC a) : Ok l yX7_counter cX7_counter 3 (some .int) 2 0 0 [.ref 0, .int a, .int b] I L R 287 (eqP (some (.int (-2))) I L R 287) := by
  refine Ok.ofV [some (.ref 0), some (.int a), some (.int b)] rfl (by decide) (Nat.le_of_ble_eq_true rfl) ?_
  refine v_iload_n (pc' := 1) dX7_counter_0 rfl rfl ?_
  refine v_cS1i (pc' := 4) dX7_counter_1 rfl cs_X7_72 (Nat.le_of_ble_eq_true rfl) rfl (ok_isNoCache) ?_
  refine v_if_ne (pc' := 7) (tgt := 27) dX7_counter_4 rfl (by decide) (fun hb => ?_) (fun hb => ?_)
  · refine v_bipush (v := -2) (pc' := 29) dX7_counter_27 rfl (by decide) ?_
    exact v_iret dX7_counter_29 rfl (Nat.le_refl _) (Nat.le_refl _) ⟨rfl, rfl, rfl, rfl, rfl⟩
  · exact absurd h (ite01.mp hb)
theorem d_counter_no2 {c : Nat} {b : Int32} (hR : RS R) (hc : c < 5) (h : b < nI 0 ∨ I 0 0 - nI 1 < b) : Ok l yX7_counter cX7_counter 3 (some .int) 2 0 0 [.ref 0, .int (nI c), .int b] I L R 287 (eqP (some (.int (-2))) I L R 287) := by
  have h05 : (0 : Nat) < 5 := by decide
  refine Ok.ofV [some (.ref 0), some (.int (nI c)), some (.int b)] rfl (by decide) (Nat.le_of_ble_eq_true rfl) ?_
  refine v_iload_n (pc' := 1) dX7_counter_0 rfl rfl ?_
  refine v_cS1i (pc' := 4) dX7_counter_1 rfl cs_X7_72 (Nat.le_of_ble_eq_true rfl) rfl (ok_isNoCache) ?_
  refine v_if_ne (pc' := 7) (tgt := 27) dX7_counter_4 rfl (by decide) (fun hb => ?_) (fun hb => ?_)
  · exact absurd (ite01.mpr (ncC hc)) hb
  · refine v_iload_n (pc' := 8) dX7_counter_7 rfl rfl ?_
    refine v_iconst (v := nI 0) (pc' := 9) dX7_counter_8 rfl (by decide) ?_
    refine v_aload_n (pc' := 10) dX7_counter_9 rfl rfl ?_
    refine v_getQ (pc' := 13) dX7_counter_10 rfl gf_X7_15 kp_D rfl (rf_D_state hR) ?_
    refine v_getQ (pc' := 16) dX7_counter_13 rfl gf_X7_61 (kp_T h05) rfl (rf_T_shape hR h05) ?_
    refine v_gI (o := 0) (pc' := 19) dX7_counter_16 rfl gf_X7_64 (kp_S h05) rfl rfl ?_
    refine v_iconst (v := nI 1) (pc' := 20) dX7_counter_19 rfl (by decide) ?_
    refine v_isub (pc' := 21) dX7_counter_20 rfl ?_
    refine v_cS3i (pc' := 24) dX7_counter_21 rfl cs_X7_53 (Nat.le_of_ble_eq_true rfl) rfl (ok_isOutside) ?_
    refine v_if_eq (pc' := 27) (tgt := 30) dX7_counter_24 rfl (by decide) (fun hq => ?_) (fun hq => ?_)
    · exact absurd h (ite01.mp hq)
    · refine v_bipush (v := -2) (pc' := 29) dX7_counter_27 rfl (by decide) ?_
      exact v_iret dX7_counter_29 rfl (Nat.le_refl _) (Nat.le_refl _) ⟨rfl, rfl, rfl, rfl, rfl⟩
theorem d_counter {c i : Nat} (hR : RS R) (hI : Inv (I 0)) (hc : c < 5) (hi : i < gM (I 0)) : Ok l yX7_counter cX7_counter 3 (some .int) 2 0 0 [.ref 0, .int (nI c), .int (nI i)] I L R 287 (eqP (some (.int (I 0 (24 + 110 * c + i)))) I L R 287) := by
  have h05 : (0 : Nat) < 5 := by decide
  obtain ⟨m1, m2, m3, m4, m5, m6⟩ := hI.1
  refine Ok.ofV [some (.ref 0), some (.int (nI c)), some (.int (nI i))] rfl (by decide) (Nat.le_of_ble_eq_true rfl) ?_
  refine v_iload_n (pc' := 1) dX7_counter_0 rfl rfl ?_
  refine v_cS1i (pc' := 4) dX7_counter_1 rfl cs_X7_72 (Nat.le_of_ble_eq_true rfl) rfl (ok_isNoCache) ?_
  refine v_if_ne (pc' := 7) (tgt := 27) dX7_counter_4 rfl (by decide) (fun hb => ?_) (fun hb => ?_)
  · exact absurd (ite01.mpr (ncC hc)) hb
  · refine v_iload_n (pc' := 8) dX7_counter_7 rfl rfl ?_
    refine v_iconst (v := nI 0) (pc' := 9) dX7_counter_8 rfl (by decide) ?_
    refine v_aload_n (pc' := 10) dX7_counter_9 rfl rfl ?_
    refine v_getQ (pc' := 13) dX7_counter_10 rfl gf_X7_15 kp_D rfl (rf_D_state hR) ?_
    refine v_getQ (pc' := 16) dX7_counter_13 rfl gf_X7_61 (kp_T h05) rfl (rf_T_shape hR h05) ?_
    refine v_gI (o := 0) (pc' := 19) dX7_counter_16 rfl gf_X7_64 (kp_S h05) rfl rfl ?_
    refine v_iconst (v := nI 1) (pc' := 20) dX7_counter_19 rfl (by decide) ?_
    refine v_isub (pc' := 21) dX7_counter_20 rfl ?_
    refine v_cS3i (pc' := 24) dX7_counter_21 rfl cs_X7_53 (Nat.le_of_ble_eq_true rfl) rfl (ok_isOutside) ?_
    refine v_if_eq (pc' := 27) (tgt := 30) dX7_counter_24 rfl (by decide) (fun hq => ?_) (fun hq => ?_)
    · refine v_aload_n (pc' := 31) dX7_counter_30 rfl rfl ?_
      refine v_getQ (pc' := 34) dX7_counter_31 rfl gf_X7_15 kp_D rfl (rf_D_state hR) ?_
      refine v_getQ (pc' := 37) dX7_counter_34 rfl gf_X7_76 (kp_T h05) rfl (rf_T_caches hR h05) ?_
      refine v_iload_n (pc' := 38) dX7_counter_37 rfl rfl ?_
      refine v_aaloadQ (pc' := 39) dX7_counter_38 rfl (kp_CA h05) rfl hc (rf_CA hR h05 hc) ?_
      refine v_getQ (pc' := 42) dX7_counter_39 rfl gf_X7_129 (kp_C h05 hc) rfl (rf_C_filter hR h05 hc) ?_
      refine v_getQ (pc' := 45) dX7_counter_42 rfl gf_X7_152 (kp_F h05 hc) rfl (rf_F_counts hR h05 hc) ?_
      refine v_iload_n (pc' := 46) dX7_counter_45 rfl rfl ?_
      refine v_ial (pc' := 47) dX7_counter_46 rfl (kp_counts h05 hc) rfl rfl (by omega) ?_
      exact v_iret dX7_counter_47 rfl (Nat.le_refl _) (Nat.le_refl _) ⟨rfl, rfl, rfl, rfl, rfl⟩
    · refine absurd (ite01.mpr ?_) hq
      rw [m1, nI_sub (by omega)]
      exact inr (Nat.zero_le _) (by omega) (by omega)
theorem d_value_no1 {a b : Int32} (h : noO a) : Ok l yX7_value cX7_value 3 (some .int) 2 0 0 [.ref 0, .int a, .int b] I L R 287 (eqP (some (.int (-3))) I L R 287) := by
  refine Ok.ofV [some (.ref 0), some (.int a), some (.int b)] rfl (by decide) (Nat.le_of_ble_eq_true rfl) ?_
  refine v_iload_n (pc' := 1) dX7_value_0 rfl rfl ?_
  refine v_cS1i (pc' := 4) dX7_value_1 rfl cs_X7_155 (Nat.le_of_ble_eq_true rfl) rfl (ok_isNoObject) ?_
  refine v_if_ne (pc' := 7) (tgt := 27) dX7_value_4 rfl (by decide) (fun hb => ?_) (fun hb => ?_)
  · refine v_bipush (v := -3) (pc' := 29) dX7_value_27 rfl (by decide) ?_
    exact v_iret dX7_value_29 rfl (Nat.le_refl _) (Nat.le_refl _) ⟨rfl, rfl, rfl, rfl, rfl⟩
  · exact absurd h (ite01.mp hb)
theorem d_value_no2 {x : Nat} {b : Int32} (hR : RS R) (hx : x < 1000) (h : b < nI 0 ∨ I 0 1 - nI 1 < b) : Ok l yX7_value cX7_value 3 (some .int) 2 0 0 [.ref 0, .int (nI x), .int b] I L R 287 (eqP (some (.int (-3))) I L R 287) := by
  have h05 : (0 : Nat) < 5 := by decide
  refine Ok.ofV [some (.ref 0), some (.int (nI x)), some (.int b)] rfl (by decide) (Nat.le_of_ble_eq_true rfl) ?_
  refine v_iload_n (pc' := 1) dX7_value_0 rfl rfl ?_
  refine v_cS1i (pc' := 4) dX7_value_1 rfl cs_X7_155 (Nat.le_of_ble_eq_true rfl) rfl (ok_isNoObject) ?_
  refine v_if_ne (pc' := 7) (tgt := 27) dX7_value_4 rfl (by decide) (fun hb => ?_) (fun hb => ?_)
  · exact absurd (ite01.mpr (ncO hx)) hb
  · refine v_iload_n (pc' := 8) dX7_value_7 rfl rfl ?_
    refine v_iconst (v := nI 0) (pc' := 9) dX7_value_8 rfl (by decide) ?_
    refine v_aload_n (pc' := 10) dX7_value_9 rfl rfl ?_
    refine v_getQ (pc' := 13) dX7_value_10 rfl gf_X7_15 kp_D rfl (rf_D_state hR) ?_
    refine v_getQ (pc' := 16) dX7_value_13 rfl gf_X7_61 (kp_T h05) rfl (rf_T_shape hR h05) ?_
    refine v_gI (o := 1) (pc' := 19) dX7_value_16 rfl gf_X7_158 (kp_S h05) rfl rfl ?_
    refine v_iconst (v := nI 1) (pc' := 20) dX7_value_19 rfl (by decide) ?_
    refine v_isub (pc' := 21) dX7_value_20 rfl ?_
    refine v_cS3i (pc' := 24) dX7_value_21 rfl cs_X7_53 (Nat.le_of_ble_eq_true rfl) rfl (ok_isOutside) ?_
    refine v_if_eq (pc' := 27) (tgt := 30) dX7_value_24 rfl (by decide) (fun hq => ?_) (fun hq => ?_)
    · exact absurd h (ite01.mp hq)
    · refine v_bipush (v := -3) (pc' := 29) dX7_value_27 rfl (by decide) ?_
      exact v_iret dX7_value_29 rfl (Nat.le_refl _) (Nat.le_refl _) ⟨rfl, rfl, rfl, rfl, rfl⟩
theorem d_value {x f : Nat} (hR : RS R) (hI : Inv (I 0)) (hx : x < 1000) (hf : f < gK (I 0)) : Ok l yX7_value cX7_value 3 (some .int) 2 0 0 [.ref 0, .int (nI x), .int (nI f)] I L R 287 (eqP (some (.int (nI (vf (gM (I 0)) x f)))) I L R 287) := by
  have h05 : (0 : Nat) < 5 := by decide
  obtain ⟨m1, m2, m3, m4, m5, m6⟩ := hI.1
  refine Ok.ofV [some (.ref 0), some (.int (nI x)), some (.int (nI f))] rfl (by decide) (Nat.le_of_ble_eq_true rfl) ?_
  refine v_iload_n (pc' := 1) dX7_value_0 rfl rfl ?_
  refine v_cS1i (pc' := 4) dX7_value_1 rfl cs_X7_155 (Nat.le_of_ble_eq_true rfl) rfl (ok_isNoObject) ?_
  refine v_if_ne (pc' := 7) (tgt := 27) dX7_value_4 rfl (by decide) (fun hb => ?_) (fun hb => ?_)
  · exact absurd (ite01.mpr (ncO hx)) hb
  · refine v_iload_n (pc' := 8) dX7_value_7 rfl rfl ?_
    refine v_iconst (v := nI 0) (pc' := 9) dX7_value_8 rfl (by decide) ?_
    refine v_aload_n (pc' := 10) dX7_value_9 rfl rfl ?_
    refine v_getQ (pc' := 13) dX7_value_10 rfl gf_X7_15 kp_D rfl (rf_D_state hR) ?_
    refine v_getQ (pc' := 16) dX7_value_13 rfl gf_X7_61 (kp_T h05) rfl (rf_T_shape hR h05) ?_
    refine v_gI (o := 1) (pc' := 19) dX7_value_16 rfl gf_X7_158 (kp_S h05) rfl rfl ?_
    refine v_iconst (v := nI 1) (pc' := 20) dX7_value_19 rfl (by decide) ?_
    refine v_isub (pc' := 21) dX7_value_20 rfl ?_
    refine v_cS3i (pc' := 24) dX7_value_21 rfl cs_X7_53 (Nat.le_of_ble_eq_true rfl) rfl (ok_isOutside) ?_
    refine v_if_eq (pc' := 27) (tgt := 30) dX7_value_24 rfl (by decide) (fun hq => ?_) (fun hq => ?_)
    · refine v_aload_n (pc' := 31) dX7_value_30 rfl rfl ?_
      refine v_getQ (pc' := 34) dX7_value_31 rfl gf_X7_15 kp_D rfl (rf_D_state hR) ?_
      refine v_getQ (pc' := 37) dX7_value_34 rfl gf_X7_61 (kp_T h05) rfl (rf_T_shape hR h05) ?_
      refine v_iload_n (pc' := 38) dX7_value_37 rfl rfl ?_
      refine v_iload_n (pc' := 39) dX7_value_38 rfl rfl ?_
      refine v_cV2i (pc' := 42) dX7_value_39 rfl cv_X7_161 (kp_S h05) (Nat.le_of_ble_eq_true rfl) rfl (ok_valueOf (kp_S h05) m1 (by omega) m3 hx (by omega)) ?_
      exact v_iret dX7_value_42 rfl (Nat.le_refl _) (Nat.le_refl _) ⟨rfl, rfl, rfl, rfl, rfl⟩
    · refine absurd (ite01.mpr ?_) hq
      rw [m4, nI_sub (by omega)]
      exact inr (Nat.zero_le _) (by omega) (by omega)
theorem d_mayHold_no {a b : Int32} (h : noC a ∨ noO b) : Ok l yX7_mayHold cX7_mayHold 4 (some .int) 3 0 0 [.ref 0, .int a, .int b] I L R 287 (eqP (some (.int (ofE a))) I L R 287) := by
  refine Ok.ofV [some (.ref 0), some (.int a), some (.int b), none] rfl (by decide) (Nat.le_of_ble_eq_true rfl) ?_
  refine v_iload_n (pc' := 1) dX7_mayHold_0 rfl rfl ?_
  refine v_iload_n (pc' := 2) dX7_mayHold_1 rfl rfl ?_
  refine v_cS2i (pc' := 5) dX7_mayHold_2 rfl cs_X7_113 (Nat.le_of_ble_eq_true rfl) rfl (ok_of2 h) ?_
  refine v_istore_n3 (pc' := 6) dX7_mayHold_5 rfl (by decide) rfl ?_
  refine v_iload_n (pc' := 7) dX7_mayHold_6 rfl rfl ?_
  refine v_iconst (v := -1) (pc' := 8) dX7_mayHold_7 rfl (by decide) ?_
  refine v_icmp_eq (pc' := 11) (tgt := 13) dX7_mayHold_8 rfl (by decide) (fun hb => ?_) (fun hb => ?_)
  · exact absurd hb (ofE_ne a)
  · refine v_iload_n (pc' := 12) dX7_mayHold_11 rfl rfl ?_
    exact v_iret dX7_mayHold_12 rfl (Nat.le_refl _) (Nat.le_refl _) ⟨rfl, rfl, rfl, rfl, rfl⟩
theorem d_mayHold {c x : Nat} (hR : RS R) (hI : Inv (I 0)) (hc : c < 5) (hx : x < 1000) : Ok l yX7_mayHold cX7_mayHold 4 (some .int) 3 0 0 [.ref 0, .int (nI c), .int (nI x)] I L R 287 (eqP (some (.int (if rIs x (rBits c (I 0)) (I 0) = true then nI 1 else nI 0))) I L R 287) := by
  have h05 : (0 : Nat) < 5 := by decide
  obtain ⟨m1, m2, m3, m4, m5, m6⟩ := hI.1
  refine Ok.ofV [some (.ref 0), some (.int (nI c)), some (.int (nI x)), none] rfl (by decide) (Nat.le_of_ble_eq_true rfl) ?_
  refine v_iload_n (pc' := 1) dX7_mayHold_0 rfl rfl ?_
  refine v_iload_n (pc' := 2) dX7_mayHold_1 rfl rfl ?_
  refine v_cS2i (pc' := 5) dX7_mayHold_2 rfl cs_X7_113 (Nat.le_of_ble_eq_true rfl) rfl (ok_of1 hc hx) ?_
  refine v_istore_n3 (pc' := 6) dX7_mayHold_5 rfl (by decide) rfl ?_
  refine v_iload_n (pc' := 7) dX7_mayHold_6 rfl rfl ?_
  refine v_iconst (v := -1) (pc' := 8) dX7_mayHold_7 rfl (by decide) ?_
  refine v_icmp_eq (pc' := 11) (tgt := 13) dX7_mayHold_8 rfl (by decide) (fun hb => ?_) (fun hb => ?_)
  · refine v_aload_n (pc' := 14) dX7_mayHold_13 rfl rfl ?_
    refine v_getQ (pc' := 17) dX7_mayHold_14 rfl gf_X7_15 kp_D rfl (rf_D_state hR) ?_
    refine v_getQ (pc' := 20) dX7_mayHold_17 rfl gf_X7_61 (kp_T h05) rfl (rf_T_shape hR h05) ?_
    refine v_aload_n (pc' := 21) dX7_mayHold_20 rfl rfl ?_
    refine v_getQ (pc' := 24) dX7_mayHold_21 rfl gf_X7_15 kp_D rfl (rf_D_state hR) ?_
    refine v_getQ (pc' := 27) dX7_mayHold_24 rfl gf_X7_76 (kp_T h05) rfl (rf_T_caches hR h05) ?_
    refine v_iload_n (pc' := 28) dX7_mayHold_27 rfl rfl ?_
    refine v_aaloadQ (pc' := 29) dX7_mayHold_28 rfl (kp_CA h05) rfl hc (rf_CA hR h05 hc) ?_
    refine v_getQ (pc' := 32) dX7_mayHold_29 rfl gf_X7_129 (kp_C h05 hc) rfl (rf_C_filter hR h05 hc) ?_
    refine v_cV0l (pc' := 35) dX7_mayHold_32 rfl cv_X7_164 (kp_F h05 hc) (Nat.le_of_ble_eq_true rfl) rfl (ok_bits hR h05 hc m1 m3) ?_
    refine v_iload_n (pc' := 36) dX7_mayHold_35 rfl rfl ?_
    refine v_cV2i (pc' := 39) dX7_mayHold_36 rfl cv_X7_168 (kp_S h05) (Nat.le_of_ble_eq_true rfl) rfl (ok_isIn (kp_S h05) m1 (by omega) m3 m4 m6 hx) ?_
    refine v_if_eq (pc' := 42) (tgt := 46) dX7_mayHold_39 rfl (by decide) (fun hq => ?_) (fun hq => ?_)
    · refine v_iconst (v := nI 0) (pc' := 47) dX7_mayHold_46 rfl (by decide) ?_
      exact v_iret dX7_mayHold_47 rfl (Nat.le_refl _) (Nat.le_refl _) ⟨by rw [if_neg (show ¬ rIs x (rBits c (I 0)) (I 0) = true from ite01.mp hq)], rfl, rfl, rfl, rfl⟩
    · refine v_iconst (v := nI 1) (pc' := 43) dX7_mayHold_42 rfl (by decide) ?_
      refine v_goto (tgt := 47) dX7_mayHold_43 (by decide) ?_
      exact v_iret dX7_mayHold_47 rfl (Nat.le_refl _) (Nat.le_refl _) ⟨by rw [if_pos (show rIs x (rBits c (I 0)) (I 0) = true from Classical.not_not.mp (fun z => hq (ite01.mpr z)))], rfl, rfl, rfl, rfl⟩
  · exact absurd rfl hb
theorem d_chance_no {a : Int32} (h : noC a) : Ok l yX7_chance cX7_chance 2 (some .int) 2 0 0 [.ref 0, .int a] I L R 287 (eqP (some (.int (-2))) I L R 287) := by
  refine Ok.ofV [some (.ref 0), some (.int a)] rfl (by decide) (Nat.le_of_ble_eq_true rfl) ?_
  refine v_iload_n (pc' := 1) dX7_chance_0 rfl rfl ?_
  refine v_cS1i (pc' := 4) dX7_chance_1 rfl cs_X7_72 (Nat.le_of_ble_eq_true rfl) rfl (ok_isNoCache) ?_
  refine v_if_eq (pc' := 7) (tgt := 10) dX7_chance_4 rfl (by decide) (fun hb => ?_) (fun hb => ?_)
  · exact absurd h (ite01.mp hb)
  · refine v_bipush (v := -2) (pc' := 9) dX7_chance_7 rfl (by decide) ?_
    exact v_iret dX7_chance_9 rfl (Nat.le_refl _) (Nat.le_refl _) ⟨rfl, rfl, rfl, rfl, rfl⟩
theorem d_chance {c : Nat} (hR : RS R) (hI : Inv (I 0)) (hc : c < 5) : Ok l yX7_chance cX7_chance 2 (some .int) 2 0 0 [.ref 0, .int (nI c)] I L R 287 (eqP (some (.int (rCh (pcn (rBits c (I 0)) 64) (gM (I 0)) (gK (I 0))))) I L R 287) := by
  have h05 : (0 : Nat) < 5 := by decide
  obtain ⟨m1, m2, m3, m4, m5, m6⟩ := hI.1
  refine Ok.ofV [some (.ref 0), some (.int (nI c))] rfl (by decide) (Nat.le_of_ble_eq_true rfl) ?_
  refine v_iload_n (pc' := 1) dX7_chance_0 rfl rfl ?_
  refine v_cS1i (pc' := 4) dX7_chance_1 rfl cs_X7_72 (Nat.le_of_ble_eq_true rfl) rfl (ok_isNoCache) ?_
  refine v_if_eq (pc' := 7) (tgt := 10) dX7_chance_4 rfl (by decide) (fun hb => ?_) (fun hb => ?_)
  · refine v_aload_n (pc' := 11) dX7_chance_10 rfl rfl ?_
    refine v_getQ (pc' := 14) dX7_chance_11 rfl gf_X7_15 kp_D rfl (rf_D_state hR) ?_
    refine v_getQ (pc' := 17) dX7_chance_14 rfl gf_X7_61 (kp_T h05) rfl (rf_T_shape hR h05) ?_
    refine v_aload_n (pc' := 18) dX7_chance_17 rfl rfl ?_
    refine v_getQ (pc' := 21) dX7_chance_18 rfl gf_X7_15 kp_D rfl (rf_D_state hR) ?_
    refine v_getQ (pc' := 24) dX7_chance_21 rfl gf_X7_76 (kp_T h05) rfl (rf_T_caches hR h05) ?_
    refine v_iload_n (pc' := 25) dX7_chance_24 rfl rfl ?_
    refine v_aaloadQ (pc' := 26) dX7_chance_25 rfl (kp_CA h05) rfl hc (rf_CA hR h05 hc) ?_
    refine v_getQ (pc' := 29) dX7_chance_26 rfl gf_X7_129 (kp_C h05 hc) rfl (rf_C_filter hR h05 hc) ?_
    refine v_cV0l (pc' := 32) dX7_chance_29 rfl cv_X7_164 (kp_F h05 hc) (Nat.le_of_ble_eq_true rfl) rfl (ok_bits hR h05 hc m1 m3) ?_
    refine v_cV1i (pc' := 35) dX7_chance_32 rfl cv_X7_172 (kp_S h05) (Nat.le_of_ble_eq_true rfl) rfl (ok_chanceOf (kp_S h05) m1 (by omega) m3 m4 m6) ?_
    exact v_iret dX7_chance_35 rfl (Nat.le_refl _) (Nat.le_refl _) ⟨rfl, rfl, rfl, rfl, rfl⟩
  · exact absurd (ite01.mpr (ncC hc)) hb
theorem d_wrong_no {a : Int32} (h : noC a) : Ok l yX7_wrong cX7_wrong 2 (some .int) 3 0 0 [.ref 0, .int a] I L R 287 (eqP (some (.int (-2))) I L R 287) := by
  refine Ok.ofV [some (.ref 0), some (.int a)] rfl (by decide) (Nat.le_of_ble_eq_true rfl) ?_
  refine v_iload_n (pc' := 1) dX7_wrong_0 rfl rfl ?_
  refine v_cS1i (pc' := 4) dX7_wrong_1 rfl cs_X7_72 (Nat.le_of_ble_eq_true rfl) rfl (ok_isNoCache) ?_
  refine v_if_eq (pc' := 7) (tgt := 12) dX7_wrong_4 rfl (by decide) (fun hb => ?_) (fun hb => ?_)
  · exact absurd h (ite01.mp hb)
  · refine v_bipush (v := -2) (pc' := 9) dX7_wrong_7 rfl (by decide) ?_
    refine v_goto (tgt := 24) dX7_wrong_9 (by decide) ?_
    exact v_iret dX7_wrong_24 rfl (Nat.le_refl _) (Nat.le_refl _) ⟨rfl, rfl, rfl, rfl, rfl⟩
theorem d_wrong {c : Nat} {ta : Int32} (hR : RS R) (hI : Inv (I 0)) (hc : c < 5) (hta : fWr (I 0) c (gM (I 0)) (gK (I 0)) (gS (I 0) c) (rBits c (I 0)) 1000 = ta) : Ok l yX7_wrong cX7_wrong 2 (some .int) 3 0 0 [.ref 0, .int (nI c)] I L R 287 (eqP (some (.int ta)) I L R 287) := by
  have h05 : (0 : Nat) < 5 := by decide
  have hw := ok_wronglyIn (l := l) (L := L) hR h05 hc hI.1 (hI.2.1 c hc).1
  rw [hta] at hw
  refine Ok.ofV [some (.ref 0), some (.int (nI c))] rfl (by decide) (Nat.le_of_ble_eq_true rfl) ?_
  refine v_iload_n (pc' := 1) dX7_wrong_0 rfl rfl ?_
  refine v_cS1i (pc' := 4) dX7_wrong_1 rfl cs_X7_72 (Nat.le_of_ble_eq_true rfl) rfl (ok_isNoCache) ?_
  refine v_if_eq (pc' := 7) (tgt := 12) dX7_wrong_4 rfl (by decide) (fun hb => ?_) (fun hb => ?_)
  · refine v_aload_n (pc' := 13) dX7_wrong_12 rfl rfl ?_
    refine v_getQ (pc' := 16) dX7_wrong_13 rfl gf_X7_15 kp_D rfl (rf_D_state hR) ?_
    refine v_getQ (pc' := 19) dX7_wrong_16 rfl gf_X7_76 (kp_T h05) rfl (rf_T_caches hR h05) ?_
    refine v_iload_n (pc' := 20) dX7_wrong_19 rfl rfl ?_
    refine v_aaloadQ (pc' := 21) dX7_wrong_20 rfl (kp_CA h05) rfl hc (rf_CA hR h05 hc) ?_
    refine v_cV0i (pc' := 24) dX7_wrong_21 rfl cv_X7_176 (kp_C h05 hc) (Nat.le_of_ble_eq_true rfl) rfl (hw) ?_
    exact v_iret dX7_wrong_24 rfl (Nat.le_refl _) (Nat.le_refl _) ⟨rfl, rfl, rfl, rfl, rfl⟩
  · exact absurd (ite01.mpr (ncC hc)) hb
theorem d_publish_no {a : Int32} (h : noC a) : Ok l yX7_publish cX7_publish 2 (some .int) 6 0 0 [.ref 0, .int a] I L R 287 (eqP (some (.int (-2))) I L R 287) := by
  refine Ok.ofV [some (.ref 0), some (.int a)] rfl (by decide) (Nat.le_of_ble_eq_true rfl) ?_
  refine v_iload_n (pc' := 1) dX7_publish_0 rfl rfl ?_
  refine v_cS1i (pc' := 4) dX7_publish_1 rfl cs_X7_72 (Nat.le_of_ble_eq_true rfl) rfl (ok_isNoCache) ?_
  refine v_if_eq (pc' := 7) (tgt := 10) dX7_publish_4 rfl (by decide) (fun hb => ?_) (fun hb => ?_)
  · exact absurd h (ite01.mp hb)
  · refine v_bipush (v := -2) (pc' := 9) dX7_publish_7 rfl (by decide) ?_
    exact v_iret dX7_publish_9 rfl (Nat.le_refl _) (Nat.le_refl _) ⟨rfl, rfl, rfl, rfl, rfl⟩
theorem d_publish {c : Nat} {ta : Int32} (hR : RS R) (hH : HS R sg) (hk : I 15 0 = nI k) (hk4 : k ≤ 4) (hI : Inv (I 0)) (hc : c < 5) (hTI : va_up (KI I sg k) 0 (rPub c (I 0) (L 0)) = TI) (hTL : va_up (KL L sg k) 0 (rPq c (I 0) (L 0)).2.1 = TL) (hta : (rPq c (I 0) (L 0)).2.2 = ta) : Ok l yX7_publish cX7_publish 2 (some .int) 6 0 0 [.ref 0, .int (nI c)] I L R 287 (eqP (some (.int ta)) TI TL (KR R sg k) 287) := by
  have h05 : (0 : Nat) < 5 := by decide
  have e0 : KI I sg k 0 = I 0 := KI_0 hH
  have l0 : KL L sg k 0 = L 0 := KL_0 hH
  refine Ok.ofV [some (.ref 0), some (.int (nI c))] rfl (by decide) (Nat.le_of_ble_eq_true rfl) ?_
  refine v_iload_n (pc' := 1) dX7_publish_0 rfl rfl ?_
  refine v_cS1i (pc' := 4) dX7_publish_1 rfl cs_X7_72 (Nat.le_of_ble_eq_true rfl) rfl (ok_isNoCache) ?_
  refine v_if_eq (pc' := 7) (tgt := 10) dX7_publish_4 rfl (by decide) (fun hb => ?_) (fun hb => ?_)
  · refine v_aload_n (pc' := 11) dX7_publish_10 rfl rfl ?_
    refine v_getQ (pc' := 14) dX7_publish_11 rfl gf_X7_24 kp_D rfl (rf_D_history hR) ?_
    refine v_aload_n (pc' := 15) dX7_publish_14 rfl rfl ?_
    refine v_getQ (pc' := 18) dX7_publish_15 rfl gf_X7_15 kp_D rfl (rf_D_state hR) ?_
    refine v_cV1v (pc' := 21) dX7_publish_18 rfl cv_X7_57 kp_H (Nat.le_of_ble_eq_true rfl) rfl (ok_kp hR hH hk hk4 hI) ?_
    have hR := KRS (sg := sg) (k := k) hR
    refine v_aload_n (pc' := 22) dX7_publish_21 rfl rfl ?_
    refine v_getQ (pc' := 25) dX7_publish_22 rfl gf_X7_15 kp_D rfl (rf_D_state hR) ?_
    refine v_iload_n (pc' := 26) dX7_publish_25 rfl rfl ?_
    refine v_cV1i (pc' := 29) dX7_publish_26 rfl cv_X7_187 (kp_T h05) (Nat.le_of_ble_eq_true rfl) rfl (ok_sendDigest (TI := TI) (TL := TL) (ta := ta) hR h05 hc (by rw [e0]; exact hI.1) (by rw [e0, l0]; exact hTI) (by rw [e0, l0]; exact hTL) (by rw [e0, l0]; exact hta)) ?_
    exact v_iret dX7_publish_29 rfl (Nat.le_refl _) (Nat.le_refl _) ⟨rfl, rfl, rfl, rfl, rfl⟩
  · exact absurd (ite01.mpr (ncC hc)) hb
theorem d_version_no {a : Int32} (h : noC a) : Ok l yX7_version cX7_version 2 (some .int) 2 0 0 [.ref 0, .int a] I L R 287 (eqP (some (.int (-2))) I L R 287) := by
  refine Ok.ofV [some (.ref 0), some (.int a)] rfl (by decide) (Nat.le_of_ble_eq_true rfl) ?_
  refine v_iload_n (pc' := 1) dX7_version_0 rfl rfl ?_
  refine v_cS1i (pc' := 4) dX7_version_1 rfl cs_X7_72 (Nat.le_of_ble_eq_true rfl) rfl (ok_isNoCache) ?_
  refine v_if_eq (pc' := 7) (tgt := 12) dX7_version_4 rfl (by decide) (fun hb => ?_) (fun hb => ?_)
  · exact absurd h (ite01.mp hb)
  · refine v_bipush (v := -2) (pc' := 9) dX7_version_7 rfl (by decide) ?_
    refine v_goto (tgt := 24) dX7_version_9 (by decide) ?_
    exact v_iret dX7_version_24 rfl (Nat.le_refl _) (Nat.le_refl _) ⟨rfl, rfl, rfl, rfl, rfl⟩
theorem d_version {c : Nat} (hR : RS R) (hc : c < 5) : Ok l yX7_version cX7_version 2 (some .int) 2 0 0 [.ref 0, .int (nI c)] I L R 287 (eqP (some (.int (I 0 (88 + 110 * c)))) I L R 287) := by
  have h05 : (0 : Nat) < 5 := by decide
  refine Ok.ofV [some (.ref 0), some (.int (nI c))] rfl (by decide) (Nat.le_of_ble_eq_true rfl) ?_
  refine v_iload_n (pc' := 1) dX7_version_0 rfl rfl ?_
  refine v_cS1i (pc' := 4) dX7_version_1 rfl cs_X7_72 (Nat.le_of_ble_eq_true rfl) rfl (ok_isNoCache) ?_
  refine v_if_eq (pc' := 7) (tgt := 12) dX7_version_4 rfl (by decide) (fun hb => ?_) (fun hb => ?_)
  · refine v_aload_n (pc' := 13) dX7_version_12 rfl rfl ?_
    refine v_getQ (pc' := 16) dX7_version_13 rfl gf_X7_15 kp_D rfl (rf_D_state hR) ?_
    refine v_getQ (pc' := 19) dX7_version_16 rfl gf_X7_76 (kp_T h05) rfl (rf_T_caches hR h05) ?_
    refine v_iload_n (pc' := 20) dX7_version_19 rfl rfl ?_
    refine v_aaloadQ (pc' := 21) dX7_version_20 rfl (kp_CA h05) rfl hc (rf_CA hR h05 hc) ?_
    refine v_gI (o := 88 + 110 * c) (pc' := 24) dX7_version_21 rfl gf_X7_190 (kp_C h05 hc) rfl (by omega) ?_
    exact v_iret dX7_version_24 rfl (Nat.le_refl _) (Nat.le_refl _) ⟨rfl, rfl, rfl, rfl, rfl⟩
  · exact absurd (ite01.mpr (ncC hc)) hb
theorem d_copy_no {a b w : Int32} (h : noC a ∨ noC b ∨ a = b) : Ok l yX7_copy cX7_copy 6 (some .int) 3 0 0 [.ref 0, .int a, .int b, .int w] I L R 287 (eqP (some (.int (pfE a b))) I L R 287) := by
  refine Ok.ofV [some (.ref 0), some (.int a), some (.int b), some (.int w), none, none] rfl (by decide) (Nat.le_of_ble_eq_true rfl) ?_
  refine v_iload_n (pc' := 1) dX7_copy_0 rfl rfl ?_
  refine v_iload_n (pc' := 2) dX7_copy_1 rfl rfl ?_
  refine v_cS2i (pc' := 5) dX7_copy_2 rfl cs_X7_89 (Nat.le_of_ble_eq_true rfl) rfl (ok_pf2 h) ?_
  refine v_istore4 (pc' := 7) dX7_copy_5 rfl (by decide) rfl ?_
  refine v_iload (pc' := 9) dX7_copy_7 rfl rfl ?_
  refine v_iconst (v := -1) (pc' := 10) dX7_copy_9 rfl (by decide) ?_
  refine v_icmp_eq (pc' := 13) (tgt := 16) dX7_copy_10 rfl (by decide) (fun hb => ?_) (fun hb => ?_)
  · exact absurd hb (pfE_ne a b)
  · refine v_iload (pc' := 15) dX7_copy_13 rfl rfl ?_
    exact v_iret dX7_copy_15 rfl (Nat.le_refl _) (Nat.le_refl _) ⟨rfl, rfl, rfl, rfl, rfl⟩
theorem d_copy_out {a b : Nat} {w : Int32} (hR : RS R) (ha : a < 5) (hb5 : b < 5) (hne : a ≠ b) (hw : w.toInt < 0 ∨ 4 < w.toInt) : Ok l yX7_copy cX7_copy 6 (some .int) 3 0 0 [.ref 0, .int (nI a), .int (nI b), .int w] I L R 287 (eqP (some (.int (-3))) I L R 287) := by
  have h05 : (0 : Nat) < 5 := by decide
  refine Ok.ofV [some (.ref 0), some (.int (nI a)), some (.int (nI b)), some (.int w), none, none] rfl (by decide) (Nat.le_of_ble_eq_true rfl) ?_
  refine v_iload_n (pc' := 1) dX7_copy_0 rfl rfl ?_
  refine v_iload_n (pc' := 2) dX7_copy_1 rfl rfl ?_
  refine v_cS2i (pc' := 5) dX7_copy_2 rfl cs_X7_89 (Nat.le_of_ble_eq_true rfl) rfl (ok_pf1 ha hb5 hne) ?_
  refine v_istore4 (pc' := 7) dX7_copy_5 rfl (by decide) rfl ?_
  refine v_iload (pc' := 9) dX7_copy_7 rfl rfl ?_
  refine v_iconst (v := -1) (pc' := 10) dX7_copy_9 rfl (by decide) ?_
  refine v_icmp_eq (pc' := 13) (tgt := 16) dX7_copy_10 rfl (by decide) (fun hb => ?_) (fun hb => ?_)
  · refine v_aload_n (pc' := 17) dX7_copy_16 rfl rfl ?_
    refine v_getQ (pc' := 20) dX7_copy_17 rfl gf_X7_15 kp_D rfl (rf_D_state hR) ?_
    refine v_getQ (pc' := 23) dX7_copy_20 rfl gf_X7_76 (kp_T h05) rfl (rf_T_caches hR h05) ?_
    refine v_iload_n (pc' := 24) dX7_copy_23 rfl rfl ?_
    refine v_aaloadQ (pc' := 25) dX7_copy_24 rfl (kp_CA h05) rfl ha (rf_CA hR h05 ha) ?_
    refine v_astore5 (pc' := 27) dX7_copy_25 rfl (by decide) rfl ?_
    refine v_iload_n (pc' := 28) dX7_copy_27 rfl rfl ?_
    refine v_tabOut (tgt := 136) dX7_copy_28 (hw) (by decide) ?_
    refine v_bipush (v := -3) (pc' := 138) dX7_copy_136 rfl (by decide) ?_
    exact v_iret dX7_copy_138 rfl (Nat.le_refl _) (Nat.le_refl _) ⟨rfl, rfl, rfl, rfl, rfl⟩
  · exact absurd rfl hb
theorem d_copy_0 {a b : Nat} (hR : RS R) (ha : a < 5) (hb5 : b < 5) (hne : a ≠ b) : Ok l yX7_copy cX7_copy 6 (some .int) 3 0 0 [.ref 0, .int (nI a), .int (nI b), .int (nI 0)] I L R 287 (eqP (some (.int (I 0 (106 + 110 * a + b)))) I L R 287) := by
  have h05 : (0 : Nat) < 5 := by decide
  refine Ok.ofV [some (.ref 0), some (.int (nI a)), some (.int (nI b)), some (.int (nI 0)), none, none] rfl (by decide) (Nat.le_of_ble_eq_true rfl) ?_
  refine v_iload_n (pc' := 1) dX7_copy_0 rfl rfl ?_
  refine v_iload_n (pc' := 2) dX7_copy_1 rfl rfl ?_
  refine v_cS2i (pc' := 5) dX7_copy_2 rfl cs_X7_89 (Nat.le_of_ble_eq_true rfl) rfl (ok_pf1 ha hb5 hne) ?_
  refine v_istore4 (pc' := 7) dX7_copy_5 rfl (by decide) rfl ?_
  refine v_iload (pc' := 9) dX7_copy_7 rfl rfl ?_
  refine v_iconst (v := -1) (pc' := 10) dX7_copy_9 rfl (by decide) ?_
  refine v_icmp_eq (pc' := 13) (tgt := 16) dX7_copy_10 rfl (by decide) (fun hb => ?_) (fun hb => ?_)
  · refine v_aload_n (pc' := 17) dX7_copy_16 rfl rfl ?_
    refine v_getQ (pc' := 20) dX7_copy_17 rfl gf_X7_15 kp_D rfl (rf_D_state hR) ?_
    refine v_getQ (pc' := 23) dX7_copy_20 rfl gf_X7_76 (kp_T h05) rfl (rf_T_caches hR h05) ?_
    refine v_iload_n (pc' := 24) dX7_copy_23 rfl rfl ?_
    refine v_aaloadQ (pc' := 25) dX7_copy_24 rfl (kp_CA h05) rfl ha (rf_CA hR h05 ha) ?_
    refine v_astore5 (pc' := 27) dX7_copy_25 rfl (by decide) rfl ?_
    refine v_iload_n (pc' := 28) dX7_copy_27 rfl rfl ?_
    refine v_tabIn (tgt := 64) dX7_copy_28 (by decide) (by decide) rfl (by decide) ?_
    refine v_aload (pc' := 66) dX7_copy_64 rfl rfl ?_
    refine v_getQ (pc' := 69) dX7_copy_66 rfl gf_X7_193 (kp_C h05 ha) rfl (rf_C_copyVersions hR h05 ha) ?_
    refine v_iload_n (pc' := 70) dX7_copy_69 rfl rfl ?_
    refine v_ial (pc' := 71) dX7_copy_70 rfl (kp_copyVersions h05 ha) rfl rfl (by omega) ?_
    exact v_iret dX7_copy_71 rfl (Nat.le_refl _) (Nat.le_refl _) ⟨rfl, rfl, rfl, rfl, rfl⟩
  · exact absurd rfl hb
theorem d_copy_1 {a b : Nat} (hR : RS R) (ha : a < 5) (hb5 : b < 5) (hne : a ≠ b) : Ok l yX7_copy cX7_copy 6 (some .int) 3 0 0 [.ref 0, .int (nI a), .int (nI b), .int (nI 1)] I L R 287 (eqP (some (.int (I 0 (111 + 110 * a + b)))) I L R 287) := by
  have h05 : (0 : Nat) < 5 := by decide
  refine Ok.ofV [some (.ref 0), some (.int (nI a)), some (.int (nI b)), some (.int (nI 1)), none, none] rfl (by decide) (Nat.le_of_ble_eq_true rfl) ?_
  refine v_iload_n (pc' := 1) dX7_copy_0 rfl rfl ?_
  refine v_iload_n (pc' := 2) dX7_copy_1 rfl rfl ?_
  refine v_cS2i (pc' := 5) dX7_copy_2 rfl cs_X7_89 (Nat.le_of_ble_eq_true rfl) rfl (ok_pf1 ha hb5 hne) ?_
  refine v_istore4 (pc' := 7) dX7_copy_5 rfl (by decide) rfl ?_
  refine v_iload (pc' := 9) dX7_copy_7 rfl rfl ?_
  refine v_iconst (v := -1) (pc' := 10) dX7_copy_9 rfl (by decide) ?_
  refine v_icmp_eq (pc' := 13) (tgt := 16) dX7_copy_10 rfl (by decide) (fun hb => ?_) (fun hb => ?_)
  · refine v_aload_n (pc' := 17) dX7_copy_16 rfl rfl ?_
    refine v_getQ (pc' := 20) dX7_copy_17 rfl gf_X7_15 kp_D rfl (rf_D_state hR) ?_
    refine v_getQ (pc' := 23) dX7_copy_20 rfl gf_X7_76 (kp_T h05) rfl (rf_T_caches hR h05) ?_
    refine v_iload_n (pc' := 24) dX7_copy_23 rfl rfl ?_
    refine v_aaloadQ (pc' := 25) dX7_copy_24 rfl (kp_CA h05) rfl ha (rf_CA hR h05 ha) ?_
    refine v_astore5 (pc' := 27) dX7_copy_25 rfl (by decide) rfl ?_
    refine v_iload_n (pc' := 28) dX7_copy_27 rfl rfl ?_
    refine v_tabIn (tgt := 72) dX7_copy_28 (by decide) (by decide) rfl (by decide) ?_
    refine v_aload (pc' := 74) dX7_copy_72 rfl rfl ?_
    refine v_getQ (pc' := 77) dX7_copy_74 rfl gf_X7_196 (kp_C h05 ha) rfl (rf_C_copyTimes hR h05 ha) ?_
    refine v_iload_n (pc' := 78) dX7_copy_77 rfl rfl ?_
    refine v_ial (pc' := 79) dX7_copy_78 rfl (kp_copyTimes h05 ha) rfl rfl (by omega) ?_
    exact v_iret dX7_copy_79 rfl (Nat.le_refl _) (Nat.le_refl _) ⟨rfl, rfl, rfl, rfl, rfl⟩
  · exact absurd rfl hb
theorem d_copy_2 {a b : Nat} (hR : RS R) (ha : a < 5) (hb5 : b < 5) (hne : a ≠ b) : Ok l yX7_copy cX7_copy 6 (some .int) 3 0 0 [.ref 0, .int (nI a), .int (nI b), .int (nI 2)] I L R 287 (eqP (some (.int (pcn (L 0 (5 + 5 * a + b)) 64))) I L R 287) := by
  have h05 : (0 : Nat) < 5 := by decide
  refine Ok.ofV [some (.ref 0), some (.int (nI a)), some (.int (nI b)), some (.int (nI 2)), none, none] rfl (by decide) (Nat.le_of_ble_eq_true rfl) ?_
  refine v_iload_n (pc' := 1) dX7_copy_0 rfl rfl ?_
  refine v_iload_n (pc' := 2) dX7_copy_1 rfl rfl ?_
  refine v_cS2i (pc' := 5) dX7_copy_2 rfl cs_X7_89 (Nat.le_of_ble_eq_true rfl) rfl (ok_pf1 ha hb5 hne) ?_
  refine v_istore4 (pc' := 7) dX7_copy_5 rfl (by decide) rfl ?_
  refine v_iload (pc' := 9) dX7_copy_7 rfl rfl ?_
  refine v_iconst (v := -1) (pc' := 10) dX7_copy_9 rfl (by decide) ?_
  refine v_icmp_eq (pc' := 13) (tgt := 16) dX7_copy_10 rfl (by decide) (fun hb => ?_) (fun hb => ?_)
  · refine v_aload_n (pc' := 17) dX7_copy_16 rfl rfl ?_
    refine v_getQ (pc' := 20) dX7_copy_17 rfl gf_X7_15 kp_D rfl (rf_D_state hR) ?_
    refine v_getQ (pc' := 23) dX7_copy_20 rfl gf_X7_76 (kp_T h05) rfl (rf_T_caches hR h05) ?_
    refine v_iload_n (pc' := 24) dX7_copy_23 rfl rfl ?_
    refine v_aaloadQ (pc' := 25) dX7_copy_24 rfl (kp_CA h05) rfl ha (rf_CA hR h05 ha) ?_
    refine v_astore5 (pc' := 27) dX7_copy_25 rfl (by decide) rfl ?_
    refine v_iload_n (pc' := 28) dX7_copy_27 rfl rfl ?_
    refine v_tabIn (tgt := 80) dX7_copy_28 (by decide) (by decide) rfl (by decide) ?_
    refine v_aload (pc' := 82) dX7_copy_80 rfl rfl ?_
    refine v_getQ (pc' := 85) dX7_copy_82 rfl gf_X7_199 (kp_C h05 ha) rfl (rf_C_copyMasks hR h05 ha) ?_
    refine v_iload_n (pc' := 86) dX7_copy_85 rfl rfl ?_
    refine v_lal (pc' := 87) dX7_copy_86 rfl (kp_copyMasks h05 ha) rfl rfl (by omega) ?_
    refine v_cS1i (pc' := 90) dX7_copy_87 rfl cs_X7_203 (Nat.le_of_ble_eq_true rfl) rfl (ok_bitCount) ?_
    exact v_iret dX7_copy_90 rfl (Nat.le_refl _) (Nat.le_refl _) ⟨rfl, rfl, rfl, rfl, rfl⟩
  · exact absurd rfl hb
theorem d_copy_3 {a b : Nat} (hR : RS R) (ha : a < 5) (hb5 : b < 5) (hne : a ≠ b) : Ok l yX7_copy cX7_copy 6 (some .int) 3 0 0 [.ref 0, .int (nI a), .int (nI b), .int (nI 3)] I L R 287 (eqP (some (.int (if rFr (I 0) a b then nI 1 else nI 0))) I L R 287) := by
  have h05 : (0 : Nat) < 5 := by decide
  refine Ok.ofV [some (.ref 0), some (.int (nI a)), some (.int (nI b)), some (.int (nI 3)), none, none] rfl (by decide) (Nat.le_of_ble_eq_true rfl) ?_
  refine v_iload_n (pc' := 1) dX7_copy_0 rfl rfl ?_
  refine v_iload_n (pc' := 2) dX7_copy_1 rfl rfl ?_
  refine v_cS2i (pc' := 5) dX7_copy_2 rfl cs_X7_89 (Nat.le_of_ble_eq_true rfl) rfl (ok_pf1 ha hb5 hne) ?_
  refine v_istore4 (pc' := 7) dX7_copy_5 rfl (by decide) rfl ?_
  refine v_iload (pc' := 9) dX7_copy_7 rfl rfl ?_
  refine v_iconst (v := -1) (pc' := 10) dX7_copy_9 rfl (by decide) ?_
  refine v_icmp_eq (pc' := 13) (tgt := 16) dX7_copy_10 rfl (by decide) (fun hb => ?_) (fun hb => ?_)
  · refine v_aload_n (pc' := 17) dX7_copy_16 rfl rfl ?_
    refine v_getQ (pc' := 20) dX7_copy_17 rfl gf_X7_15 kp_D rfl (rf_D_state hR) ?_
    refine v_getQ (pc' := 23) dX7_copy_20 rfl gf_X7_76 (kp_T h05) rfl (rf_T_caches hR h05) ?_
    refine v_iload_n (pc' := 24) dX7_copy_23 rfl rfl ?_
    refine v_aaloadQ (pc' := 25) dX7_copy_24 rfl (kp_CA h05) rfl ha (rf_CA hR h05 ha) ?_
    refine v_astore5 (pc' := 27) dX7_copy_25 rfl (by decide) rfl ?_
    refine v_iload_n (pc' := 28) dX7_copy_27 rfl rfl ?_
    refine v_tabIn (tgt := 91) dX7_copy_28 (by decide) (by decide) rfl (by decide) ?_
    refine v_aload_n (pc' := 92) dX7_copy_91 rfl rfl ?_
    refine v_getQ (pc' := 95) dX7_copy_92 rfl gf_X7_15 kp_D rfl (rf_D_state hR) ?_
    refine v_iload_n (pc' := 96) dX7_copy_95 rfl rfl ?_
    refine v_iload_n (pc' := 97) dX7_copy_96 rfl rfl ?_
    refine v_cV2i (pc' := 100) dX7_copy_97 rfl cv_X7_208 (kp_T h05) (Nat.le_of_ble_eq_true rfl) rfl (ok_isFresh hR h05 ha hb5) ?_
    refine v_if_eq (pc' := 103) (tgt := 107) dX7_copy_100 rfl (by decide) (fun hq => ?_) (fun hq => ?_)
    · refine v_iconst (v := nI 0) (pc' := 108) dX7_copy_107 rfl (by decide) ?_
      exact v_iret dX7_copy_108 rfl (Nat.le_refl _) (Nat.le_refl _) ⟨by rw [if_neg (ite01.mp hq)], rfl, rfl, rfl, rfl⟩
    · refine v_iconst (v := nI 1) (pc' := 104) dX7_copy_103 rfl (by decide) ?_
      refine v_goto (tgt := 108) dX7_copy_104 (by decide) ?_
      exact v_iret dX7_copy_108 rfl (Nat.le_refl _) (Nat.le_refl _) ⟨by rw [if_pos (Classical.not_not.mp (fun z => hq (ite01.mpr z)))], rfl, rfl, rfl, rfl⟩
  · exact absurd rfl hb
theorem d_copy_4 {a b : Nat} (hR : RS R) (hI : Inv (I 0)) (ha : a < 5) (hb5 : b < 5) (hne : a ≠ b) : Ok l yX7_copy cX7_copy 6 (some .int) 3 0 0 [.ref 0, .int (nI a), .int (nI b), .int (nI 4)] I L R 287 (eqP (some (.int (pcn (L 0 (5 + 5 * a + b) ^^^ rBits b (I 0)) 64))) I L R 287) := by
  have h05 : (0 : Nat) < 5 := by decide
  obtain ⟨m1, m2, m3, m4, m5, m6⟩ := hI.1
  refine Ok.ofV [some (.ref 0), some (.int (nI a)), some (.int (nI b)), some (.int (nI 4)), none, none] rfl (by decide) (Nat.le_of_ble_eq_true rfl) ?_
  refine v_iload_n (pc' := 1) dX7_copy_0 rfl rfl ?_
  refine v_iload_n (pc' := 2) dX7_copy_1 rfl rfl ?_
  refine v_cS2i (pc' := 5) dX7_copy_2 rfl cs_X7_89 (Nat.le_of_ble_eq_true rfl) rfl (ok_pf1 ha hb5 hne) ?_
  refine v_istore4 (pc' := 7) dX7_copy_5 rfl (by decide) rfl ?_
  refine v_iload (pc' := 9) dX7_copy_7 rfl rfl ?_
  refine v_iconst (v := -1) (pc' := 10) dX7_copy_9 rfl (by decide) ?_
  refine v_icmp_eq (pc' := 13) (tgt := 16) dX7_copy_10 rfl (by decide) (fun hb => ?_) (fun hb => ?_)
  · refine v_aload_n (pc' := 17) dX7_copy_16 rfl rfl ?_
    refine v_getQ (pc' := 20) dX7_copy_17 rfl gf_X7_15 kp_D rfl (rf_D_state hR) ?_
    refine v_getQ (pc' := 23) dX7_copy_20 rfl gf_X7_76 (kp_T h05) rfl (rf_T_caches hR h05) ?_
    refine v_iload_n (pc' := 24) dX7_copy_23 rfl rfl ?_
    refine v_aaloadQ (pc' := 25) dX7_copy_24 rfl (kp_CA h05) rfl ha (rf_CA hR h05 ha) ?_
    refine v_astore5 (pc' := 27) dX7_copy_25 rfl (by decide) rfl ?_
    refine v_iload_n (pc' := 28) dX7_copy_27 rfl rfl ?_
    refine v_tabIn (tgt := 109) dX7_copy_28 (by decide) (by decide) rfl (by decide) ?_
    refine v_aload (pc' := 111) dX7_copy_109 rfl rfl ?_
    refine v_getQ (pc' := 114) dX7_copy_111 rfl gf_X7_199 (kp_C h05 ha) rfl (rf_C_copyMasks hR h05 ha) ?_
    refine v_iload_n (pc' := 115) dX7_copy_114 rfl rfl ?_
    refine v_lal (pc' := 116) dX7_copy_115 rfl (kp_copyMasks h05 ha) rfl rfl (by omega) ?_
    refine v_aload_n (pc' := 117) dX7_copy_116 rfl rfl ?_
    refine v_getQ (pc' := 120) dX7_copy_117 rfl gf_X7_15 kp_D rfl (rf_D_state hR) ?_
    refine v_getQ (pc' := 123) dX7_copy_120 rfl gf_X7_76 (kp_T h05) rfl (rf_T_caches hR h05) ?_
    refine v_iload_n (pc' := 124) dX7_copy_123 rfl rfl ?_
    refine v_aaloadQ (pc' := 125) dX7_copy_124 rfl (kp_CA h05) rfl hb5 (rf_CA hR h05 hb5) ?_
    refine v_getQ (pc' := 128) dX7_copy_125 rfl gf_X7_129 (kp_C h05 hb5) rfl (rf_C_filter hR h05 hb5) ?_
    refine v_cV0l (pc' := 131) dX7_copy_128 rfl cv_X7_164 (kp_F h05 hb5) (Nat.le_of_ble_eq_true rfl) rfl (ok_bits hR h05 hb5 m1 m3) ?_
    refine v_lxor (pc' := 132) dX7_copy_131 rfl ?_
    refine v_cS1i (pc' := 135) dX7_copy_132 rfl cs_X7_203 (Nat.le_of_ble_eq_true rfl) rfl (ok_bitCount) ?_
    exact v_iret dX7_copy_135 rfl (Nat.le_refl _) (Nat.le_refl _) ⟨rfl, rfl, rfl, rfl, rfl⟩
  · exact absurd rfl hb
theorem d_mask_no {a b : Int32} (h : noC a ∨ noC b ∨ a = b) : Ok l yX7_mask cX7_mask 4 (some .long) 3 0 0 [.ref 0, .int a, .int b] I L R 287 (eqP (some (.long (pfE a b).toInt64)) I L R 287) := by
  refine Ok.ofV [some (.ref 0), some (.int a), some (.int b), none] rfl (by decide) (Nat.le_of_ble_eq_true rfl) ?_
  refine v_iload_n (pc' := 1) dX7_mask_0 rfl rfl ?_
  refine v_iload_n (pc' := 2) dX7_mask_1 rfl rfl ?_
  refine v_cS2i (pc' := 5) dX7_mask_2 rfl cs_X7_89 (Nat.le_of_ble_eq_true rfl) rfl (ok_pf2 h) ?_
  refine v_istore_n3 (pc' := 6) dX7_mask_5 rfl (by decide) rfl ?_
  refine v_iload_n (pc' := 7) dX7_mask_6 rfl rfl ?_
  refine v_iconst (v := -1) (pc' := 8) dX7_mask_7 rfl (by decide) ?_
  refine v_icmp_eq (pc' := 11) (tgt := 16) dX7_mask_8 rfl (by decide) (fun hb => ?_) (fun hb => ?_)
  · exact absurd hb (pfE_ne a b)
  · refine v_iload_n (pc' := 12) dX7_mask_11 rfl rfl ?_
    refine v_i2l (pc' := 13) dX7_mask_12 rfl ?_
    refine v_goto (tgt := 30) dX7_mask_13 (by decide) ?_
    exact v_lret dX7_mask_30 rfl (Nat.le_refl _) (Nat.le_refl _) ⟨rfl, rfl, rfl, rfl, rfl⟩
theorem d_mask {a b : Nat} (hR : RS R) (ha : a < 5) (hb5 : b < 5) (hne : a ≠ b) : Ok l yX7_mask cX7_mask 4 (some .long) 3 0 0 [.ref 0, .int (nI a), .int (nI b)] I L R 287 (eqP (some (.long (L 0 (5 + 5 * a + b)))) I L R 287) := by
  have h05 : (0 : Nat) < 5 := by decide
  refine Ok.ofV [some (.ref 0), some (.int (nI a)), some (.int (nI b)), none] rfl (by decide) (Nat.le_of_ble_eq_true rfl) ?_
  refine v_iload_n (pc' := 1) dX7_mask_0 rfl rfl ?_
  refine v_iload_n (pc' := 2) dX7_mask_1 rfl rfl ?_
  refine v_cS2i (pc' := 5) dX7_mask_2 rfl cs_X7_89 (Nat.le_of_ble_eq_true rfl) rfl (ok_pf1 ha hb5 hne) ?_
  refine v_istore_n3 (pc' := 6) dX7_mask_5 rfl (by decide) rfl ?_
  refine v_iload_n (pc' := 7) dX7_mask_6 rfl rfl ?_
  refine v_iconst (v := -1) (pc' := 8) dX7_mask_7 rfl (by decide) ?_
  refine v_icmp_eq (pc' := 11) (tgt := 16) dX7_mask_8 rfl (by decide) (fun hb => ?_) (fun hb => ?_)
  · refine v_aload_n (pc' := 17) dX7_mask_16 rfl rfl ?_
    refine v_getQ (pc' := 20) dX7_mask_17 rfl gf_X7_15 kp_D rfl (rf_D_state hR) ?_
    refine v_getQ (pc' := 23) dX7_mask_20 rfl gf_X7_76 (kp_T h05) rfl (rf_T_caches hR h05) ?_
    refine v_iload_n (pc' := 24) dX7_mask_23 rfl rfl ?_
    refine v_aaloadQ (pc' := 25) dX7_mask_24 rfl (kp_CA h05) rfl ha (rf_CA hR h05 ha) ?_
    refine v_getQ (pc' := 28) dX7_mask_25 rfl gf_X7_199 (kp_C h05 ha) rfl (rf_C_copyMasks hR h05 ha) ?_
    refine v_iload_n (pc' := 29) dX7_mask_28 rfl rfl ?_
    refine v_lal (pc' := 30) dX7_mask_29 rfl (kp_copyMasks h05 ha) rfl rfl (by omega) ?_
    exact v_lret dX7_mask_30 rfl (Nat.le_refl _) (Nat.le_refl _) ⟨rfl, rfl, rfl, rfl, rfl⟩
  · exact absurd rfl hb
theorem d_expects_no1 {a b x : Int32} (h : noC a ∨ noC b ∨ a = b) : Ok l yX7_expects cX7_expects 5 (some .int) 3 0 0 [.ref 0, .int a, .int b, .int x] I L R 287 (eqP (some (.int (pfE a b))) I L R 287) := by
  refine Ok.ofV [some (.ref 0), some (.int a), some (.int b), some (.int x), none] rfl (by decide) (Nat.le_of_ble_eq_true rfl) ?_
  refine v_iload_n (pc' := 1) dX7_expects_0 rfl rfl ?_
  refine v_iload_n (pc' := 2) dX7_expects_1 rfl rfl ?_
  refine v_cS2i (pc' := 5) dX7_expects_2 rfl cs_X7_89 (Nat.le_of_ble_eq_true rfl) rfl (ok_pf2 h) ?_
  refine v_istore4 (pc' := 7) dX7_expects_5 rfl (by decide) rfl ?_
  refine v_iload (pc' := 9) dX7_expects_7 rfl rfl ?_
  refine v_iconst (v := -1) (pc' := 10) dX7_expects_9 rfl (by decide) ?_
  refine v_icmp_eq (pc' := 13) (tgt := 16) dX7_expects_10 rfl (by decide) (fun hb => ?_) (fun hb => ?_)
  · exact absurd hb (pfE_ne a b)
  · refine v_iload (pc' := 15) dX7_expects_13 rfl rfl ?_
    exact v_iret dX7_expects_15 rfl (Nat.le_refl _) (Nat.le_refl _) ⟨rfl, rfl, rfl, rfl, rfl⟩
theorem d_expects_no2 {a b : Nat} {x : Int32} (ha : a < 5) (hb5 : b < 5) (hne : a ≠ b) (h : noO x) : Ok l yX7_expects cX7_expects 5 (some .int) 3 0 0 [.ref 0, .int (nI a), .int (nI b), .int x] I L R 287 (eqP (some (.int (-3))) I L R 287) := by
  refine Ok.ofV [some (.ref 0), some (.int (nI a)), some (.int (nI b)), some (.int x), none] rfl (by decide) (Nat.le_of_ble_eq_true rfl) ?_
  refine v_iload_n (pc' := 1) dX7_expects_0 rfl rfl ?_
  refine v_iload_n (pc' := 2) dX7_expects_1 rfl rfl ?_
  refine v_cS2i (pc' := 5) dX7_expects_2 rfl cs_X7_89 (Nat.le_of_ble_eq_true rfl) rfl (ok_pf1 ha hb5 hne) ?_
  refine v_istore4 (pc' := 7) dX7_expects_5 rfl (by decide) rfl ?_
  refine v_iload (pc' := 9) dX7_expects_7 rfl rfl ?_
  refine v_iconst (v := -1) (pc' := 10) dX7_expects_9 rfl (by decide) ?_
  refine v_icmp_eq (pc' := 13) (tgt := 16) dX7_expects_10 rfl (by decide) (fun hb => ?_) (fun hb => ?_)
  · refine v_iload_n (pc' := 17) dX7_expects_16 rfl rfl ?_
    refine v_cS1i (pc' := 20) dX7_expects_17 rfl cs_X7_155 (Nat.le_of_ble_eq_true rfl) rfl (ok_isNoObject) ?_
    refine v_if_eq (pc' := 23) (tgt := 26) dX7_expects_20 rfl (by decide) (fun hq => ?_) (fun hq => ?_)
    · exact absurd h (ite01.mp hq)
    · refine v_bipush (v := -3) (pc' := 25) dX7_expects_23 rfl (by decide) ?_
      exact v_iret dX7_expects_25 rfl (Nat.le_refl _) (Nat.le_refl _) ⟨rfl, rfl, rfl, rfl, rfl⟩
  · exact absurd rfl hb
theorem d_expects {a b x : Nat} (hR : RS R) (hI : Inv (I 0)) (ha : a < 5) (hb5 : b < 5) (hne : a ≠ b) (hx : x < 1000) : Ok l yX7_expects cX7_expects 5 (some .int) 3 0 0 [.ref 0, .int (nI a), .int (nI b), .int (nI x)] I L R 287 (eqP (some (.int (if rEx (I 0) (L 0) a b x then nI 1 else nI 0))) I L R 287) := by
  have h05 : (0 : Nat) < 5 := by decide
  refine Ok.ofV [some (.ref 0), some (.int (nI a)), some (.int (nI b)), some (.int (nI x)), none] rfl (by decide) (Nat.le_of_ble_eq_true rfl) ?_
  refine v_iload_n (pc' := 1) dX7_expects_0 rfl rfl ?_
  refine v_iload_n (pc' := 2) dX7_expects_1 rfl rfl ?_
  refine v_cS2i (pc' := 5) dX7_expects_2 rfl cs_X7_89 (Nat.le_of_ble_eq_true rfl) rfl (ok_pf1 ha hb5 hne) ?_
  refine v_istore4 (pc' := 7) dX7_expects_5 rfl (by decide) rfl ?_
  refine v_iload (pc' := 9) dX7_expects_7 rfl rfl ?_
  refine v_iconst (v := -1) (pc' := 10) dX7_expects_9 rfl (by decide) ?_
  refine v_icmp_eq (pc' := 13) (tgt := 16) dX7_expects_10 rfl (by decide) (fun hb => ?_) (fun hb => ?_)
  · refine v_iload_n (pc' := 17) dX7_expects_16 rfl rfl ?_
    refine v_cS1i (pc' := 20) dX7_expects_17 rfl cs_X7_155 (Nat.le_of_ble_eq_true rfl) rfl (ok_isNoObject) ?_
    refine v_if_eq (pc' := 23) (tgt := 26) dX7_expects_20 rfl (by decide) (fun hq => ?_) (fun hq => ?_)
    · refine v_aload_n (pc' := 27) dX7_expects_26 rfl rfl ?_
      refine v_getQ (pc' := 30) dX7_expects_27 rfl gf_X7_15 kp_D rfl (rf_D_state hR) ?_
      refine v_iload_n (pc' := 31) dX7_expects_30 rfl rfl ?_
      refine v_iload_n (pc' := 32) dX7_expects_31 rfl rfl ?_
      refine v_iload_n (pc' := 33) dX7_expects_32 rfl rfl ?_
      refine v_cV3i (pc' := 36) dX7_expects_33 rfl cv_X7_212 (kp_T h05) (Nat.le_of_ble_eq_true rfl) rfl (ok_isExpected hR h05 ha hb5 hx hI.1) ?_
      refine v_if_eq (pc' := 39) (tgt := 43) dX7_expects_36 rfl (by decide) (fun hz => ?_) (fun hz => ?_)
      · refine v_iconst (v := nI 0) (pc' := 44) dX7_expects_43 rfl (by decide) ?_
        exact v_iret dX7_expects_44 rfl (Nat.le_refl _) (Nat.le_refl _) ⟨by rw [if_neg (ite01.mp hz)], rfl, rfl, rfl, rfl⟩
      · refine v_iconst (v := nI 1) (pc' := 40) dX7_expects_39 rfl (by decide) ?_
        refine v_goto (tgt := 44) dX7_expects_40 (by decide) ?_
        exact v_iret dX7_expects_44 rfl (Nat.le_refl _) (Nat.le_refl _) ⟨by rw [if_pos (Classical.not_not.mp (fun z => hz (ite01.mpr z)))], rfl, rfl, rfl, rfl⟩
    · exact absurd (ite01.mpr (ncO hx)) hq
  · exact absurd rfl hb
theorem d_count_no1 {a b : Int32} (h : noC a) : Ok l yX7_count cX7_count 3 (some .int) 2 0 0 [.ref 0, .int a, .int b] I L R 287 (eqP (some (.int (-2))) I L R 287) := by
  refine Ok.ofV [some (.ref 0), some (.int a), some (.int b)] rfl (by decide) (Nat.le_of_ble_eq_true rfl) ?_
  refine v_iload_n (pc' := 1) dX7_count_0 rfl rfl ?_
  refine v_cS1i (pc' := 4) dX7_count_1 rfl cs_X7_72 (Nat.le_of_ble_eq_true rfl) rfl (ok_isNoCache) ?_
  refine v_if_eq (pc' := 7) (tgt := 10) dX7_count_4 rfl (by decide) (fun hb => ?_) (fun hb => ?_)
  · exact absurd h (ite01.mp hb)
  · refine v_bipush (v := -2) (pc' := 9) dX7_count_7 rfl (by decide) ?_
    exact v_iret dX7_count_9 rfl (Nat.le_refl _) (Nat.le_refl _) ⟨rfl, rfl, rfl, rfl, rfl⟩
theorem d_count_no2 {c : Nat} {b : Int32} (hc : c < 5) (h : b < nI 0 ∨ nI 6 < b) : Ok l yX7_count cX7_count 3 (some .int) 2 0 0 [.ref 0, .int (nI c), .int b] I L R 287 (eqP (some (.int (-3))) I L R 287) := by
  refine Ok.ofV [some (.ref 0), some (.int (nI c)), some (.int b)] rfl (by decide) (Nat.le_of_ble_eq_true rfl) ?_
  refine v_iload_n (pc' := 1) dX7_count_0 rfl rfl ?_
  refine v_cS1i (pc' := 4) dX7_count_1 rfl cs_X7_72 (Nat.le_of_ble_eq_true rfl) rfl (ok_isNoCache) ?_
  refine v_if_eq (pc' := 7) (tgt := 10) dX7_count_4 rfl (by decide) (fun hb => ?_) (fun hb => ?_)
  · refine v_iload_n (pc' := 11) dX7_count_10 rfl rfl ?_
    refine v_iconst (v := nI 0) (pc' := 12) dX7_count_11 rfl (by decide) ?_
    refine v_bipush (v := nI 6) (pc' := 14) dX7_count_12 rfl (by decide) ?_
    refine v_cS3i (pc' := 17) dX7_count_14 rfl cs_X7_53 (Nat.le_of_ble_eq_true rfl) rfl (ok_isOutside) ?_
    refine v_if_eq (pc' := 20) (tgt := 23) dX7_count_17 rfl (by decide) (fun hq => ?_) (fun hq => ?_)
    · exact absurd h (ite01.mp hq)
    · refine v_bipush (v := -3) (pc' := 22) dX7_count_20 rfl (by decide) ?_
      exact v_iret dX7_count_22 rfl (Nat.le_refl _) (Nat.le_refl _) ⟨rfl, rfl, rfl, rfl, rfl⟩
  · exact absurd (ite01.mpr (ncC hc)) hb
theorem d_count {c w : Nat} (hR : RS R) (hc : c < 5) (hw : w ≤ 6) : Ok l yX7_count cX7_count 3 (some .int) 2 0 0 [.ref 0, .int (nI c), .int (nI w)] I L R 287 (eqP (some (.int (I 0 (89 + 110 * c + w)))) I L R 287) := by
  have h05 : (0 : Nat) < 5 := by decide
  refine Ok.ofV [some (.ref 0), some (.int (nI c)), some (.int (nI w))] rfl (by decide) (Nat.le_of_ble_eq_true rfl) ?_
  refine v_iload_n (pc' := 1) dX7_count_0 rfl rfl ?_
  refine v_cS1i (pc' := 4) dX7_count_1 rfl cs_X7_72 (Nat.le_of_ble_eq_true rfl) rfl (ok_isNoCache) ?_
  refine v_if_eq (pc' := 7) (tgt := 10) dX7_count_4 rfl (by decide) (fun hb => ?_) (fun hb => ?_)
  · refine v_iload_n (pc' := 11) dX7_count_10 rfl rfl ?_
    refine v_iconst (v := nI 0) (pc' := 12) dX7_count_11 rfl (by decide) ?_
    refine v_bipush (v := nI 6) (pc' := 14) dX7_count_12 rfl (by decide) ?_
    refine v_cS3i (pc' := 17) dX7_count_14 rfl cs_X7_53 (Nat.le_of_ble_eq_true rfl) rfl (ok_isOutside) ?_
    refine v_if_eq (pc' := 20) (tgt := 23) dX7_count_17 rfl (by decide) (fun hq => ?_) (fun hq => ?_)
    · refine v_aload_n (pc' := 24) dX7_count_23 rfl rfl ?_
      refine v_getQ (pc' := 27) dX7_count_24 rfl gf_X7_15 kp_D rfl (rf_D_state hR) ?_
      refine v_getQ (pc' := 30) dX7_count_27 rfl gf_X7_76 (kp_T h05) rfl (rf_T_caches hR h05) ?_
      refine v_iload_n (pc' := 31) dX7_count_30 rfl rfl ?_
      refine v_aaloadQ (pc' := 32) dX7_count_31 rfl (kp_CA h05) rfl hc (rf_CA hR h05 hc) ?_
      refine v_getQ (pc' := 35) dX7_count_32 rfl gf_X7_225 (kp_C h05 hc) rfl (rf_C_tallies hR h05 hc) ?_
      refine v_iload_n (pc' := 36) dX7_count_35 rfl rfl ?_
      refine v_ial (pc' := 37) dX7_count_36 rfl (kp_tallies h05 hc) rfl rfl (by omega) ?_
      exact v_iret dX7_count_37 rfl (Nat.le_refl _) (Nat.le_refl _) ⟨rfl, rfl, rfl, rfl, rfl⟩
    · exact absurd (ite01.mpr (inr (Nat.zero_le _) hw (by decide))) hq
  · exact absurd (ite01.mpr (ncC hc)) hb
theorem d_digest {ta : Int64} (hR : RS R) (hI : Inv (I 0)) (hta : rHash (I 0) (L 0) = ta) : Ok l yX7_digest cX7_digest 1 (some .long) 2 0 0 [.ref 0] I L R 287 (eqP (some (.long ta)) I L R 287) := by
  have h05 : (0 : Nat) < 5 := by decide
  have hh := ok_hash (l := l) (L := L) hR h05 hI.1 (fun c hc => (hI.2.1 c hc).1)
  rw [hta] at hh
  refine Ok.ofV [some (.ref 0)] rfl (by decide) (Nat.le_of_ble_eq_true rfl) ?_
  refine v_aload_n (pc' := 1) dX7_digest_0 rfl rfl ?_
  refine v_getQ (pc' := 4) dX7_digest_1 rfl gf_X7_15 kp_D rfl (rf_D_state hR) ?_
  refine v_cV0l (pc' := 7) dX7_digest_4 rfl cv_X7_257 (kp_T h05) (Nat.le_of_ble_eq_true rfl) rfl (hh) ?_
  exact v_lret dX7_digest_7 rfl (Nat.le_refl _) (Nat.le_refl _) ⟨rfl, rfl, rfl, rfl, rfl⟩
end B26
