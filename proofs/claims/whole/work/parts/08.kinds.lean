/-! ===== the places: kinds and references ===== -/
theorem all55 (f : Nat → Nat → Bool) (h : ((List.range 5).all fun s => (List.range 5).all fun c => f s c) = true) : ∀ s, s < 5 → ∀ c, c < 5 → f s c = true := fun s hs c hc => List.all_eq_true.mp (List.all_eq_true.mp h s (List.mem_range.mpr hs)) c (List.mem_range.mpr hc)
def R0S (bb o j : Nat) : Option Nat :=
  if o = 0 then (if j = 0 then some (bb + 1) else if j = 1 then some (bb + 2) else none) else if o = 1 then none else
  if o = 2 then (if j < 5 then some (bb + (3 + 10 * j)) else none) else
  if (o - 3) % 10 = 0 then (if j = 0 then some (bb + 1) else if j = 1 then some (bb + o + 8) else if j = 2 then some (bb + o + 1) else if j = 7 then some (bb + o + 2) else if j = 8 then some (bb + o + 3) else if j = 9 then some (bb + o + 4) else if j = 10 then some (bb + o + 5) else if j = 11 then some (bb + o + 6) else if j = 12 then some (bb + o + 7) else none) else
  if (o - 3) % 10 = 8 then (if j = 0 then some (bb + 1) else if j = 1 then some (bb + o + 1) else none) else none
def R0 (p j : Nat) : Option Nat :=
  if p = 0 then (if j = 0 then some 1 else if j = 1 then some 54 else if j = 2 then some 268 else if j = 3 then some 272 else if j = 4 then some 274 else if j = 5 then some 276 else if j = 6 then some 277 else none)
  else if p < 54 then R0S 1 (p - 1) j else if p = 54 then (if j = 0 then some 55 else none) else if p = 55 then none
  else if p < 268 then R0S (56 + 53 * ((p - 56) / 53)) ((p - 56) % 53) j
  else if p = 268 then (if j = 0 then some 269 else if j = 2 then some 270 else if j = 3 then some 271 else none)
  else if p = 272 then (if j = 0 then some 273 else none) else if p = 274 then (if j = 0 then some 275 else none)
  else if p = 278 then (if j = 0 then some 279 else if j = 1 then some 280 else if j = 3 then some 281 else if j = 4 then some 282 else if j = 5 then some 283 else if j = 6 then some 284 else if j = 10 then some 285 else if j = 11 then some 286 else none)
  else none
/-- the references of the whole system, but for the row of the history's states -/
def RS (R : MR) : Prop := ∀ p j, p < 287 → p ≠ 55 → R p j = R0 p j
theorem RS_of {R : MR} (h : RS R) {p j q : Nat} (hq : R0 p j = some q ∧ q < 1000 ∧ p < 287 ∧ p ≠ 55) : R p j = some q ∧ q < 1000 := ⟨(h p j hq.2.2.1 hq.2.2.2).trans hq.1, hq.2.1⟩
theorem RS_up {R : MR} {i : Nat} {v : Option Nat} (h : RS R) : RS (stR R 55 i v) := fun p j h1 h2 => (stR_ne (fun q => h2 q.1)).trans (h p j h1 h2)
section KROWS
variable {s c : Nat}
theorem kq_T : ∀ s, s < 5 → kd (pb s) = (4, s, 0, 0, 0) ∧ pb s < 287 := by decide +kernel
theorem kp_T (hs : s < 5) : KP 287 (pb s) (4, s, 0, 0, 0) := ⟨(kq_T s hs).1, (kq_T s hs).2, by have := (kq_T s hs).2; omega, Nat.le_of_ble_eq_true rfl⟩
theorem kq_S : ∀ s, s < 5 → kd (pb s + 1) = (3, s, 0, 0, 0) ∧ pb s + 1 < 287 := by decide +kernel
theorem kp_S (hs : s < 5) : KP 287 (pb s + 1) (3, s, 0, 0, 0) := ⟨(kq_S s hs).1, (kq_S s hs).2, by have := (kq_S s hs).2; omega, Nat.le_of_ble_eq_true rfl⟩
theorem kq_CA : ∀ s, s < 5 → kd (pb s + 2) = (11, s, 0, 0, 5) ∧ pb s + 2 < 287 := by decide +kernel
theorem kp_CA (hs : s < 5) : KP 287 (pb s + 2) (11, s, 0, 0, 5) := ⟨(kq_CA s hs).1, (kq_CA s hs).2, by have := (kq_CA s hs).2; omega, Nat.le_of_ble_eq_true rfl⟩
theorem kq_C : ∀ s, s < 5 → ∀ c, c < 5 → kd (pq s c) = (0, s, 6 + 110 * c, c, 0) ∧ pq s c < 287 := fun s hs c hc => of_decide_eq_true (all55 (fun s c => decide (kd (pq s c) = (0, s, 6 + 110 * c, c, 0) ∧ pq s c < 287)) (by decide +kernel) s hs c hc)
theorem kp_C (hs : s < 5) (hc : c < 5) : KP 287 (pq s c) (0, s, 6 + 110 * c, c, 0) := ⟨(kq_C s hs c hc).1, (kq_C s hs c hc).2, by have := (kq_C s hs c hc).2; omega, Nat.le_of_ble_eq_true rfl⟩
theorem kq_objects : ∀ s, s < 5 → ∀ c, c < 5 → kd (pq s c + 1) = (9, s, 8 + 110 * c, 0, 16) ∧ pq s c + 1 < 287 := fun s hs c hc => of_decide_eq_true (all55 (fun s c => decide (kd (pq s c + 1) = (9, s, 8 + 110 * c, 0, 16) ∧ pq s c + 1 < 287)) (by decide +kernel) s hs c hc)
theorem kp_objects (hs : s < 5) (hc : c < 5) : KP 287 (pq s c + 1) (9, s, 8 + 110 * c, 0, 16) := ⟨(kq_objects s hs c hc).1, (kq_objects s hs c hc).2, by have := (kq_objects s hs c hc).2; omega, Nat.le_of_ble_eq_true rfl⟩
theorem kq_tallies : ∀ s, s < 5 → ∀ c, c < 5 → kd (pq s c + 2) = (9, s, 89 + 110 * c, 0, 7) ∧ pq s c + 2 < 287 := fun s hs c hc => of_decide_eq_true (all55 (fun s c => decide (kd (pq s c + 2) = (9, s, 89 + 110 * c, 0, 7) ∧ pq s c + 2 < 287)) (by decide +kernel) s hs c hc)
theorem kp_tallies (hs : s < 5) (hc : c < 5) : KP 287 (pq s c + 2) (9, s, 89 + 110 * c, 0, 7) := ⟨(kq_tallies s hs c hc).1, (kq_tallies s hs c hc).2, by have := (kq_tallies s hs c hc).2; omega, Nat.le_of_ble_eq_true rfl⟩
theorem kq_copyMasks : ∀ s, s < 5 → ∀ c, c < 5 → kd (pq s c + 3) = (10, s, 5 + 5 * c, 0, 5) ∧ pq s c + 3 < 287 := fun s hs c hc => of_decide_eq_true (all55 (fun s c => decide (kd (pq s c + 3) = (10, s, 5 + 5 * c, 0, 5) ∧ pq s c + 3 < 287)) (by decide +kernel) s hs c hc)
theorem kp_copyMasks (hs : s < 5) (hc : c < 5) : KP 287 (pq s c + 3) (10, s, 5 + 5 * c, 0, 5) := ⟨(kq_copyMasks s hs c hc).1, (kq_copyMasks s hs c hc).2, by have := (kq_copyMasks s hs c hc).2; omega, Nat.le_of_ble_eq_true rfl⟩
theorem kq_copyVersions : ∀ s, s < 5 → ∀ c, c < 5 → kd (pq s c + 4) = (9, s, 106 + 110 * c, 0, 5) ∧ pq s c + 4 < 287 := fun s hs c hc => of_decide_eq_true (all55 (fun s c => decide (kd (pq s c + 4) = (9, s, 106 + 110 * c, 0, 5) ∧ pq s c + 4 < 287)) (by decide +kernel) s hs c hc)
theorem kp_copyVersions (hs : s < 5) (hc : c < 5) : KP 287 (pq s c + 4) (9, s, 106 + 110 * c, 0, 5) := ⟨(kq_copyVersions s hs c hc).1, (kq_copyVersions s hs c hc).2, by have := (kq_copyVersions s hs c hc).2; omega, Nat.le_of_ble_eq_true rfl⟩
theorem kq_copyTimes : ∀ s, s < 5 → ∀ c, c < 5 → kd (pq s c + 5) = (9, s, 111 + 110 * c, 0, 5) ∧ pq s c + 5 < 287 := fun s hs c hc => of_decide_eq_true (all55 (fun s c => decide (kd (pq s c + 5) = (9, s, 111 + 110 * c, 0, 5) ∧ pq s c + 5 < 287)) (by decide +kernel) s hs c hc)
theorem kp_copyTimes (hs : s < 5) (hc : c < 5) : KP 287 (pq s c + 5) (9, s, 111 + 110 * c, 0, 5) := ⟨(kq_copyTimes s hs c hc).1, (kq_copyTimes s hs c hc).2, by have := (kq_copyTimes s hs c hc).2; omega, Nat.le_of_ble_eq_true rfl⟩
theorem kq_links : ∀ s, s < 5 → ∀ c, c < 5 → kd (pq s c + 6) = (9, s, 96 + 110 * c, 0, 5) ∧ pq s c + 6 < 287 := fun s hs c hc => of_decide_eq_true (all55 (fun s c => decide (kd (pq s c + 6) = (9, s, 96 + 110 * c, 0, 5) ∧ pq s c + 6 < 287)) (by decide +kernel) s hs c hc)
theorem kp_links (hs : s < 5) (hc : c < 5) : KP 287 (pq s c + 6) (9, s, 96 + 110 * c, 0, 5) := ⟨(kq_links s hs c hc).1, (kq_links s hs c hc).2, by have := (kq_links s hs c hc).2; omega, Nat.le_of_ble_eq_true rfl⟩
theorem kq_distances : ∀ s, s < 5 → ∀ c, c < 5 → kd (pq s c + 7) = (9, s, 101 + 110 * c, 0, 5) ∧ pq s c + 7 < 287 := fun s hs c hc => of_decide_eq_true (all55 (fun s c => decide (kd (pq s c + 7) = (9, s, 101 + 110 * c, 0, 5) ∧ pq s c + 7 < 287)) (by decide +kernel) s hs c hc)
theorem kp_distances (hs : s < 5) (hc : c < 5) : KP 287 (pq s c + 7) (9, s, 101 + 110 * c, 0, 5) := ⟨(kq_distances s hs c hc).1, (kq_distances s hs c hc).2, by have := (kq_distances s hs c hc).2; omega, Nat.le_of_ble_eq_true rfl⟩
theorem kq_F : ∀ s, s < 5 → ∀ c, c < 5 → kd (pq s c + 8) = (1, s, 0, 0, 0) ∧ pq s c + 8 < 287 := fun s hs c hc => of_decide_eq_true (all55 (fun s c => decide (kd (pq s c + 8) = (1, s, 0, 0, 0) ∧ pq s c + 8 < 287)) (by decide +kernel) s hs c hc)
theorem kp_F (hs : s < 5) (hc : c < 5) : KP 287 (pq s c + 8) (1, s, 0, 0, 0) := ⟨(kq_F s hs c hc).1, (kq_F s hs c hc).2, by have := (kq_F s hs c hc).2; omega, Nat.le_of_ble_eq_true rfl⟩
theorem kq_counts : ∀ s, s < 5 → ∀ c, c < 5 → kd (pq s c + 9) = (9, s, 24 + 110 * c, 0, 64) ∧ pq s c + 9 < 287 := fun s hs c hc => of_decide_eq_true (all55 (fun s c => decide (kd (pq s c + 9) = (9, s, 24 + 110 * c, 0, 64) ∧ pq s c + 9 < 287)) (by decide +kernel) s hs c hc)
theorem kp_counts (hs : s < 5) (hc : c < 5) : KP 287 (pq s c + 9) (9, s, 24 + 110 * c, 0, 64) := ⟨(kq_counts s hs c hc).1, (kq_counts s hs c hc).2, by have := (kq_counts s hs c hc).2; omega, Nat.le_of_ble_eq_true rfl⟩
theorem kp_D : KP 287 0 (7, 0, 0, 0, 0) := ⟨by decide +kernel, by decide, by decide, by decide⟩
theorem kp_H : KP 287 54 (2, 15, 0, 0, 0) := ⟨by decide +kernel, by decide, by decide, by decide⟩
theorem kp_HA : KP 287 55 (12, 0, 0, 0, 4) := ⟨by decide +kernel, by decide, by decide, by decide⟩
theorem kp_X : KP 287 268 (5, 5, 0, 0, 0) := ⟨by decide +kernel, by decide, by decide, by decide⟩
theorem kp_codes : KP 287 269 (9, 6, 0, 0, 100) := ⟨by decide +kernel, by decide, by decide, by decide⟩
theorem kp_askedCaches : KP 287 270 (9, 7, 0, 0, 100) := ⟨by decide +kernel, by decide, by decide, by decide⟩
theorem kp_askedObjects : KP 287 271 (9, 8, 0, 0, 100) := ⟨by decide +kernel, by decide, by decide, by decide⟩
theorem kp_W : KP 287 272 (6, 9, 0, 0, 0) := ⟨by decide +kernel, by decide, by decide, by decide⟩
theorem kp_places : KP 287 273 (9, 10, 0, 0, 5) := ⟨by decide +kernel, by decide, by decide, by decide⟩
theorem kp_W2 : KP 287 274 (6, 11, 0, 0, 0) := ⟨by decide +kernel, by decide, by decide, by decide⟩
theorem kp_places2 : KP 287 275 (9, 12, 0, 0, 5) := ⟨by decide +kernel, by decide, by decide, by decide⟩
theorem kp_S2 : KP 287 276 (3, 13, 0, 0, 0) := ⟨by decide +kernel, by decide, by decide, by decide⟩
theorem kp_spareRow : KP 287 277 (9, 14, 0, 0, 64) := ⟨by decide +kernel, by decide, by decide, by decide⟩
theorem kp_M : KP 287 278 (8, 21, 0, 0, 0) := ⟨by decide +kernel, by decide, by decide, by decide⟩
theorem kp_row : KP 287 279 (9, 20, 0, 0, 2780) := ⟨by decide +kernel, by decide, by decide, by decide⟩
theorem kp_mask : KP 287 280 (10, 20, 0, 0, 150) := ⟨by decide +kernel, by decide, by decide, by decide⟩
theorem kp_factor : KP 287 281 (9, 22, 0, 0, 4) := ⟨by decide +kernel, by decide, by decide, by decide⟩
theorem kp_more : KP 287 282 (9, 23, 0, 0, 4) := ⟨by decide +kernel, by decide, by decide, by decide⟩
theorem kp_before : KP 287 283 (9, 24, 0, 0, 64) := ⟨by decide +kernel, by decide, by decide, by decide⟩
theorem kp_went : KP 287 284 (9, 25, 0, 0, 5) := ⟨by decide +kernel, by decide, by decide, by decide⟩
theorem kp_keptWay : KP 287 285 (9, 26, 0, 0, 5) := ⟨by decide +kernel, by decide, by decide, by decide⟩
theorem kp_mtext : KP 287 286 (9, 27, 0, 0, 100) := ⟨by decide +kernel, by decide, by decide, by decide⟩
variable {R : MR}
theorem rq_T_shape : ∀ s, s < 5 → R0 (pb s) 0 = some (pb s + 1) ∧ pb s + 1 < 1000 ∧ pb s < 287 ∧ pb s ≠ 55 := by decide +kernel
theorem rf_T_shape (hR : RS R) (hs : s < 5) : R (pb s) 0 = some (pb s + 1) ∧ pb s + 1 < 1000 := RS_of hR (rq_T_shape s hs)
theorem rq_T_caches : ∀ s, s < 5 → R0 (pb s) 1 = some (pb s + 2) ∧ pb s + 2 < 1000 ∧ pb s < 287 ∧ pb s ≠ 55 := by decide +kernel
theorem rf_T_caches (hR : RS R) (hs : s < 5) : R (pb s) 1 = some (pb s + 2) ∧ pb s + 2 < 1000 := RS_of hR (rq_T_caches s hs)
theorem rq_CA : ∀ s, s < 5 → ∀ c, c < 5 → R0 (pb s + 2) c = some (pq s c) ∧ pq s c < 1000 ∧ pb s + 2 < 287 ∧ pb s + 2 ≠ 55 := fun s hs c hc => of_decide_eq_true (all55 (fun s c => decide (R0 (pb s + 2) c = some (pq s c) ∧ pq s c < 1000 ∧ pb s + 2 < 287 ∧ pb s + 2 ≠ 55)) (by decide +kernel) s hs c hc)
theorem rf_CA (hR : RS R) (hs : s < 5) (hc : c < 5) : R (pb s + 2) c = some (pq s c) ∧ pq s c < 1000 := RS_of hR (rq_CA s hs c hc)
theorem rq_C_shape : ∀ s, s < 5 → ∀ c, c < 5 → R0 (pq s c) 0 = some (pb s + 1) ∧ pb s + 1 < 1000 ∧ pq s c < 287 ∧ pq s c ≠ 55 := fun s hs c hc => of_decide_eq_true (all55 (fun s c => decide (R0 (pq s c) 0 = some (pb s + 1) ∧ pb s + 1 < 1000 ∧ pq s c < 287 ∧ pq s c ≠ 55)) (by decide +kernel) s hs c hc)
theorem rf_C_shape (hR : RS R) (hs : s < 5) (hc : c < 5) : R (pq s c) 0 = some (pb s + 1) ∧ pb s + 1 < 1000 := RS_of hR (rq_C_shape s hs c hc)
theorem rq_C_filter : ∀ s, s < 5 → ∀ c, c < 5 → R0 (pq s c) 1 = some (pq s c + 8) ∧ pq s c + 8 < 1000 ∧ pq s c < 287 ∧ pq s c ≠ 55 := fun s hs c hc => of_decide_eq_true (all55 (fun s c => decide (R0 (pq s c) 1 = some (pq s c + 8) ∧ pq s c + 8 < 1000 ∧ pq s c < 287 ∧ pq s c ≠ 55)) (by decide +kernel) s hs c hc)
theorem rf_C_filter (hR : RS R) (hs : s < 5) (hc : c < 5) : R (pq s c) 1 = some (pq s c + 8) ∧ pq s c + 8 < 1000 := RS_of hR (rq_C_filter s hs c hc)
theorem rq_C_objects : ∀ s, s < 5 → ∀ c, c < 5 → R0 (pq s c) 2 = some (pq s c + 1) ∧ pq s c + 1 < 1000 ∧ pq s c < 287 ∧ pq s c ≠ 55 := fun s hs c hc => of_decide_eq_true (all55 (fun s c => decide (R0 (pq s c) 2 = some (pq s c + 1) ∧ pq s c + 1 < 1000 ∧ pq s c < 287 ∧ pq s c ≠ 55)) (by decide +kernel) s hs c hc)
theorem rf_C_objects (hR : RS R) (hs : s < 5) (hc : c < 5) : R (pq s c) 2 = some (pq s c + 1) ∧ pq s c + 1 < 1000 := RS_of hR (rq_C_objects s hs c hc)
theorem rq_C_tallies : ∀ s, s < 5 → ∀ c, c < 5 → R0 (pq s c) 7 = some (pq s c + 2) ∧ pq s c + 2 < 1000 ∧ pq s c < 287 ∧ pq s c ≠ 55 := fun s hs c hc => of_decide_eq_true (all55 (fun s c => decide (R0 (pq s c) 7 = some (pq s c + 2) ∧ pq s c + 2 < 1000 ∧ pq s c < 287 ∧ pq s c ≠ 55)) (by decide +kernel) s hs c hc)
theorem rf_C_tallies (hR : RS R) (hs : s < 5) (hc : c < 5) : R (pq s c) 7 = some (pq s c + 2) ∧ pq s c + 2 < 1000 := RS_of hR (rq_C_tallies s hs c hc)
theorem rq_C_copyMasks : ∀ s, s < 5 → ∀ c, c < 5 → R0 (pq s c) 8 = some (pq s c + 3) ∧ pq s c + 3 < 1000 ∧ pq s c < 287 ∧ pq s c ≠ 55 := fun s hs c hc => of_decide_eq_true (all55 (fun s c => decide (R0 (pq s c) 8 = some (pq s c + 3) ∧ pq s c + 3 < 1000 ∧ pq s c < 287 ∧ pq s c ≠ 55)) (by decide +kernel) s hs c hc)
theorem rf_C_copyMasks (hR : RS R) (hs : s < 5) (hc : c < 5) : R (pq s c) 8 = some (pq s c + 3) ∧ pq s c + 3 < 1000 := RS_of hR (rq_C_copyMasks s hs c hc)
theorem rq_C_copyVersions : ∀ s, s < 5 → ∀ c, c < 5 → R0 (pq s c) 9 = some (pq s c + 4) ∧ pq s c + 4 < 1000 ∧ pq s c < 287 ∧ pq s c ≠ 55 := fun s hs c hc => of_decide_eq_true (all55 (fun s c => decide (R0 (pq s c) 9 = some (pq s c + 4) ∧ pq s c + 4 < 1000 ∧ pq s c < 287 ∧ pq s c ≠ 55)) (by decide +kernel) s hs c hc)
theorem rf_C_copyVersions (hR : RS R) (hs : s < 5) (hc : c < 5) : R (pq s c) 9 = some (pq s c + 4) ∧ pq s c + 4 < 1000 := RS_of hR (rq_C_copyVersions s hs c hc)
theorem rq_C_copyTimes : ∀ s, s < 5 → ∀ c, c < 5 → R0 (pq s c) 10 = some (pq s c + 5) ∧ pq s c + 5 < 1000 ∧ pq s c < 287 ∧ pq s c ≠ 55 := fun s hs c hc => of_decide_eq_true (all55 (fun s c => decide (R0 (pq s c) 10 = some (pq s c + 5) ∧ pq s c + 5 < 1000 ∧ pq s c < 287 ∧ pq s c ≠ 55)) (by decide +kernel) s hs c hc)
theorem rf_C_copyTimes (hR : RS R) (hs : s < 5) (hc : c < 5) : R (pq s c) 10 = some (pq s c + 5) ∧ pq s c + 5 < 1000 := RS_of hR (rq_C_copyTimes s hs c hc)
theorem rq_C_links : ∀ s, s < 5 → ∀ c, c < 5 → R0 (pq s c) 11 = some (pq s c + 6) ∧ pq s c + 6 < 1000 ∧ pq s c < 287 ∧ pq s c ≠ 55 := fun s hs c hc => of_decide_eq_true (all55 (fun s c => decide (R0 (pq s c) 11 = some (pq s c + 6) ∧ pq s c + 6 < 1000 ∧ pq s c < 287 ∧ pq s c ≠ 55)) (by decide +kernel) s hs c hc)
theorem rf_C_links (hR : RS R) (hs : s < 5) (hc : c < 5) : R (pq s c) 11 = some (pq s c + 6) ∧ pq s c + 6 < 1000 := RS_of hR (rq_C_links s hs c hc)
theorem rq_C_distances : ∀ s, s < 5 → ∀ c, c < 5 → R0 (pq s c) 12 = some (pq s c + 7) ∧ pq s c + 7 < 1000 ∧ pq s c < 287 ∧ pq s c ≠ 55 := fun s hs c hc => of_decide_eq_true (all55 (fun s c => decide (R0 (pq s c) 12 = some (pq s c + 7) ∧ pq s c + 7 < 1000 ∧ pq s c < 287 ∧ pq s c ≠ 55)) (by decide +kernel) s hs c hc)
theorem rf_C_distances (hR : RS R) (hs : s < 5) (hc : c < 5) : R (pq s c) 12 = some (pq s c + 7) ∧ pq s c + 7 < 1000 := RS_of hR (rq_C_distances s hs c hc)
theorem rq_F_shape : ∀ s, s < 5 → ∀ c, c < 5 → R0 (pq s c + 8) 0 = some (pb s + 1) ∧ pb s + 1 < 1000 ∧ pq s c + 8 < 287 ∧ pq s c + 8 ≠ 55 := fun s hs c hc => of_decide_eq_true (all55 (fun s c => decide (R0 (pq s c + 8) 0 = some (pb s + 1) ∧ pb s + 1 < 1000 ∧ pq s c + 8 < 287 ∧ pq s c + 8 ≠ 55)) (by decide +kernel) s hs c hc)
theorem rf_F_shape (hR : RS R) (hs : s < 5) (hc : c < 5) : R (pq s c + 8) 0 = some (pb s + 1) ∧ pb s + 1 < 1000 := RS_of hR (rq_F_shape s hs c hc)
theorem rq_F_counts : ∀ s, s < 5 → ∀ c, c < 5 → R0 (pq s c + 8) 1 = some (pq s c + 9) ∧ pq s c + 9 < 1000 ∧ pq s c + 8 < 287 ∧ pq s c + 8 ≠ 55 := fun s hs c hc => of_decide_eq_true (all55 (fun s c => decide (R0 (pq s c + 8) 1 = some (pq s c + 9) ∧ pq s c + 9 < 1000 ∧ pq s c + 8 < 287 ∧ pq s c + 8 ≠ 55)) (by decide +kernel) s hs c hc)
theorem rf_F_counts (hR : RS R) (hs : s < 5) (hc : c < 5) : R (pq s c + 8) 1 = some (pq s c + 9) ∧ pq s c + 9 < 1000 := RS_of hR (rq_F_counts s hs c hc)
theorem rf_D_state (hR : RS R) : R 0 0 = some 1 ∧ 1 < 1000 := RS_of hR (by decide +kernel)
theorem rf_D_history (hR : RS R) : R 0 1 = some 54 ∧ 54 < 1000 := RS_of hR (by decide +kernel)
theorem rf_D_text (hR : RS R) : R 0 2 = some 268 ∧ 268 < 1000 := RS_of hR (by decide +kernel)
theorem rf_D_latest (hR : RS R) : R 0 3 = some 272 ∧ 272 < 1000 := RS_of hR (by decide +kernel)
theorem rf_D_trialWalk (hR : RS R) : R 0 4 = some 274 ∧ 274 < 1000 := RS_of hR (by decide +kernel)
theorem rf_D_trialShape (hR : RS R) : R 0 5 = some 276 ∧ 276 < 1000 := RS_of hR (by decide +kernel)
theorem rf_D_spareRow (hR : RS R) : R 0 6 = some 277 ∧ 277 < 1000 := RS_of hR (by decide +kernel)
theorem rf_H_states (hR : RS R) : R 54 0 = some 55 ∧ 55 < 1000 := RS_of hR (by decide +kernel)
theorem rf_X_codes (hR : RS R) : R 268 0 = some 269 ∧ 269 < 1000 := RS_of hR (by decide +kernel)
theorem rf_X_askedCaches (hR : RS R) : R 268 2 = some 270 ∧ 270 < 1000 := RS_of hR (by decide +kernel)
theorem rf_X_askedObjects (hR : RS R) : R 268 3 = some 271 ∧ 271 < 1000 := RS_of hR (by decide +kernel)
theorem rf_W_places (hR : RS R) : R 272 0 = some 273 ∧ 273 < 1000 := RS_of hR (by decide +kernel)
theorem rf_W2_places (hR : RS R) : R 274 0 = some 275 ∧ 275 < 1000 := RS_of hR (by decide +kernel)
theorem rf_M_row (hR : RS R) : R 278 0 = some 279 ∧ 279 < 1000 := RS_of hR (by decide +kernel)
theorem rf_M_mask (hR : RS R) : R 278 1 = some 280 ∧ 280 < 1000 := RS_of hR (by decide +kernel)
theorem rf_M_factor (hR : RS R) : R 278 3 = some 281 ∧ 281 < 1000 := RS_of hR (by decide +kernel)
theorem rf_M_more (hR : RS R) : R 278 4 = some 282 ∧ 282 < 1000 := RS_of hR (by decide +kernel)
theorem rf_M_before (hR : RS R) : R 278 5 = some 283 ∧ 283 < 1000 := RS_of hR (by decide +kernel)
theorem rf_M_went (hR : RS R) : R 278 6 = some 284 ∧ 284 < 1000 := RS_of hR (by decide +kernel)
theorem rf_M_keptWay (hR : RS R) : R 278 10 = some 285 ∧ 285 < 1000 := RS_of hR (by decide +kernel)
theorem rf_M_text (hR : RS R) : R 278 11 = some 286 ∧ 286 < 1000 := RS_of hR (by decide +kernel)
end KROWS
theorem inc_nI (i : Nat) : nI i + Int32.ofInt 1 = nI (i + 1) := nI_1 i
theorem dec_nI (i : Nat) : nI (i + 1) + Int32.ofInt (-1) = nI i := pk_m1 i
theorem stI_up (I : MI) (g k : Nat) (r : Nat → Int32) (v : Int32) : stI (va_up I g r) g k v = va_up I g (va_up r k v) := by
  unfold stI
  rw [va_up_self, bx_uu]
theorem stL_up (I : ML) (g k : Nat) (r : Nat → Int64) (v : Int64) : stL (va_up I g r) g k v = va_up I g (va_up r k v) := by
  unfold stL
  rw [va_up_self, bx_uu]
theorem up_id {α : Type} (f : Nat → α) (k : Nat) : va_up f k (f k) = f := by
  funext j
  unfold va_up
  by_cases h : j = k
  · rw [if_pos h, h]
  · rw [if_neg h]
section KR2
variable {l : Launch} {y : MethodName} {cc : ByteArray} {nL : Nat} {ret : Option FieldType} {Rm : Room} {Qf : QF} {X : State → List Nat → Prop} {pc pc' : Nat} {lv : List (Option Value)} {st : List Value} {I : MI} {L : ML} {R : MR} {n ce sl : Nat} {p0 t g b lb N j off idx : Nat}
theorem v_getQ {q0 : Nat} (hd : decode cc pc = .ok (.getfield idx, 3)) (hp : pc + 3 = pc') (hf : GF y.cls idx t j) (hk : KP n p0 (t, g, b, lb, N)) (ht : fty t j = (2, off)) (hr : R p0 j = some q0 ∧ q0 < 1000) (kk : V l y cc nL ret Rm Qf X pc' lv (.ref q0 :: st) I L R n ce sl) : V l y cc nL ret Rm Qf X pc lv (.ref p0 :: st) I L R n ce sl := v_getR hd hp hf hk ht hr.1 hr.2 kk
theorem v_aaloadQ {k q0 : Nat} {i : Int32} (hd : decode cc pc = .ok (.aaload, 1)) (hp : pc + 1 = pc') (hk : KP n p0 (11, g, b, lb, N)) (hi : i = nI k) (hkN : k < N) (hr : R p0 k = some q0 ∧ q0 < 1000) (kk : V l y cc nL ret Rm Qf X pc' lv (.ref q0 :: st) I L R n ce sl) : V l y cc nL ret Rm Qf X pc lv (.int i :: .ref p0 :: st) I L R n ce sl := v_aaload hd hp hk hi hkN hr.1 hr.2 kk
theorem v_aaloadSQ {k q0 : Nat} {i : Int32} (hd : decode cc pc = .ok (.aaload, 1)) (hp : pc + 1 = pc') (hk : KP n p0 (12, g, b, lb, N)) (hi : i = nI k) (hkN : k < N) (hr : R p0 k = some q0 ∧ q0 < 1000) (kk : V l y cc nL ret Rm Qf X pc' lv (.ref q0 :: st) I L R n ce sl) : V l y cc nL ret Rm Qf X pc lv (.int i :: .ref p0 :: st) I L R n ce sl := v_aaloadS hd hp hk hi hkN hr.1 hr.2 kk
end KR2
section KR3
variable {l : Launch} {y : MethodName} {cc : ByteArray} {nL : Nat} {ret : Option FieldType} {Rm : Room} {Qf : QF} {X : State → List Nat → Prop} {pc pc' : Nat} {lv : List (Option Value)} {st : List Value} {I : MI} {L : ML} {R : MR} {n : Nat} {p0 t g b lb N idx : Nat}
variable {y' : MethodName} {cc' : ByteArray} {nL' : Nat} {ret' : Option FieldType} {d' k : Nat} {rest : List Value} {r0 : Option Value} {I0 : MI} {L0 : ML} {R0 : MR}
theorem v_cV0 (hd : decode cc pc = .ok (.invokevirtual idx, 3)) (hp : pc + 3 = pc') (hc : CV y.cls idx y' cc' nL' ret' 0 t) (hk : KP n p0 (t, g, b, lb, N)) (hcat : (rest.map (fun v => v.category)).sum ≤ 8) (hR : rck Rm d' nL' 0 0 0 0 = true) (hOk : Ok l y' cc' nL' ret' d' 0 0 (.ref p0 :: []) I L R n (eqP r0 I0 L0 R0 n)) (kk : V l y cc nL ret Rm Qf X pc' lv (r0.toList ++ rest) I0 L0 R0 n 0 0) : V l y cc nL ret Rm Qf X pc lv (.ref p0 :: rest) I L R n 0 0 := v_callV hd hp hc hOk hk rfl rfl hcat hR (Or.inl rfl) kk
theorem v_cV1 {x0 : Value} (hd : decode cc pc = .ok (.invokevirtual idx, 3)) (hp : pc + 3 = pc') (hc : CV y.cls idx y' cc' nL' ret' 1 t) (hk : KP n p0 (t, g, b, lb, N)) (hcat : (rest.map (fun v => v.category)).sum ≤ 8) (hR : rck Rm d' nL' 0 0 0 0 = true) (hOk : Ok l y' cc' nL' ret' d' 0 0 (.ref p0 :: [x0]) I L R n (eqP r0 I0 L0 R0 n)) (kk : V l y cc nL ret Rm Qf X pc' lv (r0.toList ++ rest) I0 L0 R0 n 0 0) : V l y cc nL ret Rm Qf X pc lv (x0 :: .ref p0 :: rest) I L R n 0 0 := v_callV hd hp hc hOk hk rfl rfl hcat hR (Or.inl rfl) kk
theorem v_cS1 {x0 : Value} (hd : decode cc pc = .ok (.invokestatic idx, 3)) (hp : pc + 3 = pc') (hc : CS y.cls idx y' cc' nL' ret' 1) (hcat : (rest.map (fun v => v.category)).sum ≤ 8) (hR : rck Rm d' nL' 0 0 0 0 = true) (hOk : Ok l y' cc' nL' ret' d' 0 0 [x0] I L R n (eqP r0 I0 L0 R0 n)) (kk : V l y cc nL ret Rm Qf X pc' lv (r0.toList ++ rest) I0 L0 R0 n 0 0) : V l y cc nL ret Rm Qf X pc lv (x0 :: rest) I L R n 0 0 := v_callS hd hp hc hOk rfl rfl hcat hR (Or.inl rfl) kk
theorem v_cN1 {x0 : Value} (hd : decode cc pc = .ok (.invokestatic idx, 3)) (hp : pc + 3 = pc') (hc : CSN y.cls idx y' cc' nL' ret' 1) (hcat : (rest.map (fun v => v.category)).sum ≤ 8) (hR : rck Rm d' nL' 0 0 0 0 = true) (hOk : Ok l y' cc' nL' ret' d' 0 0 [x0] I L R n (eqP r0 I0 L0 R0 n)) (kk : V l y cc nL ret Rm Qf X pc' lv (r0.toList ++ rest) I0 L0 R0 n 0 0) : V l y cc nL ret Rm Qf X pc lv (x0 :: rest) I L R n 0 0 := v_callSN hd hp hc hOk rfl rfl hcat hR (Or.inl rfl) kk
theorem v_cV2 {x0 x1 : Value} (hd : decode cc pc = .ok (.invokevirtual idx, 3)) (hp : pc + 3 = pc') (hc : CV y.cls idx y' cc' nL' ret' 2 t) (hk : KP n p0 (t, g, b, lb, N)) (hcat : (rest.map (fun v => v.category)).sum ≤ 8) (hR : rck Rm d' nL' 0 0 0 0 = true) (hOk : Ok l y' cc' nL' ret' d' 0 0 (.ref p0 :: [x0, x1]) I L R n (eqP r0 I0 L0 R0 n)) (kk : V l y cc nL ret Rm Qf X pc' lv (r0.toList ++ rest) I0 L0 R0 n 0 0) : V l y cc nL ret Rm Qf X pc lv (x1 :: x0 :: .ref p0 :: rest) I L R n 0 0 := v_callV hd hp hc hOk hk rfl rfl hcat hR (Or.inl rfl) kk
theorem v_cS2 {x0 x1 : Value} (hd : decode cc pc = .ok (.invokestatic idx, 3)) (hp : pc + 3 = pc') (hc : CS y.cls idx y' cc' nL' ret' 2) (hcat : (rest.map (fun v => v.category)).sum ≤ 8) (hR : rck Rm d' nL' 0 0 0 0 = true) (hOk : Ok l y' cc' nL' ret' d' 0 0 [x0, x1] I L R n (eqP r0 I0 L0 R0 n)) (kk : V l y cc nL ret Rm Qf X pc' lv (r0.toList ++ rest) I0 L0 R0 n 0 0) : V l y cc nL ret Rm Qf X pc lv (x1 :: x0 :: rest) I L R n 0 0 := v_callS hd hp hc hOk rfl rfl hcat hR (Or.inl rfl) kk
theorem v_cN2 {x0 x1 : Value} (hd : decode cc pc = .ok (.invokestatic idx, 3)) (hp : pc + 3 = pc') (hc : CSN y.cls idx y' cc' nL' ret' 2) (hcat : (rest.map (fun v => v.category)).sum ≤ 8) (hR : rck Rm d' nL' 0 0 0 0 = true) (hOk : Ok l y' cc' nL' ret' d' 0 0 [x0, x1] I L R n (eqP r0 I0 L0 R0 n)) (kk : V l y cc nL ret Rm Qf X pc' lv (r0.toList ++ rest) I0 L0 R0 n 0 0) : V l y cc nL ret Rm Qf X pc lv (x1 :: x0 :: rest) I L R n 0 0 := v_callSN hd hp hc hOk rfl rfl hcat hR (Or.inl rfl) kk
theorem v_cV3 {x0 x1 x2 : Value} (hd : decode cc pc = .ok (.invokevirtual idx, 3)) (hp : pc + 3 = pc') (hc : CV y.cls idx y' cc' nL' ret' 3 t) (hk : KP n p0 (t, g, b, lb, N)) (hcat : (rest.map (fun v => v.category)).sum ≤ 8) (hR : rck Rm d' nL' 0 0 0 0 = true) (hOk : Ok l y' cc' nL' ret' d' 0 0 (.ref p0 :: [x0, x1, x2]) I L R n (eqP r0 I0 L0 R0 n)) (kk : V l y cc nL ret Rm Qf X pc' lv (r0.toList ++ rest) I0 L0 R0 n 0 0) : V l y cc nL ret Rm Qf X pc lv (x2 :: x1 :: x0 :: .ref p0 :: rest) I L R n 0 0 := v_callV hd hp hc hOk hk rfl rfl hcat hR (Or.inl rfl) kk
theorem v_cS3 {x0 x1 x2 : Value} (hd : decode cc pc = .ok (.invokestatic idx, 3)) (hp : pc + 3 = pc') (hc : CS y.cls idx y' cc' nL' ret' 3) (hcat : (rest.map (fun v => v.category)).sum ≤ 8) (hR : rck Rm d' nL' 0 0 0 0 = true) (hOk : Ok l y' cc' nL' ret' d' 0 0 [x0, x1, x2] I L R n (eqP r0 I0 L0 R0 n)) (kk : V l y cc nL ret Rm Qf X pc' lv (r0.toList ++ rest) I0 L0 R0 n 0 0) : V l y cc nL ret Rm Qf X pc lv (x2 :: x1 :: x0 :: rest) I L R n 0 0 := v_callS hd hp hc hOk rfl rfl hcat hR (Or.inl rfl) kk
theorem v_cN3 {x0 x1 x2 : Value} (hd : decode cc pc = .ok (.invokestatic idx, 3)) (hp : pc + 3 = pc') (hc : CSN y.cls idx y' cc' nL' ret' 3) (hcat : (rest.map (fun v => v.category)).sum ≤ 8) (hR : rck Rm d' nL' 0 0 0 0 = true) (hOk : Ok l y' cc' nL' ret' d' 0 0 [x0, x1, x2] I L R n (eqP r0 I0 L0 R0 n)) (kk : V l y cc nL ret Rm Qf X pc' lv (r0.toList ++ rest) I0 L0 R0 n 0 0) : V l y cc nL ret Rm Qf X pc lv (x2 :: x1 :: x0 :: rest) I L R n 0 0 := v_callSN hd hp hc hOk rfl rfl hcat hR (Or.inl rfl) kk
theorem v_cV4 {x0 x1 x2 x3 : Value} (hd : decode cc pc = .ok (.invokevirtual idx, 3)) (hp : pc + 3 = pc') (hc : CV y.cls idx y' cc' nL' ret' 4 t) (hk : KP n p0 (t, g, b, lb, N)) (hcat : (rest.map (fun v => v.category)).sum ≤ 8) (hR : rck Rm d' nL' 0 0 0 0 = true) (hOk : Ok l y' cc' nL' ret' d' 0 0 (.ref p0 :: [x0, x1, x2, x3]) I L R n (eqP r0 I0 L0 R0 n)) (kk : V l y cc nL ret Rm Qf X pc' lv (r0.toList ++ rest) I0 L0 R0 n 0 0) : V l y cc nL ret Rm Qf X pc lv (x3 :: x2 :: x1 :: x0 :: .ref p0 :: rest) I L R n 0 0 := v_callV hd hp hc hOk hk rfl rfl hcat hR (Or.inl rfl) kk
theorem v_cS4 {x0 x1 x2 x3 : Value} (hd : decode cc pc = .ok (.invokestatic idx, 3)) (hp : pc + 3 = pc') (hc : CS y.cls idx y' cc' nL' ret' 4) (hcat : (rest.map (fun v => v.category)).sum ≤ 8) (hR : rck Rm d' nL' 0 0 0 0 = true) (hOk : Ok l y' cc' nL' ret' d' 0 0 [x0, x1, x2, x3] I L R n (eqP r0 I0 L0 R0 n)) (kk : V l y cc nL ret Rm Qf X pc' lv (r0.toList ++ rest) I0 L0 R0 n 0 0) : V l y cc nL ret Rm Qf X pc lv (x3 :: x2 :: x1 :: x0 :: rest) I L R n 0 0 := v_callS hd hp hc hOk rfl rfl hcat hR (Or.inl rfl) kk
theorem v_cN4 {x0 x1 x2 x3 : Value} (hd : decode cc pc = .ok (.invokestatic idx, 3)) (hp : pc + 3 = pc') (hc : CSN y.cls idx y' cc' nL' ret' 4) (hcat : (rest.map (fun v => v.category)).sum ≤ 8) (hR : rck Rm d' nL' 0 0 0 0 = true) (hOk : Ok l y' cc' nL' ret' d' 0 0 [x0, x1, x2, x3] I L R n (eqP r0 I0 L0 R0 n)) (kk : V l y cc nL ret Rm Qf X pc' lv (r0.toList ++ rest) I0 L0 R0 n 0 0) : V l y cc nL ret Rm Qf X pc lv (x3 :: x2 :: x1 :: x0 :: rest) I L R n 0 0 := v_callSN hd hp hc hOk rfl rfl hcat hR (Or.inl rfl) kk
theorem v_cV5 {x0 x1 x2 x3 x4 : Value} (hd : decode cc pc = .ok (.invokevirtual idx, 3)) (hp : pc + 3 = pc') (hc : CV y.cls idx y' cc' nL' ret' 5 t) (hk : KP n p0 (t, g, b, lb, N)) (hcat : (rest.map (fun v => v.category)).sum ≤ 8) (hR : rck Rm d' nL' 0 0 0 0 = true) (hOk : Ok l y' cc' nL' ret' d' 0 0 (.ref p0 :: [x0, x1, x2, x3, x4]) I L R n (eqP r0 I0 L0 R0 n)) (kk : V l y cc nL ret Rm Qf X pc' lv (r0.toList ++ rest) I0 L0 R0 n 0 0) : V l y cc nL ret Rm Qf X pc lv (x4 :: x3 :: x2 :: x1 :: x0 :: .ref p0 :: rest) I L R n 0 0 := v_callV hd hp hc hOk hk rfl rfl hcat hR (Or.inl rfl) kk
theorem v_cS5 {x0 x1 x2 x3 x4 : Value} (hd : decode cc pc = .ok (.invokestatic idx, 3)) (hp : pc + 3 = pc') (hc : CS y.cls idx y' cc' nL' ret' 5) (hcat : (rest.map (fun v => v.category)).sum ≤ 8) (hR : rck Rm d' nL' 0 0 0 0 = true) (hOk : Ok l y' cc' nL' ret' d' 0 0 [x0, x1, x2, x3, x4] I L R n (eqP r0 I0 L0 R0 n)) (kk : V l y cc nL ret Rm Qf X pc' lv (r0.toList ++ rest) I0 L0 R0 n 0 0) : V l y cc nL ret Rm Qf X pc lv (x4 :: x3 :: x2 :: x1 :: x0 :: rest) I L R n 0 0 := v_callS hd hp hc hOk rfl rfl hcat hR (Or.inl rfl) kk
theorem v_cN5 {x0 x1 x2 x3 x4 : Value} (hd : decode cc pc = .ok (.invokestatic idx, 3)) (hp : pc + 3 = pc') (hc : CSN y.cls idx y' cc' nL' ret' 5) (hcat : (rest.map (fun v => v.category)).sum ≤ 8) (hR : rck Rm d' nL' 0 0 0 0 = true) (hOk : Ok l y' cc' nL' ret' d' 0 0 [x0, x1, x2, x3, x4] I L R n (eqP r0 I0 L0 R0 n)) (kk : V l y cc nL ret Rm Qf X pc' lv (r0.toList ++ rest) I0 L0 R0 n 0 0) : V l y cc nL ret Rm Qf X pc lv (x4 :: x3 :: x2 :: x1 :: x0 :: rest) I L R n 0 0 := v_callSN hd hp hc hOk rfl rfl hcat hR (Or.inl rfl) kk
end KR3
