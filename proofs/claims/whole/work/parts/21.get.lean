def up2 (k : Kp) (i j : Nat) (v : Int32) : Kp := rw2 k i (upd (k i) j v)
theorem up2_s (k : Kp) (i j : Nat) (v : Int32) : up2 k i j v i = upd (k i) j v := by simp [up2, rw2]
theorem up2_n {k : Kp} {i j a : Nat} {v : Int32} (h : a ≠ i) : up2 k i j v a = k a := by simp [up2, rw2, h]
theorem up2_at (k : Kp) (i j : Nat) (v : Int32) (a b : Nat) : up2 k i j v a b = if a = i ∧ b = j then v else k a b := by
  by_cases h : a = i
  · subst h
    by_cases h2 : b = j
    · simp [up2_s, upd, h2]
    · simp [up2_s, upd, h2]
  · simp [up2_n h, h]

theorem px_pt_c {bs : Nat} {K S : Kp} {i ci k : Nat} {fs : List Value} {v : Value} (r : Nat → Int32) (hi : i < 76) (hc : cc bs i (K i) = .inr (ci, fs)) (hk : k < fs.length) (hr : (.inr (ci, fs.set k v) : px_E) = cc bs i r) : px_pt ci k (gm bs K S) (bs + i) v = some (gm bs (rw2 K i r) S) := by
  rw [px_pt_of ((gm_c hi).trans (congrArg some hc)) hk]
  exact congrArg some (gm_setc hi _ hr)
theorem px_pt_m {bs : Nat} {K S : Kp} {i j ci k : Nat} {fs : List Value} {v : Value} (r : Nat → Int32) (hi : i = 76 + j) (hj : j < 24) (hc : mcell bs j (S j) = .inr (ci, fs)) (hk : k < fs.length) (hr : (.inr (ci, fs.set k v) : px_E) = mcell bs j r) : px_pt ci k (gm bs K S) (bs + i) v = some (gm bs K (rw2 S j r)) := by
  rw [px_pt_of ((gm_m hi hj).trans (congrArg some hc)) hk]
  exact congrArg some (gm_setm hi hj _ hr)
theorem dyn_r {bs n : Nat} (h0 : 0 < n) (h1 : n < 2 ^ 31) : Value.ref (bs + n) = dyn bs (nI n) := by rw [dyn, if_neg (nI_ne0 h0 h1), nI_clamp h1]
theorem ob_0 (bs : Nat) (K S : Kp) : px_ob 0 (gm bs K S) bs = some () := px_ob_of (gm_c (i := 0) (by decide))
theorem g0_0 (bs : Nat) (K S : Kp) : px_gr 0 0 (gm bs K S) bs = some (bs + 1) := px_gr_of (gm_c (i := 0) (by decide)) rfl
theorem g0_1 (bs : Nat) (K S : Kp) : px_gr 0 1 (gm bs K S) bs = some (bs + 3) := px_gr_of (gm_c (i := 0) (by decide)) rfl
theorem g0_2 (bs : Nat) (K S : Kp) {n : Nat} (h : K 0 2 = nI n) (h0 : 0 < n) (h1 : n < 2 ^ 31) : px_gr 0 2 (gm bs K S) bs = some (bs + n) := by
  refine px_gr_of (gm_c (i := 0) (by decide)) ?_
  show some (dyn bs (K 0 2)) = _
  rw [h, dyn, if_neg (nI_ne0 h0 h1), nI_clamp h1]
theorem p0_2 (bs : Nat) (K S : Kp) {n : Nat} (h0 : 0 < n) (h1 : n < 2 ^ 31) : px_pt 0 2 (gm bs K S) bs (.ref (bs + n)) = some (gm bs (up2 K 0 2 (nI n)) S) := by
  rw [dyn_r h0 h1]
  exact px_pt_c (i := 0) (upd (K 0) 2 (nI n)) (by decide) rfl (Nat.le_of_ble_eq_true rfl) rfl
theorem g0_3 (bs : Nat) (K S : Kp) {n : Nat} (h : K 0 3 = nI n) (h0 : 0 < n) (h1 : n < 2 ^ 31) : px_gr 0 3 (gm bs K S) bs = some (bs + n) := by
  refine px_gr_of (gm_c (i := 0) (by decide)) ?_
  show some (dyn bs (K 0 3)) = _
  rw [h, dyn, if_neg (nI_ne0 h0 h1), nI_clamp h1]
theorem p0_3 (bs : Nat) (K S : Kp) {n : Nat} (h0 : 0 < n) (h1 : n < 2 ^ 31) : px_pt 0 3 (gm bs K S) bs (.ref (bs + n)) = some (gm bs (up2 K 0 3 (nI n)) S) := by
  rw [dyn_r h0 h1]
  exact px_pt_c (i := 0) (upd (K 0) 3 (nI n)) (by decide) rfl (Nat.le_of_ble_eq_true rfl) rfl
theorem g0_4 (bs : Nat) (K S : Kp) : px_gr 0 4 (gm bs K S) bs = some (bs + 10) := px_gr_of (gm_c (i := 0) (by decide)) rfl
theorem g0_5 (bs : Nat) (K S : Kp) : px_gr 0 5 (gm bs K S) bs = some (bs + 15) := px_gr_of (gm_c (i := 0) (by decide)) rfl
theorem g0_6 (bs : Nat) (K S : Kp) : px_gi 0 6 (gm bs K S) bs = some (K 0 6) := px_gi_of (gm_c (i := 0) (by decide)) rfl
theorem p0_6 (bs : Nat) (K S : Kp) (v : Int32) : px_pt 0 6 (gm bs K S) bs (.int v) = some (gm bs (up2 K 0 6 v) S) := px_pt_c (i := 0) (upd (K 0) 6 v) (by decide) rfl (Nat.le_of_ble_eq_true rfl) rfl
theorem g0_7 (bs : Nat) (K S : Kp) : px_gr 0 7 (gm bs K S) bs = some (bs + 16) := px_gr_of (gm_c (i := 0) (by decide)) rfl
theorem g0_8 (bs : Nat) (K S : Kp) : px_gr 0 8 (gm bs K S) bs = some (bs + 22) := px_gr_of (gm_c (i := 0) (by decide)) rfl
theorem g0_9 (bs : Nat) (K S : Kp) : px_gi 0 9 (gm bs K S) bs = some (K 0 9) := px_gi_of (gm_c (i := 0) (by decide)) rfl
theorem p0_9 (bs : Nat) (K S : Kp) (v : Int32) : px_pt 0 9 (gm bs K S) bs (.int v) = some (gm bs (up2 K 0 9 v) S) := px_pt_c (i := 0) (upd (K 0) 9 v) (by decide) rfl (Nat.le_of_ble_eq_true rfl) rfl
theorem g0_10 (bs : Nat) (K S : Kp) : px_gr 0 10 (gm bs K S) bs = some (bs + 23) := px_gr_of (gm_c (i := 0) (by decide)) rfl
theorem g0_11 (bs : Nat) (K S : Kp) : px_gr 0 11 (gm bs K S) bs = some (bs + 26) := px_gr_of (gm_c (i := 0) (by decide)) rfl
theorem g0_12 (bs : Nat) (K S : Kp) : px_gr 0 12 (gm bs K S) bs = some (bs + 28) := px_gr_of (gm_c (i := 0) (by decide)) rfl
theorem ob_1 (bs : Nat) (K S : Kp) : px_ob 1 (gm bs K S) (bs + 1) = some () := px_ob_of (gm_c (by decide))
theorem g1_0 (bs : Nat) (K S : Kp) : px_gr 1 0 (gm bs K S) (bs + 1) = some (bs + 2) := px_gr_of (gm_c (by decide)) rfl
theorem g1_1 (bs : Nat) (K S : Kp) : px_gi 1 1 (gm bs K S) (bs + 1) = some (K 1 1) := px_gi_of (gm_c (by decide)) rfl
theorem p1_1 (bs : Nat) (K S : Kp) (v : Int32) : px_pt 1 1 (gm bs K S) (bs + 1) (.int v) = some (gm bs (up2 K 1 1 v) S) := px_pt_c (i := 1) (upd (K 1) 1 v) (by decide) rfl (Nat.le_of_ble_eq_true rfl) rfl
theorem ob_3 (bs : Nat) (K S : Kp) : px_ob 2 (gm bs K S) (bs + 3) = some () := px_ob_of (gm_c (by decide))
theorem g3_0 (bs : Nat) (K S : Kp) : px_gr 2 0 (gm bs K S) (bs + 3) = some (bs + 1) := px_gr_of (gm_c (by decide)) rfl
theorem g3_1 (bs : Nat) (K S : Kp) {n : Nat} (h : K 3 1 = nI n) (h0 : 0 < n) (h1 : n < 2 ^ 31) : px_gr 2 1 (gm bs K S) (bs + 3) = some (bs + n) := by
  refine px_gr_of (gm_c (by decide)) ?_
  show some (dyn bs (K 3 1)) = _
  rw [h, dyn, if_neg (nI_ne0 h0 h1), nI_clamp h1]
theorem p3_1 (bs : Nat) (K S : Kp) {n : Nat} (h0 : 0 < n) (h1 : n < 2 ^ 31) : px_pt 2 1 (gm bs K S) (bs + 3) (.ref (bs + n)) = some (gm bs (up2 K 3 1 (nI n)) S) := by
  rw [dyn_r h0 h1]
  exact px_pt_c (i := 3) (upd (K 3) 1 (nI n)) (by decide) rfl (Nat.le_of_ble_eq_true rfl) rfl
theorem g3_2 (bs : Nat) (K S : Kp) : px_gi 2 2 (gm bs K S) (bs + 3) = some (K 3 2) := px_gi_of (gm_c (by decide)) rfl
theorem p3_2 (bs : Nat) (K S : Kp) (v : Int32) : px_pt 2 2 (gm bs K S) (bs + 3) (.int v) = some (gm bs (up2 K 3 2 v) S) := px_pt_c (i := 3) (upd (K 3) 2 v) (by decide) rfl (Nat.le_of_ble_eq_true rfl) rfl
theorem g3_3 (bs : Nat) (K S : Kp) : px_gi 2 3 (gm bs K S) (bs + 3) = some (K 3 3) := px_gi_of (gm_c (by decide)) rfl
theorem p3_3 (bs : Nat) (K S : Kp) (v : Int32) : px_pt 2 3 (gm bs K S) (bs + 3) (.int v) = some (gm bs (up2 K 3 3 v) S) := px_pt_c (i := 3) (upd (K 3) 3 v) (by decide) rfl (Nat.le_of_ble_eq_true rfl) rfl
theorem g3_4 (bs : Nat) (K S : Kp) : px_gi 2 4 (gm bs K S) (bs + 3) = some (K 3 4) := px_gi_of (gm_c (by decide)) rfl
theorem p3_4 (bs : Nat) (K S : Kp) (v : Int32) : px_pt 2 4 (gm bs K S) (bs + 3) (.int v) = some (gm bs (up2 K 3 4 v) S) := px_pt_c (i := 3) (upd (K 3) 4 v) (by decide) rfl (Nat.le_of_ble_eq_true rfl) rfl
theorem g3_5 (bs : Nat) (K S : Kp) : px_gi 2 5 (gm bs K S) (bs + 3) = some (K 3 5) := px_gi_of (gm_c (by decide)) rfl
theorem p3_5 (bs : Nat) (K S : Kp) (v : Int32) : px_pt 2 5 (gm bs K S) (bs + 3) (.int v) = some (gm bs (up2 K 3 5 v) S) := px_pt_c (i := 3) (upd (K 3) 5 v) (by decide) rfl (Nat.le_of_ble_eq_true rfl) rfl
theorem ob_4 (bs : Nat) (K S : Kp) : px_ob 3 (gm bs K S) (bs + 4) = some () := px_ob_of (gm_c (by decide))
theorem g4_0 (bs : Nat) (K S : Kp) : px_gr 3 0 (gm bs K S) (bs + 4) = some (bs + 5) := px_gr_of (gm_c (by decide)) rfl
theorem g4_1 (bs : Nat) (K S : Kp) : px_gr 3 1 (gm bs K S) (bs + 4) = some (bs + 6) := px_gr_of (gm_c (by decide)) rfl
theorem g4_2 (bs : Nat) (K S : Kp) : px_gi 3 2 (gm bs K S) (bs + 4) = some (K 4 2) := px_gi_of (gm_c (by decide)) rfl
theorem p4_2 (bs : Nat) (K S : Kp) (v : Int32) : px_pt 3 2 (gm bs K S) (bs + 4) (.int v) = some (gm bs (up2 K 4 2 v) S) := px_pt_c (i := 4) (upd (K 4) 2 v) (by decide) rfl (Nat.le_of_ble_eq_true rfl) rfl
theorem g4_3 (bs : Nat) (K S : Kp) : px_gi 3 3 (gm bs K S) (bs + 4) = some (K 4 3) := px_gi_of (gm_c (by decide)) rfl
theorem p4_3 (bs : Nat) (K S : Kp) (v : Int32) : px_pt 3 3 (gm bs K S) (bs + 4) (.int v) = some (gm bs (up2 K 4 3 v) S) := px_pt_c (i := 4) (upd (K 4) 3 v) (by decide) rfl (Nat.le_of_ble_eq_true rfl) rfl
theorem g4_4 (bs : Nat) (K S : Kp) : px_gi 3 4 (gm bs K S) (bs + 4) = some (K 4 4) := px_gi_of (gm_c (by decide)) rfl
theorem p4_4 (bs : Nat) (K S : Kp) (v : Int32) : px_pt 3 4 (gm bs K S) (bs + 4) (.int v) = some (gm bs (up2 K 4 4 v) S) := px_pt_c (i := 4) (upd (K 4) 4 v) (by decide) rfl (Nat.le_of_ble_eq_true rfl) rfl
theorem g4_5 (bs : Nat) (K S : Kp) : px_gi 3 5 (gm bs K S) (bs + 4) = some (K 4 5) := px_gi_of (gm_c (by decide)) rfl
theorem p4_5 (bs : Nat) (K S : Kp) (v : Int32) : px_pt 3 5 (gm bs K S) (bs + 4) (.int v) = some (gm bs (up2 K 4 5 v) S) := px_pt_c (i := 4) (upd (K 4) 5 v) (by decide) rfl (Nat.le_of_ble_eq_true rfl) rfl
theorem ob_7 (bs : Nat) (K S : Kp) : px_ob 3 (gm bs K S) (bs + 7) = some () := px_ob_of (gm_c (by decide))
theorem g7_0 (bs : Nat) (K S : Kp) : px_gr 3 0 (gm bs K S) (bs + 7) = some (bs + 8) := px_gr_of (gm_c (by decide)) rfl
theorem g7_1 (bs : Nat) (K S : Kp) : px_gr 3 1 (gm bs K S) (bs + 7) = some (bs + 9) := px_gr_of (gm_c (by decide)) rfl
theorem g7_2 (bs : Nat) (K S : Kp) : px_gi 3 2 (gm bs K S) (bs + 7) = some (K 7 2) := px_gi_of (gm_c (by decide)) rfl
theorem p7_2 (bs : Nat) (K S : Kp) (v : Int32) : px_pt 3 2 (gm bs K S) (bs + 7) (.int v) = some (gm bs (up2 K 7 2 v) S) := px_pt_c (i := 7) (upd (K 7) 2 v) (by decide) rfl (Nat.le_of_ble_eq_true rfl) rfl
theorem g7_3 (bs : Nat) (K S : Kp) : px_gi 3 3 (gm bs K S) (bs + 7) = some (K 7 3) := px_gi_of (gm_c (by decide)) rfl
theorem p7_3 (bs : Nat) (K S : Kp) (v : Int32) : px_pt 3 3 (gm bs K S) (bs + 7) (.int v) = some (gm bs (up2 K 7 3 v) S) := px_pt_c (i := 7) (upd (K 7) 3 v) (by decide) rfl (Nat.le_of_ble_eq_true rfl) rfl
theorem g7_4 (bs : Nat) (K S : Kp) : px_gi 3 4 (gm bs K S) (bs + 7) = some (K 7 4) := px_gi_of (gm_c (by decide)) rfl
theorem p7_4 (bs : Nat) (K S : Kp) (v : Int32) : px_pt 3 4 (gm bs K S) (bs + 7) (.int v) = some (gm bs (up2 K 7 4 v) S) := px_pt_c (i := 7) (upd (K 7) 4 v) (by decide) rfl (Nat.le_of_ble_eq_true rfl) rfl
theorem g7_5 (bs : Nat) (K S : Kp) : px_gi 3 5 (gm bs K S) (bs + 7) = some (K 7 5) := px_gi_of (gm_c (by decide)) rfl
theorem p7_5 (bs : Nat) (K S : Kp) (v : Int32) : px_pt 3 5 (gm bs K S) (bs + 7) (.int v) = some (gm bs (up2 K 7 5 v) S) := px_pt_c (i := 7) (upd (K 7) 5 v) (by decide) rfl (Nat.le_of_ble_eq_true rfl) rfl
theorem ob_10 (bs : Nat) (K S : Kp) : px_ob 4 (gm bs K S) (bs + 10) = some () := px_ob_of (gm_c (by decide))
theorem g10_0 (bs : Nat) (K S : Kp) : px_gr 4 0 (gm bs K S) (bs + 10) = some (bs + 11) := px_gr_of (gm_c (by decide)) rfl
theorem g10_1 (bs : Nat) (K S : Kp) : px_gr 4 1 (gm bs K S) (bs + 10) = some (bs + 12) := px_gr_of (gm_c (by decide)) rfl
theorem g10_2 (bs : Nat) (K S : Kp) : px_gr 4 2 (gm bs K S) (bs + 10) = some (bs + 13) := px_gr_of (gm_c (by decide)) rfl
theorem g10_3 (bs : Nat) (K S : Kp) : px_gr 4 3 (gm bs K S) (bs + 10) = some (bs + 14) := px_gr_of (gm_c (by decide)) rfl
theorem g10_4 (bs : Nat) (K S : Kp) : px_gi 4 4 (gm bs K S) (bs + 10) = some (K 10 4) := px_gi_of (gm_c (by decide)) rfl
theorem p10_4 (bs : Nat) (K S : Kp) (v : Int32) : px_pt 4 4 (gm bs K S) (bs + 10) (.int v) = some (gm bs (up2 K 10 4 v) S) := px_pt_c (i := 10) (upd (K 10) 4 v) (by decide) rfl (Nat.le_of_ble_eq_true rfl) rfl
theorem ob_16 (bs : Nat) (K S : Kp) : px_ob 5 (gm bs K S) (bs + 16) = some () := px_ob_of (gm_c (by decide))
theorem g16_0 (bs : Nat) (K S : Kp) : px_gr 5 0 (gm bs K S) (bs + 16) = some (bs + 17) := px_gr_of (gm_c (by decide)) rfl
theorem g16_1 (bs : Nat) (K S : Kp) : px_gr 5 1 (gm bs K S) (bs + 16) = some (bs + 18) := px_gr_of (gm_c (by decide)) rfl
theorem g16_2 (bs : Nat) (K S : Kp) : px_gr 5 2 (gm bs K S) (bs + 16) = some (bs + 19) := px_gr_of (gm_c (by decide)) rfl
theorem g16_3 (bs : Nat) (K S : Kp) : px_gr 5 3 (gm bs K S) (bs + 16) = some (bs + 20) := px_gr_of (gm_c (by decide)) rfl
theorem g16_4 (bs : Nat) (K S : Kp) : px_gr 5 4 (gm bs K S) (bs + 16) = some (bs + 21) := px_gr_of (gm_c (by decide)) rfl
theorem g16_5 (bs : Nat) (K S : Kp) : px_gi 5 5 (gm bs K S) (bs + 16) = some (K 16 5) := px_gi_of (gm_c (by decide)) rfl
theorem p16_5 (bs : Nat) (K S : Kp) (v : Int32) : px_pt 5 5 (gm bs K S) (bs + 16) (.int v) = some (gm bs (up2 K 16 5 v) S) := px_pt_c (i := 16) (upd (K 16) 5 v) (by decide) rfl (Nat.le_of_ble_eq_true rfl) rfl
theorem ob_23 (bs : Nat) (K S : Kp) : px_ob 6 (gm bs K S) (bs + 23) = some () := px_ob_of (gm_c (by decide))
theorem g23_0 (bs : Nat) (K S : Kp) : px_gr 6 0 (gm bs K S) (bs + 23) = some (bs + 15) := px_gr_of (gm_c (by decide)) rfl
theorem g23_1 (bs : Nat) (K S : Kp) : px_gr 6 1 (gm bs K S) (bs + 23) = some (bs + 16) := px_gr_of (gm_c (by decide)) rfl
theorem g23_2 (bs : Nat) (K S : Kp) : px_gr 6 2 (gm bs K S) (bs + 23) = some (bs + 24) := px_gr_of (gm_c (by decide)) rfl
theorem g23_3 (bs : Nat) (K S : Kp) : px_gr 6 3 (gm bs K S) (bs + 23) = some (bs + 25) := px_gr_of (gm_c (by decide)) rfl
theorem ob_26 (bs : Nat) (K S : Kp) : px_ob 7 (gm bs K S) (bs + 26) = some () := px_ob_of (gm_c (by decide))
theorem g26_0 (bs : Nat) (K S : Kp) : px_gr 7 0 (gm bs K S) (bs + 26) = some (bs + 15) := px_gr_of (gm_c (by decide)) rfl
theorem g26_1 (bs : Nat) (K S : Kp) : px_gr 7 1 (gm bs K S) (bs + 26) = some (bs + 10) := px_gr_of (gm_c (by decide)) rfl
theorem g26_2 (bs : Nat) (K S : Kp) : px_gr 7 2 (gm bs K S) (bs + 26) = some (bs + 27) := px_gr_of (gm_c (by decide)) rfl
theorem g26_3 (bs : Nat) (K S : Kp) {n : Nat} (h : K 26 3 = nI n) (h0 : 0 < n) (h1 : n < 2 ^ 31) : px_gr 7 3 (gm bs K S) (bs + 26) = some (bs + n) := by
  refine px_gr_of (gm_c (by decide)) ?_
  show some (dyn bs (K 26 3)) = _
  rw [h, dyn, if_neg (nI_ne0 h0 h1), nI_clamp h1]
theorem p26_3 (bs : Nat) (K S : Kp) {n : Nat} (h0 : 0 < n) (h1 : n < 2 ^ 31) : px_pt 7 3 (gm bs K S) (bs + 26) (.ref (bs + n)) = some (gm bs (up2 K 26 3 (nI n)) S) := by
  rw [dyn_r h0 h1]
  exact px_pt_c (i := 26) (upd (K 26) 3 (nI n)) (by decide) rfl (Nat.le_of_ble_eq_true rfl) rfl
theorem g26_4 (bs : Nat) (K S : Kp) : px_gi 7 4 (gm bs K S) (bs + 26) = some (K 26 4) := px_gi_of (gm_c (by decide)) rfl
theorem p26_4 (bs : Nat) (K S : Kp) (v : Int32) : px_pt 7 4 (gm bs K S) (bs + 26) (.int v) = some (gm bs (up2 K 26 4 v) S) := px_pt_c (i := 26) (upd (K 26) 4 v) (by decide) rfl (Nat.le_of_ble_eq_true rfl) rfl
theorem g26_5 (bs : Nat) (K S : Kp) : px_gi 7 5 (gm bs K S) (bs + 26) = some (K 26 5) := px_gi_of (gm_c (by decide)) rfl
theorem p26_5 (bs : Nat) (K S : Kp) (v : Int32) : px_pt 7 5 (gm bs K S) (bs + 26) (.int v) = some (gm bs (up2 K 26 5 v) S) := px_pt_c (i := 26) (upd (K 26) 5 v) (by decide) rfl (Nat.le_of_ble_eq_true rfl) rfl
theorem g26_6 (bs : Nat) (K S : Kp) : px_gi 7 6 (gm bs K S) (bs + 26) = some (K 26 6) := px_gi_of (gm_c (by decide)) rfl
theorem p26_6 (bs : Nat) (K S : Kp) (v : Int32) : px_pt 7 6 (gm bs K S) (bs + 26) (.int v) = some (gm bs (up2 K 26 6 v) S) := px_pt_c (i := 26) (upd (K 26) 6 v) (by decide) rfl (Nat.le_of_ble_eq_true rfl) rfl
theorem g26_7 (bs : Nat) (K S : Kp) : px_gi 7 7 (gm bs K S) (bs + 26) = some (K 26 7) := px_gi_of (gm_c (by decide)) rfl
theorem p26_7 (bs : Nat) (K S : Kp) (v : Int32) : px_pt 7 7 (gm bs K S) (bs + 26) (.int v) = some (gm bs (up2 K 26 7 v) S) := px_pt_c (i := 26) (upd (K 26) 7 v) (by decide) rfl (Nat.le_of_ble_eq_true rfl) rfl
theorem g26_8 (bs : Nat) (K S : Kp) : px_gi 7 8 (gm bs K S) (bs + 26) = some (K 26 8) := px_gi_of (gm_c (by decide)) rfl
theorem p26_8 (bs : Nat) (K S : Kp) (v : Int32) : px_pt 7 8 (gm bs K S) (bs + 26) (.int v) = some (gm bs (up2 K 26 8 v) S) := px_pt_c (i := 26) (upd (K 26) 8 v) (by decide) rfl (Nat.le_of_ble_eq_true rfl) rfl
theorem ob_28 (bs : Nat) (K S : Kp) : px_ob 8 (gm bs K S) (bs + 28) = some () := px_ob_of (gm_c (by decide))
theorem g28_0 (bs : Nat) (K S : Kp) : px_gr 8 0 (gm bs K S) (bs + 28) = some (bs + 15) := px_gr_of (gm_c (by decide)) rfl
theorem g28_1 (bs : Nat) (K S : Kp) : px_gr 8 1 (gm bs K S) (bs + 28) = some (bs + 16) := px_gr_of (gm_c (by decide)) rfl
theorem g28_2 (bs : Nat) (K S : Kp) : px_gr 8 2 (gm bs K S) (bs + 28) = some (bs + 29) := px_gr_of (gm_c (by decide)) rfl
theorem g28_3 (bs : Nat) (K S : Kp) : px_gr 8 3 (gm bs K S) (bs + 28) = some (bs + 30) := px_gr_of (gm_c (by decide)) rfl
theorem g28_4 (bs : Nat) (K S : Kp) : px_gr 8 4 (gm bs K S) (bs + 28) = some (bs + 31) := px_gr_of (gm_c (by decide)) rfl
theorem g28_5 (bs : Nat) (K S : Kp) : px_gi 8 5 (gm bs K S) (bs + 28) = some (K 28 5) := px_gi_of (gm_c (by decide)) rfl
theorem p28_5 (bs : Nat) (K S : Kp) (v : Int32) : px_pt 8 5 (gm bs K S) (bs + 28) (.int v) = some (gm bs (up2 K 28 5 v) S) := px_pt_c (i := 28) (upd (K 28) 5 v) (by decide) rfl (Nat.le_of_ble_eq_true rfl) rfl
theorem a2 (bs : Nat) (K S : Kp) {j : Nat} (h : j < 100) : px_ai 0 (gm bs K S) (bs + 2) (nI j) = some (K 2 j) := by
  rw [px_ai_of (gm_c (by decide)) (nI_pos (by omega)) (by rw [nI_clamp (by omega)]; exact h), nI_clamp (by omega)]
theorem s2 (bs : Nat) (K S : Kp) {j : Nat} (v : Int32) (h : j < 100) : px_si 0 (gm bs K S) (bs + 2) (nI j) v = some (gm bs (up2 K 2 j v) S) := by
  rw [px_si_of (gm_c (by decide)) (nI_pos (by omega)) (by rw [nI_clamp (by omega)]; exact h), nI_clamp (by omega)]
  exact congrArg some (gm_setc (i := 2) (by decide) _ rfl)
theorem a5 (bs : Nat) (K S : Kp) {j : Nat} (h : j < 5) : px_ai 0 (gm bs K S) (bs + 5) (nI j) = some (K 5 j) := by
  rw [px_ai_of (gm_c (by decide)) (nI_pos (by omega)) (by rw [nI_clamp (by omega)]; exact h), nI_clamp (by omega)]
theorem s5 (bs : Nat) (K S : Kp) {j : Nat} (v : Int32) (h : j < 5) : px_si 0 (gm bs K S) (bs + 5) (nI j) v = some (gm bs (up2 K 5 j v) S) := by
  rw [px_si_of (gm_c (by decide)) (nI_pos (by omega)) (by rw [nI_clamp (by omega)]; exact h), nI_clamp (by omega)]
  exact congrArg some (gm_setc (i := 5) (by decide) _ rfl)
theorem a6 (bs : Nat) (K S : Kp) {j : Nat} (h : j < 5) : px_ai 0 (gm bs K S) (bs + 6) (nI j) = some (K 6 j) := by
  rw [px_ai_of (gm_c (by decide)) (nI_pos (by omega)) (by rw [nI_clamp (by omega)]; exact h), nI_clamp (by omega)]
theorem s6 (bs : Nat) (K S : Kp) {j : Nat} (v : Int32) (h : j < 5) : px_si 0 (gm bs K S) (bs + 6) (nI j) v = some (gm bs (up2 K 6 j v) S) := by
  rw [px_si_of (gm_c (by decide)) (nI_pos (by omega)) (by rw [nI_clamp (by omega)]; exact h), nI_clamp (by omega)]
  exact congrArg some (gm_setc (i := 6) (by decide) _ rfl)
theorem a8 (bs : Nat) (K S : Kp) {j : Nat} (h : j < 5) : px_ai 0 (gm bs K S) (bs + 8) (nI j) = some (K 8 j) := by
  rw [px_ai_of (gm_c (by decide)) (nI_pos (by omega)) (by rw [nI_clamp (by omega)]; exact h), nI_clamp (by omega)]
theorem s8 (bs : Nat) (K S : Kp) {j : Nat} (v : Int32) (h : j < 5) : px_si 0 (gm bs K S) (bs + 8) (nI j) v = some (gm bs (up2 K 8 j v) S) := by
  rw [px_si_of (gm_c (by decide)) (nI_pos (by omega)) (by rw [nI_clamp (by omega)]; exact h), nI_clamp (by omega)]
  exact congrArg some (gm_setc (i := 8) (by decide) _ rfl)
theorem a9 (bs : Nat) (K S : Kp) {j : Nat} (h : j < 5) : px_ai 0 (gm bs K S) (bs + 9) (nI j) = some (K 9 j) := by
  rw [px_ai_of (gm_c (by decide)) (nI_pos (by omega)) (by rw [nI_clamp (by omega)]; exact h), nI_clamp (by omega)]
theorem s9 (bs : Nat) (K S : Kp) {j : Nat} (v : Int32) (h : j < 5) : px_si 0 (gm bs K S) (bs + 9) (nI j) v = some (gm bs (up2 K 9 j v) S) := by
  rw [px_si_of (gm_c (by decide)) (nI_pos (by omega)) (by rw [nI_clamp (by omega)]; exact h), nI_clamp (by omega)]
  exact congrArg some (gm_setc (i := 9) (by decide) _ rfl)
theorem a11 (bs : Nat) (K S : Kp) {j : Nat} (h : j < 95) : px_ai 0 (gm bs K S) (bs + 11) (nI j) = some (K 11 j) := by
  rw [px_ai_of (gm_c (by decide)) (nI_pos (by omega)) (by rw [nI_clamp (by omega)]; exact h), nI_clamp (by omega)]
theorem s11 (bs : Nat) (K S : Kp) {j : Nat} (v : Int32) (h : j < 95) : px_si 0 (gm bs K S) (bs + 11) (nI j) v = some (gm bs (up2 K 11 j v) S) := by
  rw [px_si_of (gm_c (by decide)) (nI_pos (by omega)) (by rw [nI_clamp (by omega)]; exact h), nI_clamp (by omega)]
  exact congrArg some (gm_setc (i := 11) (by decide) _ rfl)
theorem a12 (bs : Nat) (K S : Kp) {j : Nat} (h : j < 60) : px_ai 0 (gm bs K S) (bs + 12) (nI j) = some (K 12 j) := by
  rw [px_ai_of (gm_c (by decide)) (nI_pos (by omega)) (by rw [nI_clamp (by omega)]; exact h), nI_clamp (by omega)]
theorem s12 (bs : Nat) (K S : Kp) {j : Nat} (v : Int32) (h : j < 60) : px_si 0 (gm bs K S) (bs + 12) (nI j) v = some (gm bs (up2 K 12 j v) S) := by
  rw [px_si_of (gm_c (by decide)) (nI_pos (by omega)) (by rw [nI_clamp (by omega)]; exact h), nI_clamp (by omega)]
  exact congrArg some (gm_setc (i := 12) (by decide) _ rfl)
theorem a13 (bs : Nat) (K S : Kp) {j : Nat} (h : j < 60) : px_ai 0 (gm bs K S) (bs + 13) (nI j) = some (K 13 j) := by
  rw [px_ai_of (gm_c (by decide)) (nI_pos (by omega)) (by rw [nI_clamp (by omega)]; exact h), nI_clamp (by omega)]
theorem s13 (bs : Nat) (K S : Kp) {j : Nat} (v : Int32) (h : j < 60) : px_si 0 (gm bs K S) (bs + 13) (nI j) v = some (gm bs (up2 K 13 j v) S) := by
  rw [px_si_of (gm_c (by decide)) (nI_pos (by omega)) (by rw [nI_clamp (by omega)]; exact h), nI_clamp (by omega)]
  exact congrArg some (gm_setc (i := 13) (by decide) _ rfl)
theorem a14 (bs : Nat) (K S : Kp) {j : Nat} (h : j < 60) : px_ai 0 (gm bs K S) (bs + 14) (nI j) = some (K 14 j) := by
  rw [px_ai_of (gm_c (by decide)) (nI_pos (by omega)) (by rw [nI_clamp (by omega)]; exact h), nI_clamp (by omega)]
theorem s14 (bs : Nat) (K S : Kp) {j : Nat} (v : Int32) (h : j < 60) : px_si 0 (gm bs K S) (bs + 14) (nI j) v = some (gm bs (up2 K 14 j v) S) := by
  rw [px_si_of (gm_c (by decide)) (nI_pos (by omega)) (by rw [nI_clamp (by omega)]; exact h), nI_clamp (by omega)]
  exact congrArg some (gm_setc (i := 14) (by decide) _ rfl)
theorem a17 (bs : Nat) (K S : Kp) {j : Nat} (h : j < 24) : px_ai 0 (gm bs K S) (bs + 17) (nI j) = some (K 17 j) := by
  rw [px_ai_of (gm_c (by decide)) (nI_pos (by omega)) (by rw [nI_clamp (by omega)]; exact h), nI_clamp (by omega)]
theorem s17 (bs : Nat) (K S : Kp) {j : Nat} (v : Int32) (h : j < 24) : px_si 0 (gm bs K S) (bs + 17) (nI j) v = some (gm bs (up2 K 17 j v) S) := by
  rw [px_si_of (gm_c (by decide)) (nI_pos (by omega)) (by rw [nI_clamp (by omega)]; exact h), nI_clamp (by omega)]
  exact congrArg some (gm_setc (i := 17) (by decide) _ rfl)
theorem a18 (bs : Nat) (K S : Kp) {j : Nat} (h : j < 24) : px_ai 0 (gm bs K S) (bs + 18) (nI j) = some (K 18 j) := by
  rw [px_ai_of (gm_c (by decide)) (nI_pos (by omega)) (by rw [nI_clamp (by omega)]; exact h), nI_clamp (by omega)]
theorem s18 (bs : Nat) (K S : Kp) {j : Nat} (v : Int32) (h : j < 24) : px_si 0 (gm bs K S) (bs + 18) (nI j) v = some (gm bs (up2 K 18 j v) S) := by
  rw [px_si_of (gm_c (by decide)) (nI_pos (by omega)) (by rw [nI_clamp (by omega)]; exact h), nI_clamp (by omega)]
  exact congrArg some (gm_setc (i := 18) (by decide) _ rfl)
theorem a19 (bs : Nat) (K S : Kp) {j : Nat} (h : j < 24) : px_ai 0 (gm bs K S) (bs + 19) (nI j) = some (K 19 j) := by
  rw [px_ai_of (gm_c (by decide)) (nI_pos (by omega)) (by rw [nI_clamp (by omega)]; exact h), nI_clamp (by omega)]
theorem s19 (bs : Nat) (K S : Kp) {j : Nat} (v : Int32) (h : j < 24) : px_si 0 (gm bs K S) (bs + 19) (nI j) v = some (gm bs (up2 K 19 j v) S) := by
  rw [px_si_of (gm_c (by decide)) (nI_pos (by omega)) (by rw [nI_clamp (by omega)]; exact h), nI_clamp (by omega)]
  exact congrArg some (gm_setc (i := 19) (by decide) _ rfl)
theorem a20 (bs : Nat) (K S : Kp) {j : Nat} (h : j < 24) : px_ai 0 (gm bs K S) (bs + 20) (nI j) = some (K 20 j) := by
  rw [px_ai_of (gm_c (by decide)) (nI_pos (by omega)) (by rw [nI_clamp (by omega)]; exact h), nI_clamp (by omega)]
theorem s20 (bs : Nat) (K S : Kp) {j : Nat} (v : Int32) (h : j < 24) : px_si 0 (gm bs K S) (bs + 20) (nI j) v = some (gm bs (up2 K 20 j v) S) := by
  rw [px_si_of (gm_c (by decide)) (nI_pos (by omega)) (by rw [nI_clamp (by omega)]; exact h), nI_clamp (by omega)]
  exact congrArg some (gm_setc (i := 20) (by decide) _ rfl)
theorem a21 (bs : Nat) (K S : Kp) {j : Nat} (h : j < 10) : px_ai 0 (gm bs K S) (bs + 21) (nI j) = some (K 21 j) := by
  rw [px_ai_of (gm_c (by decide)) (nI_pos (by omega)) (by rw [nI_clamp (by omega)]; exact h), nI_clamp (by omega)]
theorem s21 (bs : Nat) (K S : Kp) {j : Nat} (v : Int32) (h : j < 10) : px_si 0 (gm bs K S) (bs + 21) (nI j) v = some (gm bs (up2 K 21 j v) S) := by
  rw [px_si_of (gm_c (by decide)) (nI_pos (by omega)) (by rw [nI_clamp (by omega)]; exact h), nI_clamp (by omega)]
  exact congrArg some (gm_setc (i := 21) (by decide) _ rfl)
theorem a24 (bs : Nat) (K S : Kp) {j : Nat} (h : j < 5) : px_ai 0 (gm bs K S) (bs + 24) (nI j) = some (K 24 j) := by
  rw [px_ai_of (gm_c (by decide)) (nI_pos (by omega)) (by rw [nI_clamp (by omega)]; exact h), nI_clamp (by omega)]
theorem s24 (bs : Nat) (K S : Kp) {j : Nat} (v : Int32) (h : j < 5) : px_si 0 (gm bs K S) (bs + 24) (nI j) v = some (gm bs (up2 K 24 j v) S) := by
  rw [px_si_of (gm_c (by decide)) (nI_pos (by omega)) (by rw [nI_clamp (by omega)]; exact h), nI_clamp (by omega)]
  exact congrArg some (gm_setc (i := 24) (by decide) _ rfl)
theorem a25 (bs : Nat) (K S : Kp) {j : Nat} (h : j < 5) : px_ai 0 (gm bs K S) (bs + 25) (nI j) = some (K 25 j) := by
  rw [px_ai_of (gm_c (by decide)) (nI_pos (by omega)) (by rw [nI_clamp (by omega)]; exact h), nI_clamp (by omega)]
theorem s25 (bs : Nat) (K S : Kp) {j : Nat} (v : Int32) (h : j < 5) : px_si 0 (gm bs K S) (bs + 25) (nI j) v = some (gm bs (up2 K 25 j v) S) := by
  rw [px_si_of (gm_c (by decide)) (nI_pos (by omega)) (by rw [nI_clamp (by omega)]; exact h), nI_clamp (by omega)]
  exact congrArg some (gm_setc (i := 25) (by decide) _ rfl)
theorem a27 (bs : Nat) (K S : Kp) {j : Nat} (h : j < 5) : px_ai 0 (gm bs K S) (bs + 27) (nI j) = some (K 27 j) := by
  rw [px_ai_of (gm_c (by decide)) (nI_pos (by omega)) (by rw [nI_clamp (by omega)]; exact h), nI_clamp (by omega)]
theorem s27 (bs : Nat) (K S : Kp) {j : Nat} (v : Int32) (h : j < 5) : px_si 0 (gm bs K S) (bs + 27) (nI j) v = some (gm bs (up2 K 27 j v) S) := by
  rw [px_si_of (gm_c (by decide)) (nI_pos (by omega)) (by rw [nI_clamp (by omega)]; exact h), nI_clamp (by omega)]
  exact congrArg some (gm_setc (i := 27) (by decide) _ rfl)
theorem a29 (bs : Nat) (K S : Kp) {j : Nat} (h : j < 40) : px_ai 0 (gm bs K S) (bs + 29) (nI j) = some (K 29 j) := by
  rw [px_ai_of (gm_c (by decide)) (nI_pos (by omega)) (by rw [nI_clamp (by omega)]; exact h), nI_clamp (by omega)]
theorem s29 (bs : Nat) (K S : Kp) {j : Nat} (v : Int32) (h : j < 40) : px_si 0 (gm bs K S) (bs + 29) (nI j) v = some (gm bs (up2 K 29 j v) S) := by
  rw [px_si_of (gm_c (by decide)) (nI_pos (by omega)) (by rw [nI_clamp (by omega)]; exact h), nI_clamp (by omega)]
  exact congrArg some (gm_setc (i := 29) (by decide) _ rfl)
theorem a30 (bs : Nat) (K S : Kp) {j : Nat} (h : j < 40) : px_ai 0 (gm bs K S) (bs + 30) (nI j) = some (K 30 j) := by
  rw [px_ai_of (gm_c (by decide)) (nI_pos (by omega)) (by rw [nI_clamp (by omega)]; exact h), nI_clamp (by omega)]
theorem s30 (bs : Nat) (K S : Kp) {j : Nat} (v : Int32) (h : j < 40) : px_si 0 (gm bs K S) (bs + 30) (nI j) v = some (gm bs (up2 K 30 j v) S) := by
  rw [px_si_of (gm_c (by decide)) (nI_pos (by omega)) (by rw [nI_clamp (by omega)]; exact h), nI_clamp (by omega)]
  exact congrArg some (gm_setc (i := 30) (by decide) _ rfl)
theorem a31 (bs : Nat) (K S : Kp) {j : Nat} (h : j < 40) : px_ai 0 (gm bs K S) (bs + 31) (nI j) = some (K 31 j) := by
  rw [px_ai_of (gm_c (by decide)) (nI_pos (by omega)) (by rw [nI_clamp (by omega)]; exact h), nI_clamp (by omega)]
theorem s31 (bs : Nat) (K S : Kp) {j : Nat} (v : Int32) (h : j < 40) : px_si 0 (gm bs K S) (bs + 31) (nI j) v = some (gm bs (up2 K 31 j v) S) := by
  rw [px_si_of (gm_c (by decide)) (nI_pos (by omega)) (by rw [nI_clamp (by omega)]; exact h), nI_clamp (by omega)]
  exact congrArg some (gm_setc (i := 31) (by decide) _ rfl)
theorem cc_na {bs j : Nat} (h : j < 10) (r : Nat → Int32) : cc bs (32 + 2 * j) r = .inr (9, [.ref (bs + (33 + 2 * j)), .int (r 1), .int (r 2)]) := by
  rcases (show j = 0 ∨ j = 1 ∨ j = 2 ∨ j = 3 ∨ j = 4 ∨ j = 5 ∨ j = 6 ∨ j = 7 ∨ j = 8 ∨ j = 9 by omega) with rfl | rfl | rfl | rfl | rfl | rfl | rfl | rfl | rfl | rfl <;> rfl
theorem cc_ns {bs j : Nat} (h : j < 10) (r : Nat → Int32) : cc bs (33 + 2 * j) r = .inl (0, 12, .inl r) := by
  rcases (show j = 0 ∨ j = 1 ∨ j = 2 ∨ j = 3 ∨ j = 4 ∨ j = 5 ∨ j = 6 ∨ j = 7 ∨ j = 8 ∨ j = 9 by omega) with rfl | rfl | rfl | rfl | rfl | rfl | rfl | rfl | rfl | rfl <;> rfl
theorem cc_bo {bs j : Nat} (h : j < 8) (r : Nat → Int32) : cc bs (52 + 3 * j) r = .inr (10, [.ref (bs + (53 + 3 * j)), .ref (bs + (54 + 3 * j)), .int (r 2), .int (r 3), .int (r 4)]) := by
  rcases (show j = 0 ∨ j = 1 ∨ j = 2 ∨ j = 3 ∨ j = 4 ∨ j = 5 ∨ j = 6 ∨ j = 7 by omega) with rfl | rfl | rfl | rfl | rfl | rfl | rfl | rfl <;> rfl
theorem cc_bn {bs j : Nat} (h : j < 8) (r : Nat → Int32) : cc bs (53 + 3 * j) r = .inl (0, 5, .inl r) := by
  rcases (show j = 0 ∨ j = 1 ∨ j = 2 ∨ j = 3 ∨ j = 4 ∨ j = 5 ∨ j = 6 ∨ j = 7 by omega) with rfl | rfl | rfl | rfl | rfl | rfl | rfl | rfl <;> rfl
theorem cc_ba {bs j : Nat} (h : j < 8) (r : Nat → Int32) : cc bs (54 + 3 * j) r = .inl (0, 5, .inl r) := by
  rcases (show j = 0 ∨ j = 1 ∨ j = 2 ∨ j = 3 ∨ j = 4 ∨ j = 5 ∨ j = 6 ∨ j = 7 by omega) with rfl | rfl | rfl | rfl | rfl | rfl | rfl | rfl <;> rfl
theorem ar15 (bs : Nat) (K S : Kp) {j : Nat} (h : j < 10) : px_ar 1 (gm bs K S) (bs + 15) (nI j) = some (bs + (32 + 2 * j)) := by
  rw [px_ar_of (gm_c (i := 15) (by decide)) (nI_pos (by omega)) (by rw [nI_clamp (by omega)]; exact h), nI_clamp (by omega)]
  exact if_pos h
theorem ar22 (bs : Nat) (K S : Kp) {j : Nat} (h : j < 8) : px_ar 2 (gm bs K S) (bs + 22) (nI j) = some (bs + (52 + 3 * j)) := by
  rw [px_ar_of (gm_c (i := 22) (by decide)) (nI_pos (by omega)) (by rw [nI_clamp (by omega)]; exact h), nI_clamp (by omega)]
  exact if_pos h
theorem ob_na (bs : Nat) (K S : Kp) {j : Nat} (h : j < 10) : px_ob 9 (gm bs K S) (bs + (32 + 2 * j)) = some () := px_ob_of ((gm_c (by omega)).trans (congrArg some (cc_na h _)))
theorem gna_0 (bs : Nat) (K S : Kp) {j : Nat} (h : j < 10) : px_gr 9 0 (gm bs K S) (bs + (32 + 2 * j)) = some (bs + (33 + 2 * j)) := px_gr_of ((gm_c (by omega)).trans (congrArg some (cc_na h _))) rfl
theorem gna_1 (bs : Nat) (K S : Kp) {j : Nat} (h : j < 10) : px_gi 9 1 (gm bs K S) (bs + (32 + 2 * j)) = some (K (32 + 2 * j) 1) := px_gi_of ((gm_c (by omega)).trans (congrArg some (cc_na h _))) rfl
theorem pna_1 (bs : Nat) (K S : Kp) {j : Nat} (v : Int32) (h : j < 10) : px_pt 9 1 (gm bs K S) (bs + (32 + 2 * j)) (.int v) = some (gm bs (up2 K (32 + 2 * j) 1 v) S) := px_pt_c (upd (K (32 + 2 * j)) 1 v) (by omega) (cc_na h _) (Nat.le_of_ble_eq_true rfl) (by rw [cc_na h] <;> rfl)
theorem gna_2 (bs : Nat) (K S : Kp) {j : Nat} (h : j < 10) : px_gi 9 2 (gm bs K S) (bs + (32 + 2 * j)) = some (K (32 + 2 * j) 2) := px_gi_of ((gm_c (by omega)).trans (congrArg some (cc_na h _))) rfl
theorem pna_2 (bs : Nat) (K S : Kp) {j : Nat} (v : Int32) (h : j < 10) : px_pt 9 2 (gm bs K S) (bs + (32 + 2 * j)) (.int v) = some (gm bs (up2 K (32 + 2 * j) 2 v) S) := px_pt_c (upd (K (32 + 2 * j)) 2 v) (by omega) (cc_na h _) (Nat.le_of_ble_eq_true rfl) (by rw [cc_na h] <;> rfl)
theorem ob_bo (bs : Nat) (K S : Kp) {j : Nat} (h : j < 8) : px_ob 10 (gm bs K S) (bs + (52 + 3 * j)) = some () := px_ob_of ((gm_c (by omega)).trans (congrArg some (cc_bo h _)))
theorem gbo_0 (bs : Nat) (K S : Kp) {j : Nat} (h : j < 8) : px_gr 10 0 (gm bs K S) (bs + (52 + 3 * j)) = some (bs + (53 + 3 * j)) := px_gr_of ((gm_c (by omega)).trans (congrArg some (cc_bo h _))) rfl
theorem gbo_1 (bs : Nat) (K S : Kp) {j : Nat} (h : j < 8) : px_gr 10 1 (gm bs K S) (bs + (52 + 3 * j)) = some (bs + (54 + 3 * j)) := px_gr_of ((gm_c (by omega)).trans (congrArg some (cc_bo h _))) rfl
theorem gbo_2 (bs : Nat) (K S : Kp) {j : Nat} (h : j < 8) : px_gi 10 2 (gm bs K S) (bs + (52 + 3 * j)) = some (K (52 + 3 * j) 2) := px_gi_of ((gm_c (by omega)).trans (congrArg some (cc_bo h _))) rfl
theorem pbo_2 (bs : Nat) (K S : Kp) {j : Nat} (v : Int32) (h : j < 8) : px_pt 10 2 (gm bs K S) (bs + (52 + 3 * j)) (.int v) = some (gm bs (up2 K (52 + 3 * j) 2 v) S) := px_pt_c (upd (K (52 + 3 * j)) 2 v) (by omega) (cc_bo h _) (Nat.le_of_ble_eq_true rfl) (by rw [cc_bo h] <;> rfl)
theorem gbo_3 (bs : Nat) (K S : Kp) {j : Nat} (h : j < 8) : px_gi 10 3 (gm bs K S) (bs + (52 + 3 * j)) = some (K (52 + 3 * j) 3) := px_gi_of ((gm_c (by omega)).trans (congrArg some (cc_bo h _))) rfl
theorem pbo_3 (bs : Nat) (K S : Kp) {j : Nat} (v : Int32) (h : j < 8) : px_pt 10 3 (gm bs K S) (bs + (52 + 3 * j)) (.int v) = some (gm bs (up2 K (52 + 3 * j) 3 v) S) := px_pt_c (upd (K (52 + 3 * j)) 3 v) (by omega) (cc_bo h _) (Nat.le_of_ble_eq_true rfl) (by rw [cc_bo h] <;> rfl)
theorem gbo_4 (bs : Nat) (K S : Kp) {j : Nat} (h : j < 8) : px_gi 10 4 (gm bs K S) (bs + (52 + 3 * j)) = some (K (52 + 3 * j) 4) := px_gi_of ((gm_c (by omega)).trans (congrArg some (cc_bo h _))) rfl
theorem pbo_4 (bs : Nat) (K S : Kp) {j : Nat} (v : Int32) (h : j < 8) : px_pt 10 4 (gm bs K S) (bs + (52 + 3 * j)) (.int v) = some (gm bs (up2 K (52 + 3 * j) 4 v) S) := px_pt_c (upd (K (52 + 3 * j)) 4 v) (by omega) (cc_bo h _) (Nat.le_of_ble_eq_true rfl) (by rw [cc_bo h] <;> rfl)
theorem ans (bs : Nat) (K S : Kp) {j i : Nat} (h : j < 10) (hi : i < 12) : px_ai 0 (gm bs K S) (bs + (33 + 2 * j)) (nI i) = some (K (33 + 2 * j) i) := by
  rw [px_ai_of ((gm_c (by omega)).trans (congrArg some (cc_ns h _))) (nI_pos (by omega)) (by rw [nI_clamp (by omega)]; exact hi), nI_clamp (by omega)]
theorem sns (bs : Nat) (K S : Kp) {j i : Nat} (v : Int32) (h : j < 10) (hi : i < 12) : px_si 0 (gm bs K S) (bs + (33 + 2 * j)) (nI i) v = some (gm bs (up2 K (33 + 2 * j) i v) S) := by
  rw [px_si_of ((gm_c (by omega)).trans (congrArg some (cc_ns h _))) (nI_pos (by omega)) (by rw [nI_clamp (by omega)]; exact hi), nI_clamp (by omega)]
  exact congrArg some (gm_setc (by omega) _ (by rw [cc_ns h]))
theorem abn (bs : Nat) (K S : Kp) {j i : Nat} (h : j < 8) (hi : i < 5) : px_ai 0 (gm bs K S) (bs + (53 + 3 * j)) (nI i) = some (K (53 + 3 * j) i) := by
  rw [px_ai_of ((gm_c (by omega)).trans (congrArg some (cc_bn h _))) (nI_pos (by omega)) (by rw [nI_clamp (by omega)]; exact hi), nI_clamp (by omega)]
theorem sbn (bs : Nat) (K S : Kp) {j i : Nat} (v : Int32) (h : j < 8) (hi : i < 5) : px_si 0 (gm bs K S) (bs + (53 + 3 * j)) (nI i) v = some (gm bs (up2 K (53 + 3 * j) i v) S) := by
  rw [px_si_of ((gm_c (by omega)).trans (congrArg some (cc_bn h _))) (nI_pos (by omega)) (by rw [nI_clamp (by omega)]; exact hi), nI_clamp (by omega)]
  exact congrArg some (gm_setc (by omega) _ (by rw [cc_bn h]))
theorem aba (bs : Nat) (K S : Kp) {j i : Nat} (h : j < 8) (hi : i < 5) : px_ai 0 (gm bs K S) (bs + (54 + 3 * j)) (nI i) = some (K (54 + 3 * j) i) := by
  rw [px_ai_of ((gm_c (by omega)).trans (congrArg some (cc_ba h _))) (nI_pos (by omega)) (by rw [nI_clamp (by omega)]; exact hi), nI_clamp (by omega)]
theorem sba (bs : Nat) (K S : Kp) {j i : Nat} (v : Int32) (h : j < 8) (hi : i < 5) : px_si 0 (gm bs K S) (bs + (54 + 3 * j)) (nI i) v = some (gm bs (up2 K (54 + 3 * j) i v) S) := by
  rw [px_si_of ((gm_c (by omega)).trans (congrArg some (cc_ba h _))) (nI_pos (by omega)) (by rw [nI_clamp (by omega)]; exact hi), nI_clamp (by omega)]
  exact congrArg some (gm_setc (by omega) _ (by rw [cc_ba h]))
theorem m_ob (bs : Nat) (K S : Kp) : px_ob 11 (gm bs K S) (bs + 76) = some () := px_ob_of (gm_m (j := 0) rfl (by decide))
theorem m0 (bs : Nat) (K S : Kp) : px_gi 11 0 (gm bs K S) (bs + 76) = some (S 0 0) := px_gi_of (gm_m (j := 0) rfl (by decide)) rfl
theorem mp0 (bs : Nat) (K S : Kp) (v : Int32) : px_pt 11 0 (gm bs K S) (bs + 76) (.int v) = some (gm bs K (up2 S 0 0 v)) := px_pt_m (j := 0) (upd (S 0) 0 v) rfl (by decide) rfl (Nat.le_of_ble_eq_true rfl) rfl
theorem m1 (bs : Nat) (K S : Kp) : px_gr 11 1 (gm bs K S) (bs + 76) = some (bs + 77) := px_gr_of (gm_m (j := 0) rfl (by decide)) rfl
theorem m2 (bs : Nat) (K S : Kp) : px_gi 11 2 (gm bs K S) (bs + 76) = some (S 0 2) := px_gi_of (gm_m (j := 0) rfl (by decide)) rfl
theorem mp2 (bs : Nat) (K S : Kp) (v : Int32) : px_pt 11 2 (gm bs K S) (bs + 76) (.int v) = some (gm bs K (up2 S 0 2 v)) := px_pt_m (j := 0) (upd (S 0) 2 v) rfl (by decide) rfl (Nat.le_of_ble_eq_true rfl) rfl
theorem m3 (bs : Nat) (K S : Kp) : px_gr 11 3 (gm bs K S) (bs + 76) = some (bs + 78) := px_gr_of (gm_m (j := 0) rfl (by decide)) rfl
theorem m4 (bs : Nat) (K S : Kp) : px_gr 11 4 (gm bs K S) (bs + 76) = some (bs + 79) := px_gr_of (gm_m (j := 0) rfl (by decide)) rfl
theorem m5 (bs : Nat) (K S : Kp) : px_gi 11 5 (gm bs K S) (bs + 76) = some (S 0 5) := px_gi_of (gm_m (j := 0) rfl (by decide)) rfl
theorem mp5 (bs : Nat) (K S : Kp) (v : Int32) : px_pt 11 5 (gm bs K S) (bs + 76) (.int v) = some (gm bs K (up2 S 0 5 v)) := px_pt_m (j := 0) (upd (S 0) 5 v) rfl (by decide) rfl (Nat.le_of_ble_eq_true rfl) rfl
theorem m6 (bs : Nat) (K S : Kp) : px_gi 11 6 (gm bs K S) (bs + 76) = some (S 0 6) := px_gi_of (gm_m (j := 0) rfl (by decide)) rfl
theorem mp6 (bs : Nat) (K S : Kp) (v : Int32) : px_pt 11 6 (gm bs K S) (bs + 76) (.int v) = some (gm bs K (up2 S 0 6 v)) := px_pt_m (j := 0) (upd (S 0) 6 v) rfl (by decide) rfl (Nat.le_of_ble_eq_true rfl) rfl
theorem m7 (bs : Nat) (K S : Kp) : px_gi 11 7 (gm bs K S) (bs + 76) = some (S 0 7) := px_gi_of (gm_m (j := 0) rfl (by decide)) rfl
theorem mp7 (bs : Nat) (K S : Kp) (v : Int32) : px_pt 11 7 (gm bs K S) (bs + 76) (.int v) = some (gm bs K (up2 S 0 7 v)) := px_pt_m (j := 0) (upd (S 0) 7 v) rfl (by decide) rfl (Nat.le_of_ble_eq_true rfl) rfl
theorem m8 (bs : Nat) (K S : Kp) : px_gi 11 8 (gm bs K S) (bs + 76) = some (S 0 8) := px_gi_of (gm_m (j := 0) rfl (by decide)) rfl
theorem mp8 (bs : Nat) (K S : Kp) (v : Int32) : px_pt 11 8 (gm bs K S) (bs + 76) (.int v) = some (gm bs K (up2 S 0 8 v)) := px_pt_m (j := 0) (upd (S 0) 8 v) rfl (by decide) rfl (Nat.le_of_ble_eq_true rfl) rfl
theorem m9 (bs : Nat) (K S : Kp) : px_gr 11 9 (gm bs K S) (bs + 76) = some (bs + 80) := px_gr_of (gm_m (j := 0) rfl (by decide)) rfl
theorem m10 (bs : Nat) (K S : Kp) : px_gr 11 10 (gm bs K S) (bs + 76) = some (bs + 81) := px_gr_of (gm_m (j := 0) rfl (by decide)) rfl
theorem m11 (bs : Nat) (K S : Kp) : px_gi 11 11 (gm bs K S) (bs + 76) = some (S 0 11) := px_gi_of (gm_m (j := 0) rfl (by decide)) rfl
theorem mp11 (bs : Nat) (K S : Kp) (v : Int32) : px_pt 11 11 (gm bs K S) (bs + 76) (.int v) = some (gm bs K (up2 S 0 11 v)) := px_pt_m (j := 0) (upd (S 0) 11 v) rfl (by decide) rfl (Nat.le_of_ble_eq_true rfl) rfl
theorem m12 (bs : Nat) (K S : Kp) : px_gi 11 12 (gm bs K S) (bs + 76) = some (S 0 12) := px_gi_of (gm_m (j := 0) rfl (by decide)) rfl
theorem mp12 (bs : Nat) (K S : Kp) (v : Int32) : px_pt 11 12 (gm bs K S) (bs + 76) (.int v) = some (gm bs K (up2 S 0 12 v)) := px_pt_m (j := 0) (upd (S 0) 12 v) rfl (by decide) rfl (Nat.le_of_ble_eq_true rfl) rfl
theorem m13 (bs : Nat) (K S : Kp) : px_gi 11 13 (gm bs K S) (bs + 76) = some (S 0 13) := px_gi_of (gm_m (j := 0) rfl (by decide)) rfl
theorem mp13 (bs : Nat) (K S : Kp) (v : Int32) : px_pt 11 13 (gm bs K S) (bs + 76) (.int v) = some (gm bs K (up2 S 0 13 v)) := px_pt_m (j := 0) (upd (S 0) 13 v) rfl (by decide) rfl (Nat.le_of_ble_eq_true rfl) rfl
theorem m14 (bs : Nat) (K S : Kp) : px_gi 11 14 (gm bs K S) (bs + 76) = some (S 0 14) := px_gi_of (gm_m (j := 0) rfl (by decide)) rfl
theorem mp14 (bs : Nat) (K S : Kp) (v : Int32) : px_pt 11 14 (gm bs K S) (bs + 76) (.int v) = some (gm bs K (up2 S 0 14 v)) := px_pt_m (j := 0) (upd (S 0) 14 v) rfl (by decide) rfl (Nat.le_of_ble_eq_true rfl) rfl
theorem m15 (bs : Nat) (K S : Kp) : px_gi 11 15 (gm bs K S) (bs + 76) = some (S 0 15) := px_gi_of (gm_m (j := 0) rfl (by decide)) rfl
theorem mp15 (bs : Nat) (K S : Kp) (v : Int32) : px_pt 11 15 (gm bs K S) (bs + 76) (.int v) = some (gm bs K (up2 S 0 15 v)) := px_pt_m (j := 0) (upd (S 0) 15 v) rfl (by decide) rfl (Nat.le_of_ble_eq_true rfl) rfl
theorem m16 (bs : Nat) (K S : Kp) : px_gr 11 16 (gm bs K S) (bs + 76) = some (bs + 82) := px_gr_of (gm_m (j := 0) rfl (by decide)) rfl
theorem m17 (bs : Nat) (K S : Kp) : px_gi 11 17 (gm bs K S) (bs + 76) = some (S 0 17) := px_gi_of (gm_m (j := 0) rfl (by decide)) rfl
theorem mp17 (bs : Nat) (K S : Kp) (v : Int32) : px_pt 11 17 (gm bs K S) (bs + 76) (.int v) = some (gm bs K (up2 S 0 17 v)) := px_pt_m (j := 0) (upd (S 0) 17 v) rfl (by decide) rfl (Nat.le_of_ble_eq_true rfl) rfl
theorem m18 (bs : Nat) (K S : Kp) : px_gr 11 18 (gm bs K S) (bs + 76) = some (bs + 83) := px_gr_of (gm_m (j := 0) rfl (by decide)) rfl
theorem m19 (bs : Nat) (K S : Kp) : px_gr 11 19 (gm bs K S) (bs + 76) = some (bs + 84) := px_gr_of (gm_m (j := 0) rfl (by decide)) rfl
theorem m20 (bs : Nat) (K S : Kp) : px_gr 11 20 (gm bs K S) (bs + 76) = some (bs + 85) := px_gr_of (gm_m (j := 0) rfl (by decide)) rfl
theorem m21 (bs : Nat) (K S : Kp) : px_gi 11 21 (gm bs K S) (bs + 76) = some (S 0 21) := px_gi_of (gm_m (j := 0) rfl (by decide)) rfl
theorem mp21 (bs : Nat) (K S : Kp) (v : Int32) : px_pt 11 21 (gm bs K S) (bs + 76) (.int v) = some (gm bs K (up2 S 0 21 v)) := px_pt_m (j := 0) (upd (S 0) 21 v) rfl (by decide) rfl (Nat.le_of_ble_eq_true rfl) rfl
theorem m22 (bs : Nat) (K S : Kp) : px_gr 11 22 (gm bs K S) (bs + 76) = some (bs + 86) := px_gr_of (gm_m (j := 0) rfl (by decide)) rfl
theorem m23 (bs : Nat) (K S : Kp) : px_gr 11 23 (gm bs K S) (bs + 76) = some (bs + 87) := px_gr_of (gm_m (j := 0) rfl (by decide)) rfl
theorem m24 (bs : Nat) (K S : Kp) : px_gr 11 24 (gm bs K S) (bs + 76) = some (bs + 88) := px_gr_of (gm_m (j := 0) rfl (by decide)) rfl
theorem m25 (bs : Nat) (K S : Kp) : px_gi 11 25 (gm bs K S) (bs + 76) = some (S 0 25) := px_gi_of (gm_m (j := 0) rfl (by decide)) rfl
theorem mp25 (bs : Nat) (K S : Kp) (v : Int32) : px_pt 11 25 (gm bs K S) (bs + 76) (.int v) = some (gm bs K (up2 S 0 25 v)) := px_pt_m (j := 0) (upd (S 0) 25 v) rfl (by decide) rfl (Nat.le_of_ble_eq_true rfl) rfl
theorem m26 (bs : Nat) (K S : Kp) : px_gr 11 26 (gm bs K S) (bs + 76) = some (bs + 89) := px_gr_of (gm_m (j := 0) rfl (by decide)) rfl
theorem m27 (bs : Nat) (K S : Kp) : px_gr 11 27 (gm bs K S) (bs + 76) = some (bs + 90) := px_gr_of (gm_m (j := 0) rfl (by decide)) rfl
theorem m28 (bs : Nat) (K S : Kp) : px_gr 11 28 (gm bs K S) (bs + 76) = some (bs + 91) := px_gr_of (gm_m (j := 0) rfl (by decide)) rfl
theorem m29 (bs : Nat) (K S : Kp) : px_gi 11 29 (gm bs K S) (bs + 76) = some (S 0 29) := px_gi_of (gm_m (j := 0) rfl (by decide)) rfl
theorem mp29 (bs : Nat) (K S : Kp) (v : Int32) : px_pt 11 29 (gm bs K S) (bs + 76) (.int v) = some (gm bs K (up2 S 0 29 v)) := px_pt_m (j := 0) (upd (S 0) 29 v) rfl (by decide) rfl (Nat.le_of_ble_eq_true rfl) rfl
theorem m30 (bs : Nat) (K S : Kp) : px_gr 11 30 (gm bs K S) (bs + 76) = some (bs + 92) := px_gr_of (gm_m (j := 0) rfl (by decide)) rfl
theorem m31 (bs : Nat) (K S : Kp) : px_gr 11 31 (gm bs K S) (bs + 76) = some (bs + 93) := px_gr_of (gm_m (j := 0) rfl (by decide)) rfl
theorem m32 (bs : Nat) (K S : Kp) : px_gr 11 32 (gm bs K S) (bs + 76) = some (bs + 94) := px_gr_of (gm_m (j := 0) rfl (by decide)) rfl
theorem m33 (bs : Nat) (K S : Kp) : px_gr 11 33 (gm bs K S) (bs + 76) = some (bs + 95) := px_gr_of (gm_m (j := 0) rfl (by decide)) rfl
theorem m34 (bs : Nat) (K S : Kp) : px_gr 11 34 (gm bs K S) (bs + 76) = some (bs + 96) := px_gr_of (gm_m (j := 0) rfl (by decide)) rfl
theorem m35 (bs : Nat) (K S : Kp) : px_gr 11 35 (gm bs K S) (bs + 76) = some (bs + 97) := px_gr_of (gm_m (j := 0) rfl (by decide)) rfl
theorem m36 (bs : Nat) (K S : Kp) : px_gr 11 36 (gm bs K S) (bs + 76) = some (bs + 98) := px_gr_of (gm_m (j := 0) rfl (by decide)) rfl
theorem m37 (bs : Nat) (K S : Kp) : px_gr 11 37 (gm bs K S) (bs + 76) = some (bs + 99) := px_gr_of (gm_m (j := 0) rfl (by decide)) rfl
theorem m38 (bs : Nat) (K S : Kp) : px_gi 11 38 (gm bs K S) (bs + 76) = some (S 0 38) := px_gi_of (gm_m (j := 0) rfl (by decide)) rfl
theorem mp38 (bs : Nat) (K S : Kp) (v : Int32) : px_pt 11 38 (gm bs K S) (bs + 76) (.int v) = some (gm bs K (up2 S 0 38 v)) := px_pt_m (j := 0) (upd (S 0) 38 v) rfl (by decide) rfl (Nat.le_of_ble_eq_true rfl) rfl
theorem m39 (bs : Nat) (K S : Kp) : px_gi 11 39 (gm bs K S) (bs + 76) = some (S 0 39) := px_gi_of (gm_m (j := 0) rfl (by decide)) rfl
theorem mp39 (bs : Nat) (K S : Kp) (v : Int32) : px_pt 11 39 (gm bs K S) (bs + 76) (.int v) = some (gm bs K (up2 S 0 39 v)) := px_pt_m (j := 0) (upd (S 0) 39 v) rfl (by decide) rfl (Nat.le_of_ble_eq_true rfl) rfl
theorem m40 (bs : Nat) (K S : Kp) : px_gi 11 40 (gm bs K S) (bs + 76) = some (S 0 40) := px_gi_of (gm_m (j := 0) rfl (by decide)) rfl
theorem mp40 (bs : Nat) (K S : Kp) (v : Int32) : px_pt 11 40 (gm bs K S) (bs + 76) (.int v) = some (gm bs K (up2 S 0 40 v)) := px_pt_m (j := 0) (upd (S 0) 40 v) rfl (by decide) rfl (Nat.le_of_ble_eq_true rfl) rfl
theorem m41 (bs : Nat) (K S : Kp) : px_gi 11 41 (gm bs K S) (bs + 76) = some (S 0 41) := px_gi_of (gm_m (j := 0) rfl (by decide)) rfl
theorem mp41 (bs : Nat) (K S : Kp) (v : Int32) : px_pt 11 41 (gm bs K S) (bs + 76) (.int v) = some (gm bs K (up2 S 0 41 v)) := px_pt_m (j := 0) (upd (S 0) 41 v) rfl (by decide) rfl (Nat.le_of_ble_eq_true rfl) rfl
theorem ma1 (bs : Nat) (K S : Kp) {i : Nat} (h : i < 100) : px_ai 0 (gm bs K S) (bs + 77) (nI i) = some (S 1 i) := by
  rw [px_ai_of (gm_m (j := 1) rfl (by decide)) (nI_pos (by omega)) (by rw [nI_clamp (by omega)]; exact h), nI_clamp (by omega)]
theorem ms1 (bs : Nat) (K S : Kp) {i : Nat} (v : Int32) (h : i < 100) : px_si 0 (gm bs K S) (bs + 77) (nI i) v = some (gm bs K (up2 S 1 i v)) := by
  rw [px_si_of (gm_m (j := 1) rfl (by decide)) (nI_pos (by omega)) (by rw [nI_clamp (by omega)]; exact h), nI_clamp (by omega)]
  exact congrArg some (gm_setm (j := 1) rfl (by decide) _ rfl)
theorem ma2 (bs : Nat) (K S : Kp) {i : Nat} (h : i < 6) : px_ai 0 (gm bs K S) (bs + 78) (nI i) = some (S 2 i) := by
  rw [px_ai_of (gm_m (j := 2) rfl (by decide)) (nI_pos (by omega)) (by rw [nI_clamp (by omega)]; exact h), nI_clamp (by omega)]
theorem ms2 (bs : Nat) (K S : Kp) {i : Nat} (v : Int32) (h : i < 6) : px_si 0 (gm bs K S) (bs + 78) (nI i) v = some (gm bs K (up2 S 2 i v)) := by
  rw [px_si_of (gm_m (j := 2) rfl (by decide)) (nI_pos (by omega)) (by rw [nI_clamp (by omega)]; exact h), nI_clamp (by omega)]
  exact congrArg some (gm_setm (j := 2) rfl (by decide) _ rfl)
theorem ma3 (bs : Nat) (K S : Kp) {i : Nat} (h : i < 6) : px_ai 0 (gm bs K S) (bs + 79) (nI i) = some (S 3 i) := by
  rw [px_ai_of (gm_m (j := 3) rfl (by decide)) (nI_pos (by omega)) (by rw [nI_clamp (by omega)]; exact h), nI_clamp (by omega)]
theorem ms3 (bs : Nat) (K S : Kp) {i : Nat} (v : Int32) (h : i < 6) : px_si 0 (gm bs K S) (bs + 79) (nI i) v = some (gm bs K (up2 S 3 i v)) := by
  rw [px_si_of (gm_m (j := 3) rfl (by decide)) (nI_pos (by omega)) (by rw [nI_clamp (by omega)]; exact h), nI_clamp (by omega)]
  exact congrArg some (gm_setm (j := 3) rfl (by decide) _ rfl)
theorem ma4 (bs : Nat) (K S : Kp) {i : Nat} (h : i < 6) : px_ai 0 (gm bs K S) (bs + 80) (nI i) = some (S 4 i) := by
  rw [px_ai_of (gm_m (j := 4) rfl (by decide)) (nI_pos (by omega)) (by rw [nI_clamp (by omega)]; exact h), nI_clamp (by omega)]
theorem ms4 (bs : Nat) (K S : Kp) {i : Nat} (v : Int32) (h : i < 6) : px_si 0 (gm bs K S) (bs + 80) (nI i) v = some (gm bs K (up2 S 4 i v)) := by
  rw [px_si_of (gm_m (j := 4) rfl (by decide)) (nI_pos (by omega)) (by rw [nI_clamp (by omega)]; exact h), nI_clamp (by omega)]
  exact congrArg some (gm_setm (j := 4) rfl (by decide) _ rfl)
theorem ma5 (bs : Nat) (K S : Kp) {i : Nat} (h : i < 6) : px_ai 0 (gm bs K S) (bs + 81) (nI i) = some (S 5 i) := by
  rw [px_ai_of (gm_m (j := 5) rfl (by decide)) (nI_pos (by omega)) (by rw [nI_clamp (by omega)]; exact h), nI_clamp (by omega)]
theorem ms5 (bs : Nat) (K S : Kp) {i : Nat} (v : Int32) (h : i < 6) : px_si 0 (gm bs K S) (bs + 81) (nI i) v = some (gm bs K (up2 S 5 i v)) := by
  rw [px_si_of (gm_m (j := 5) rfl (by decide)) (nI_pos (by omega)) (by rw [nI_clamp (by omega)]; exact h), nI_clamp (by omega)]
  exact congrArg some (gm_setm (j := 5) rfl (by decide) _ rfl)
theorem ma6 (bs : Nat) (K S : Kp) {i : Nat} (h : i < 128) : px_ai 0 (gm bs K S) (bs + 82) (nI i) = some (S 6 i) := by
  rw [px_ai_of (gm_m (j := 6) rfl (by decide)) (nI_pos (by omega)) (by rw [nI_clamp (by omega)]; exact h), nI_clamp (by omega)]
theorem ms6 (bs : Nat) (K S : Kp) {i : Nat} (v : Int32) (h : i < 128) : px_si 0 (gm bs K S) (bs + 82) (nI i) v = some (gm bs K (up2 S 6 i v)) := by
  rw [px_si_of (gm_m (j := 6) rfl (by decide)) (nI_pos (by omega)) (by rw [nI_clamp (by omega)]; exact h), nI_clamp (by omega)]
  exact congrArg some (gm_setm (j := 6) rfl (by decide) _ rfl)
theorem ma7 (bs : Nat) (K S : Kp) {i : Nat} (h : i < 60) : px_ai 0 (gm bs K S) (bs + 83) (nI i) = some (S 7 i) := by
  rw [px_ai_of (gm_m (j := 7) rfl (by decide)) (nI_pos (by omega)) (by rw [nI_clamp (by omega)]; exact h), nI_clamp (by omega)]
theorem ms7 (bs : Nat) (K S : Kp) {i : Nat} (v : Int32) (h : i < 60) : px_si 0 (gm bs K S) (bs + 83) (nI i) v = some (gm bs K (up2 S 7 i v)) := by
  rw [px_si_of (gm_m (j := 7) rfl (by decide)) (nI_pos (by omega)) (by rw [nI_clamp (by omega)]; exact h), nI_clamp (by omega)]
  exact congrArg some (gm_setm (j := 7) rfl (by decide) _ rfl)
theorem ma8 (bs : Nat) (K S : Kp) {i : Nat} (h : i < 60) : px_ai 0 (gm bs K S) (bs + 84) (nI i) = some (S 8 i) := by
  rw [px_ai_of (gm_m (j := 8) rfl (by decide)) (nI_pos (by omega)) (by rw [nI_clamp (by omega)]; exact h), nI_clamp (by omega)]
theorem ms8 (bs : Nat) (K S : Kp) {i : Nat} (v : Int32) (h : i < 60) : px_si 0 (gm bs K S) (bs + 84) (nI i) v = some (gm bs K (up2 S 8 i v)) := by
  rw [px_si_of (gm_m (j := 8) rfl (by decide)) (nI_pos (by omega)) (by rw [nI_clamp (by omega)]; exact h), nI_clamp (by omega)]
  exact congrArg some (gm_setm (j := 8) rfl (by decide) _ rfl)
theorem ma9 (bs : Nat) (K S : Kp) {i : Nat} (h : i < 60) : px_ai 0 (gm bs K S) (bs + 85) (nI i) = some (S 9 i) := by
  rw [px_ai_of (gm_m (j := 9) rfl (by decide)) (nI_pos (by omega)) (by rw [nI_clamp (by omega)]; exact h), nI_clamp (by omega)]
theorem ms9 (bs : Nat) (K S : Kp) {i : Nat} (v : Int32) (h : i < 60) : px_si 0 (gm bs K S) (bs + 85) (nI i) v = some (gm bs K (up2 S 9 i v)) := by
  rw [px_si_of (gm_m (j := 9) rfl (by decide)) (nI_pos (by omega)) (by rw [nI_clamp (by omega)]; exact h), nI_clamp (by omega)]
  exact congrArg some (gm_setm (j := 9) rfl (by decide) _ rfl)
theorem ma10 (bs : Nat) (K S : Kp) {i : Nat} (h : i < 10) : px_ai 0 (gm bs K S) (bs + 86) (nI i) = some (S 10 i) := by
  rw [px_ai_of (gm_m (j := 10) rfl (by decide)) (nI_pos (by omega)) (by rw [nI_clamp (by omega)]; exact h), nI_clamp (by omega)]
theorem ms10 (bs : Nat) (K S : Kp) {i : Nat} (v : Int32) (h : i < 10) : px_si 0 (gm bs K S) (bs + 86) (nI i) v = some (gm bs K (up2 S 10 i v)) := by
  rw [px_si_of (gm_m (j := 10) rfl (by decide)) (nI_pos (by omega)) (by rw [nI_clamp (by omega)]; exact h), nI_clamp (by omega)]
  exact congrArg some (gm_setm (j := 10) rfl (by decide) _ rfl)
theorem ma11 (bs : Nat) (K S : Kp) {i : Nat} (h : i < 120) : px_ai 0 (gm bs K S) (bs + 87) (nI i) = some (S 11 i) := by
  rw [px_ai_of (gm_m (j := 11) rfl (by decide)) (nI_pos (by omega)) (by rw [nI_clamp (by omega)]; exact h), nI_clamp (by omega)]
theorem ms11 (bs : Nat) (K S : Kp) {i : Nat} (v : Int32) (h : i < 120) : px_si 0 (gm bs K S) (bs + 87) (nI i) v = some (gm bs K (up2 S 11 i v)) := by
  rw [px_si_of (gm_m (j := 11) rfl (by decide)) (nI_pos (by omega)) (by rw [nI_clamp (by omega)]; exact h), nI_clamp (by omega)]
  exact congrArg some (gm_setm (j := 11) rfl (by decide) _ rfl)
theorem ma12 (bs : Nat) (K S : Kp) {i : Nat} (h : i < 10) : px_ai 0 (gm bs K S) (bs + 88) (nI i) = some (S 12 i) := by
  rw [px_ai_of (gm_m (j := 12) rfl (by decide)) (nI_pos (by omega)) (by rw [nI_clamp (by omega)]; exact h), nI_clamp (by omega)]
theorem ms12 (bs : Nat) (K S : Kp) {i : Nat} (v : Int32) (h : i < 10) : px_si 0 (gm bs K S) (bs + 88) (nI i) v = some (gm bs K (up2 S 12 i v)) := by
  rw [px_si_of (gm_m (j := 12) rfl (by decide)) (nI_pos (by omega)) (by rw [nI_clamp (by omega)]; exact h), nI_clamp (by omega)]
  exact congrArg some (gm_setm (j := 12) rfl (by decide) _ rfl)
theorem ma13 (bs : Nat) (K S : Kp) {i : Nat} (h : i < 24) : px_ai 0 (gm bs K S) (bs + 89) (nI i) = some (S 13 i) := by
  rw [px_ai_of (gm_m (j := 13) rfl (by decide)) (nI_pos (by omega)) (by rw [nI_clamp (by omega)]; exact h), nI_clamp (by omega)]
theorem ms13 (bs : Nat) (K S : Kp) {i : Nat} (v : Int32) (h : i < 24) : px_si 0 (gm bs K S) (bs + 89) (nI i) v = some (gm bs K (up2 S 13 i v)) := by
  rw [px_si_of (gm_m (j := 13) rfl (by decide)) (nI_pos (by omega)) (by rw [nI_clamp (by omega)]; exact h), nI_clamp (by omega)]
  exact congrArg some (gm_setm (j := 13) rfl (by decide) _ rfl)
theorem ma14 (bs : Nat) (K S : Kp) {i : Nat} (h : i < 24) : px_ai 0 (gm bs K S) (bs + 90) (nI i) = some (S 14 i) := by
  rw [px_ai_of (gm_m (j := 14) rfl (by decide)) (nI_pos (by omega)) (by rw [nI_clamp (by omega)]; exact h), nI_clamp (by omega)]
theorem ms14 (bs : Nat) (K S : Kp) {i : Nat} (v : Int32) (h : i < 24) : px_si 0 (gm bs K S) (bs + 90) (nI i) v = some (gm bs K (up2 S 14 i v)) := by
  rw [px_si_of (gm_m (j := 14) rfl (by decide)) (nI_pos (by omega)) (by rw [nI_clamp (by omega)]; exact h), nI_clamp (by omega)]
  exact congrArg some (gm_setm (j := 14) rfl (by decide) _ rfl)
theorem ma15 (bs : Nat) (K S : Kp) {i : Nat} (h : i < 24) : px_ai 0 (gm bs K S) (bs + 91) (nI i) = some (S 15 i) := by
  rw [px_ai_of (gm_m (j := 15) rfl (by decide)) (nI_pos (by omega)) (by rw [nI_clamp (by omega)]; exact h), nI_clamp (by omega)]
theorem ms15 (bs : Nat) (K S : Kp) {i : Nat} (v : Int32) (h : i < 24) : px_si 0 (gm bs K S) (bs + 91) (nI i) v = some (gm bs K (up2 S 15 i v)) := by
  rw [px_si_of (gm_m (j := 15) rfl (by decide)) (nI_pos (by omega)) (by rw [nI_clamp (by omega)]; exact h), nI_clamp (by omega)]
  exact congrArg some (gm_setm (j := 15) rfl (by decide) _ rfl)
theorem ma16 (bs : Nat) (K S : Kp) {i : Nat} (h : i < 8) : px_ai 0 (gm bs K S) (bs + 92) (nI i) = some (S 16 i) := by
  rw [px_ai_of (gm_m (j := 16) rfl (by decide)) (nI_pos (by omega)) (by rw [nI_clamp (by omega)]; exact h), nI_clamp (by omega)]
theorem ms16 (bs : Nat) (K S : Kp) {i : Nat} (v : Int32) (h : i < 8) : px_si 0 (gm bs K S) (bs + 92) (nI i) v = some (gm bs K (up2 S 16 i v)) := by
  rw [px_si_of (gm_m (j := 16) rfl (by decide)) (nI_pos (by omega)) (by rw [nI_clamp (by omega)]; exact h), nI_clamp (by omega)]
  exact congrArg some (gm_setm (j := 16) rfl (by decide) _ rfl)
theorem ma17 (bs : Nat) (K S : Kp) {i : Nat} (h : i < 8) : px_ai 0 (gm bs K S) (bs + 93) (nI i) = some (S 17 i) := by
  rw [px_ai_of (gm_m (j := 17) rfl (by decide)) (nI_pos (by omega)) (by rw [nI_clamp (by omega)]; exact h), nI_clamp (by omega)]
theorem ms17 (bs : Nat) (K S : Kp) {i : Nat} (v : Int32) (h : i < 8) : px_si 0 (gm bs K S) (bs + 93) (nI i) v = some (gm bs K (up2 S 17 i v)) := by
  rw [px_si_of (gm_m (j := 17) rfl (by decide)) (nI_pos (by omega)) (by rw [nI_clamp (by omega)]; exact h), nI_clamp (by omega)]
  exact congrArg some (gm_setm (j := 17) rfl (by decide) _ rfl)
theorem ma18 (bs : Nat) (K S : Kp) {i : Nat} (h : i < 40) : px_ai 0 (gm bs K S) (bs + 94) (nI i) = some (S 18 i) := by
  rw [px_ai_of (gm_m (j := 18) rfl (by decide)) (nI_pos (by omega)) (by rw [nI_clamp (by omega)]; exact h), nI_clamp (by omega)]
theorem ms18 (bs : Nat) (K S : Kp) {i : Nat} (v : Int32) (h : i < 40) : px_si 0 (gm bs K S) (bs + 94) (nI i) v = some (gm bs K (up2 S 18 i v)) := by
  rw [px_si_of (gm_m (j := 18) rfl (by decide)) (nI_pos (by omega)) (by rw [nI_clamp (by omega)]; exact h), nI_clamp (by omega)]
  exact congrArg some (gm_setm (j := 18) rfl (by decide) _ rfl)
theorem ma19 (bs : Nat) (K S : Kp) {i : Nat} (h : i < 40) : px_ai 0 (gm bs K S) (bs + 95) (nI i) = some (S 19 i) := by
  rw [px_ai_of (gm_m (j := 19) rfl (by decide)) (nI_pos (by omega)) (by rw [nI_clamp (by omega)]; exact h), nI_clamp (by omega)]
theorem ms19 (bs : Nat) (K S : Kp) {i : Nat} (v : Int32) (h : i < 40) : px_si 0 (gm bs K S) (bs + 95) (nI i) v = some (gm bs K (up2 S 19 i v)) := by
  rw [px_si_of (gm_m (j := 19) rfl (by decide)) (nI_pos (by omega)) (by rw [nI_clamp (by omega)]; exact h), nI_clamp (by omega)]
  exact congrArg some (gm_setm (j := 19) rfl (by decide) _ rfl)
theorem ma20 (bs : Nat) (K S : Kp) {i : Nat} (h : i < 8) : px_ai 0 (gm bs K S) (bs + 96) (nI i) = some (S 20 i) := by
  rw [px_ai_of (gm_m (j := 20) rfl (by decide)) (nI_pos (by omega)) (by rw [nI_clamp (by omega)]; exact h), nI_clamp (by omega)]
theorem ms20 (bs : Nat) (K S : Kp) {i : Nat} (v : Int32) (h : i < 8) : px_si 0 (gm bs K S) (bs + 96) (nI i) v = some (gm bs K (up2 S 20 i v)) := by
  rw [px_si_of (gm_m (j := 20) rfl (by decide)) (nI_pos (by omega)) (by rw [nI_clamp (by omega)]; exact h), nI_clamp (by omega)]
  exact congrArg some (gm_setm (j := 20) rfl (by decide) _ rfl)
theorem ma21 (bs : Nat) (K S : Kp) {i : Nat} (h : i < 10) : px_ai 0 (gm bs K S) (bs + 97) (nI i) = some (S 21 i) := by
  rw [px_ai_of (gm_m (j := 21) rfl (by decide)) (nI_pos (by omega)) (by rw [nI_clamp (by omega)]; exact h), nI_clamp (by omega)]
theorem ms21 (bs : Nat) (K S : Kp) {i : Nat} (v : Int32) (h : i < 10) : px_si 0 (gm bs K S) (bs + 97) (nI i) v = some (gm bs K (up2 S 21 i v)) := by
  rw [px_si_of (gm_m (j := 21) rfl (by decide)) (nI_pos (by omega)) (by rw [nI_clamp (by omega)]; exact h), nI_clamp (by omega)]
  exact congrArg some (gm_setm (j := 21) rfl (by decide) _ rfl)
theorem ma22 (bs : Nat) (K S : Kp) {i : Nat} (h : i < 5) : px_ai 0 (gm bs K S) (bs + 98) (nI i) = some (S 22 i) := by
  rw [px_ai_of (gm_m (j := 22) rfl (by decide)) (nI_pos (by omega)) (by rw [nI_clamp (by omega)]; exact h), nI_clamp (by omega)]
theorem ms22 (bs : Nat) (K S : Kp) {i : Nat} (v : Int32) (h : i < 5) : px_si 0 (gm bs K S) (bs + 98) (nI i) v = some (gm bs K (up2 S 22 i v)) := by
  rw [px_si_of (gm_m (j := 22) rfl (by decide)) (nI_pos (by omega)) (by rw [nI_clamp (by omega)]; exact h), nI_clamp (by omega)]
  exact congrArg some (gm_setm (j := 22) rfl (by decide) _ rfl)
theorem ma23 (bs : Nat) (K S : Kp) {i : Nat} (h : i < 5) : px_ai 0 (gm bs K S) (bs + 99) (nI i) = some (S 23 i) := by
  rw [px_ai_of (gm_m (j := 23) rfl (by decide)) (nI_pos (by omega)) (by rw [nI_clamp (by omega)]; exact h), nI_clamp (by omega)]
theorem ms23 (bs : Nat) (K S : Kp) {i : Nat} (v : Int32) (h : i < 5) : px_si 0 (gm bs K S) (bs + 99) (nI i) v = some (gm bs K (up2 S 23 i v)) := by
  rw [px_si_of (gm_m (j := 23) rfl (by decide)) (nI_pos (by omega)) (by rw [nI_clamp (by omega)]; exact h), nI_clamp (by omega)]
  exact congrArg some (gm_setm (j := 23) rfl (by decide) _ rfl)
theorem li0 : (0 : Int32) = nI 0 := rfl
theorem li1 : (1 : Int32) = nI 1 := rfl
theorem li2 : (2 : Int32) = nI 2 := rfl
theorem li3 : (3 : Int32) = nI 3 := rfl
theorem li4 : (4 : Int32) = nI 4 := rfl
theorem li5 : (5 : Int32) = nI 5 := rfl
theorem li6 : (6 : Int32) = nI 6 := rfl
theorem li8 : (8 : Int32) = nI 8 := rfl
theorem li9 : (9 : Int32) = nI 9 := rfl
theorem li10 : (10 : Int32) = nI 10 := rfl
theorem li12 : (12 : Int32) = nI 12 := rfl
theorem li15 : (15 : Int32) = nI 15 := rfl
theorem li16 : (16 : Int32) = nI 16 := rfl
theorem li24 : (24 : Int32) = nI 24 := rfl
theorem li31 : (31 : Int32) = nI 31 := rfl
theorem li32 : (32 : Int32) = nI 32 := rfl
theorem li40 : (40 : Int32) = nI 40 := rfl
theorem li44 : (44 : Int32) = nI 44 := rfl
theorem li48 : (48 : Int32) = nI 48 := rfl
theorem li50 : (50 : Int32) = nI 50 := rfl
theorem li57 : (57 : Int32) = nI 57 := rfl
theorem li59 : (59 : Int32) = nI 59 := rfl
theorem li60 : (60 : Int32) = nI 60 := rfl
theorem li64 : (64 : Int32) = nI 64 := rfl
theorem li95 : (95 : Int32) = nI 95 := rfl
theorem li97 : (97 : Int32) = nI 97 := rfl
theorem li99 : (99 : Int32) = nI 99 := rfl
theorem li100 : (100 : Int32) = nI 100 := rfl
theorem li102 : (102 : Int32) = nI 102 := rfl
theorem li104 : (104 : Int32) = nI 104 := rfl
theorem li109 : (109 : Int32) = nI 109 := rfl
theorem li110 : (110 : Int32) = nI 110 := rfl
theorem li111 : (111 : Int32) = nI 111 := rfl
theorem li116 : (116 : Int32) = nI 116 := rfl
theorem li126 : (126 : Int32) = nI 126 := rfl
theorem li128 : (128 : Int32) = nI 128 := rfl
theorem li200 : (200 : Int32) = nI 200 := rfl
theorem li999 : (999 : Int32) = nI 999 := rfl
theorem li1000 : (1000 : Int32) = nI 1000 := rfl
theorem li10000 : (10000 : Int32) = nI 10000 := rfl
theorem li100000 : (100000 : Int32) = nI 100000 := rfl
theorem li100000000 : (100000000 : Int32) = nI 100000000 := rfl
