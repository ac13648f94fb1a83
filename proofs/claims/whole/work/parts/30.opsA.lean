theorem nIr {x : Int32} {n : Nat} (h0 : 0 ≤ x) (h : x < nI n) (hn : n < 2 ^ 31) : ∃ j : Nat, j < n ∧ x = nI j := by
  obtain ⟨j, hj, rfl⟩ := nIx h0
  exact ⟨j, (nI_ltI hj hn).mp h, rfl⟩
theorem nIr2 {x : Int32} {n : Nat} (h0 : 0 ≤ x) (h : x ≤ nI n) (hn : n < 2 ^ 31) : ∃ j : Nat, j ≤ n ∧ x = nI j := by
  obtain ⟨j, hj, rfl⟩ := nIx h0
  exact ⟨j, (nI_leI hj hn).mp h, rfl⟩
theorem nIb {n m : Nat} (h : n ≤ m) (hm : m < 2 ^ 31) : 0 ≤ nI n ∧ nI n ≤ nI m := ⟨nI_pos' (by omega), nI_le h hm⟩
theorem w_isWithin (a b c : Int32) (M : px_M) : f_SB_isWithin a b c M = if b ≤ a ∧ a ≤ c then some (1, M) else some (0, M) := by
  unfold f_SB_isWithin
  by_cases h1 : a < b
  · have h : ¬ (b ≤ a ∧ a ≤ c) := by grind
    simp only [h1, h, if_true, if_false]
  · by_cases h2 : c < a
    · have h : ¬ (b ≤ a ∧ a ≤ c) := by grind
      simp only [h1, h2, h, if_true, if_false]
    · have h : (b ≤ a ∧ a ≤ c) := by grind
      simp only [h1, h2, h, if_false, and_self, if_true]
theorem w_isLetter (a : Int32) (M : px_M) : f_SB_isLetter a M = if 32 ≤ a ∧ a ≤ 126 then some (1, M) else some (0, M) := by
  unfold f_SB_isLetter
  rw [w_isWithin]
  by_cases h : 32 ≤ a ∧ a ≤ 126 <;> simp [h]
theorem w_isSpeed (a : Int32) (M : px_M) : f_SB_isSpeed a M = if 1 ≤ a ∧ a ≤ 999 then some (1, M) else some (0, M) := by
  unfold f_SB_isSpeed
  rw [w_isWithin]
  by_cases h : 1 ≤ a ∧ a ≤ 999 <;> simp [h]
theorem w_isNode (a : Int32) (M : px_M) : f_SB_isNode a M = if 0 ≤ a ∧ a ≤ 9 then some (1, M) else some (0, M) := by
  unfold f_SB_isNode
  rw [w_isWithin]
  by_cases h : 0 ≤ a ∧ a ≤ 9 <;> simp [h]
theorem w_isName (bs : Nat) (K S : Kp) (x : Int32) {nn : Nat} (h : K 0 6 = nI nn) (hn : nn ≤ 10) : f_SB_isName bs x (gm bs K S) = if 0 ≤ x ∧ x < nI nn then some (1, gm bs K S) else some (0, gm bs K S) := by
  unfold f_SB_isName
  have hb := nIb hn (by omega)
  simp only [g0_6, Option.bind_some, h, w_isWithin]
  by_cases c : 0 ≤ x ∧ x < nI nn
  · have c2 : 0 ≤ x ∧ x ≤ nI nn - 1 := by rw [← li10] at hb; grind
    simp [c, c2]
  · have c2 : ¬ (0 ≤ x ∧ x ≤ nI nn - 1) := by rw [← li10] at hb; grind
    simp [c, c2]
theorem w_isBoard (bs : Nat) (K S : Kp) (x : Int32) {nb : Nat} (h : K 0 9 = nI nb) (hn : nb ≤ 8) : f_SB_isBoard bs x (gm bs K S) = if 0 ≤ x ∧ x < nI nb then some (1, gm bs K S) else some (0, gm bs K S) := by
  unfold f_SB_isBoard
  have hb := nIb hn (by omega)
  simp only [g0_9, Option.bind_some, h, w_isWithin]
  by_cases c : 0 ≤ x ∧ x < nI nb
  · have c2 : 0 ≤ x ∧ x ≤ nI nb - 1 := by rw [← li8] at hb; grind
    simp [c, c2]
  · have c2 : ¬ (0 ≤ x ∧ x ≤ nI nb - 1) := by rw [← li8] at hb; grind
    simp [c, c2]
theorem w_isWay (bs : Nat) (K S : Kp) (x : Int32) {nw : Nat} (h : K 16 5 = nI nw) (hn : nw ≤ 24) : f_RO_isWay (bs + 16) x (gm bs K S) = if 0 ≤ x ∧ x < nI nw then some (1, gm bs K S) else some (0, gm bs K S) := by
  unfold f_RO_isWay
  have hb := nIb hn (by omega)
  simp only [g16_5, Option.bind_some, h, w_isWithin]
  by_cases c : 0 ≤ x ∧ x < nI nw
  · have c2 : 0 ≤ x ∧ x ≤ nI nw - 1 := by rw [← li24] at hb; grind
    simp [c, c2]
  · have c2 : ¬ (0 ≤ x ∧ x ≤ nI nw - 1) := by rw [← li24] at hb; grind
    simp [c, c2]
/-! the reference's tests -/
theorem q_isSign (a : Int32) (M : px_M) : f_MO_isSign a M = if 32 ≤ a ∧ a ≤ 126 then some (1, M) else some (0, M) := by
  unfold f_MO_isSign
  by_cases h1 : a < 32
  · have h : ¬ (32 ≤ a ∧ a ≤ 126) := by grind
    simp only [h1, h, if_true, if_false]
  · by_cases h2 : 126 < a
    · have h : ¬ (32 ≤ a ∧ a ≤ 126) := by grind
      simp only [h1, h2, h, if_true, if_false]
    · have h : (32 ≤ a ∧ a ≤ 126) := by grind
      simp only [h1, h2, h, if_false, and_self, if_true]
theorem q_isSpeed (a : Int32) (M : px_M) : f_MO_isSpeed a M = if 1 ≤ a ∧ a ≤ 999 then some (1, M) else some (0, M) := by
  unfold f_MO_isSpeed
  by_cases h1 : a < 1
  · have h : ¬ (1 ≤ a ∧ a ≤ 999) := by grind
    simp only [h1, h, if_true, if_false]
  · by_cases h2 : 999 < a
    · have h : ¬ (1 ≤ a ∧ a ≤ 999) := by grind
      simp only [h1, h2, h, if_true, if_false]
    · have h : (1 ≤ a ∧ a ≤ 999) := by grind
      simp only [h1, h2, h, if_false, and_self, if_true]
theorem q_isNode (a : Int32) (M : px_M) : f_MO_isNode a M = if 0 ≤ a ∧ a ≤ 9 then some (1, M) else some (0, M) := by
  unfold f_MO_isNode
  by_cases h1 : a < 0
  · have h : ¬ (0 ≤ a ∧ a ≤ 9) := by grind
    simp only [h1, h, if_true, if_false]
  · by_cases h2 : 10 ≤ a
    · have h : ¬ (0 ≤ a ∧ a ≤ 9) := by grind
      simp only [h1, h2, h, if_true, if_false]
    · have h : (0 ≤ a ∧ a ≤ 9) := by grind
      simp only [h1, h2, h, if_false, and_self, if_true]
theorem q_isName (bs : Nat) (K S : Kp) (x : Int32) {nn : Nat} (h : S 0 21 = nI nn) : f_MO_isName (bs + 76) x (gm bs K S) = if 0 ≤ x ∧ x < nI nn then some (1, gm bs K S) else some (0, gm bs K S) := by
  unfold f_MO_isName
  simp only [m21, Option.bind_some, h]
  by_cases h1 : x < 0
  · have c2 : ¬ (0 ≤ x ∧ x < nI nn) := by grind
    simp only [h1, c2, if_true, if_false]
  · by_cases h2 : nI nn ≤ x
    · have c2 : ¬ (0 ≤ x ∧ x < nI nn) := by grind
      simp only [h1, h2, c2, if_true, if_false]
    · have c2 : 0 ≤ x ∧ x < nI nn := by grind
      simp only [h1, h2, c2, if_true, if_false, and_self]
theorem q_isBoard (bs : Nat) (K S : Kp) (x : Int32) {nb : Nat} (h : S 0 29 = nI nb) : f_MO_isBoard (bs + 76) x (gm bs K S) = if 0 ≤ x ∧ x < nI nb then some (1, gm bs K S) else some (0, gm bs K S) := by
  unfold f_MO_isBoard
  simp only [m29, Option.bind_some, h]
  by_cases h1 : x < 0
  · have c2 : ¬ (0 ≤ x ∧ x < nI nb) := by grind
    simp only [h1, c2, if_true, if_false]
  · by_cases h2 : nI nb ≤ x
    · have c2 : ¬ (0 ≤ x ∧ x < nI nb) := by grind
      simp only [h1, h2, c2, if_true, if_false]
    · have c2 : 0 ≤ x ∧ x < nI nb := by grind
      simp only [h1, h2, c2, if_true, if_false, and_self]
/-! unit -/
theorem sb_unit (bs : Nat) (K S : Kp) (x : Int32) {tl : Nat} (h : K 1 1 = nI tl) (ht : tl ≤ 100) : f_SB_unit bs x (gm bs K S) = if (32 ≤ x ∧ x ≤ 126) ∧ tl < 100 then some (1, gm bs (up2 (up2 K 2 tl x) 1 1 (nI (tl + 1))) S) else some (0, gm bs K S) := by
  unfold f_SB_unit f_TX_add
  rw [w_isLetter]
  by_cases c1 : 32 ≤ x ∧ x ≤ 126
  · by_cases c2 : tl < 100
    · have e1 : nI tl < 100 := by rw [li100, nI_ltI (by omega) (by omega)]; exact c2
      have e2 : (up2 K 2 tl x) 1 1 = nI tl := by rw [up2_n (by decide), h]
      simp only [c1, c2, and_self, if_true, Option.bind_some, g0_0, ob_1, g1_1, g1_0, h, e1, s2 bs K S x c2, e2, p1_1, li1, nI_add]
      rfl
    · have e1 : ¬ nI tl < 100 := by rw [li100, nI_ltI (by omega) (by omega)]; exact c2
      simp only [c1, c2, and_self, and_false, if_true, if_false, Option.bind_some, g0_0, ob_1, g1_1, g1_0, h, e1]
      rfl
  · simp only [c1, false_and, if_false, Option.bind_some, if_true]
theorem mo_unit (bs : Nat) (K S : Kp) (x : Int32) {tl : Nat} (h : S 0 0 = nI tl) (ht : tl ≤ 100) : f_MO_unit (bs + 76) x (gm bs K S) = if (32 ≤ x ∧ x ≤ 126) ∧ tl < 100 then some (1, gm bs K (up2 (up2 S 1 tl x) 0 0 (nI (tl + 1)))) else some (0, gm bs K S) := by
  unfold f_MO_unit
  rw [q_isSign]
  by_cases c1 : 32 ≤ x ∧ x ≤ 126
  · by_cases c2 : tl < 100
    · have e1 : ¬ nI tl = 100 := by rw [li100, nI_eq (by omega) (by omega)]; omega
      have e2 : (up2 S 1 tl x) 0 0 = nI tl := by rw [up2_n (by decide), h]
      simp only [c1, c2, and_self, if_true, if_false, Option.bind_some, m0, m1, h, e1, ma1, ms1 bs K S x c2, e2, mp0, li1, nI_add]
      rfl
    · have e1 : nI tl = 100 := by rw [li100, nI_eq (by omega) (by omega)]; omega
      simp only [c1, c2, and_self, and_false, if_true, if_false, Option.bind_some, m0, m1, h, e1]
      rfl
  · simp only [c1, false_and, if_false, Option.bind_some, if_true]
theorem op_unit {bs : Nat} {K S : Kp} (x : Int32) (h : J K S) : ∃ r K' S', f_SB_unit bs x (gm bs K S) = some (r, gm bs K' S) ∧ f_MO_unit (bs + 76) x (gm bs K' S) = some (r, gm bs K' S') ∧ J K' S' := by
  obtain ⟨tl, rs, st, np, nn, nw, nb, jt, jr, jl, jn, jw, jb, js⟩ := id h
  obtain ⟨t1, t2, t3, t4⟩ := id jt
  rw [sb_unit bs K S x t3 t1]
  by_cases c : (32 ≤ x ∧ x ≤ 126) ∧ tl < 100
  · rw [if_pos c]
    refine ⟨_, _, _, rfl, by rw [mo_unit bs _ S x t2 t1, if_pos c], tl + 1, rs, st, np, nn, nw, nb, ⟨by omega, ?_, ?_, fun i hi => ?_⟩, jr.cg ?_ ?_ ?_ ?_ ?_ ?_ ?_ ?_ ?_, jl.cg ?_ ?_ ?_ ?_, jn.cg ?_ ?_ ?_ ?_, jw.cg ?_ ?_ ?_ ?_, jb.cg ?_ ?_ ?_ ?_, js.cg ?_ ?_⟩
    case refine_3 =>
      by_cases hi2 : i = tl
      · subst hi2
        simp [up2_at, c]
      · simp [up2_at, hi2]
        exact t4 i (by omega)
    all_goals first | (simp [up2_at]; done) | (intro i h1 h2; rw [up2_n (by omega), up2_n (by omega)]) | (rw [up2_n (by omega), up2_n (by omega)])
  · rw [if_neg c]
    exact ⟨_, _, _, rfl, by rw [mo_unit bs _ S x t2 t1, if_neg c], h⟩
