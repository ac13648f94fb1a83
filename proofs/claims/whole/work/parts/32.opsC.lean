theorem up2_e {k : Kp} {i j a b : Nat} {v : Int32} (h : ¬ (a = i ∧ b = j)) : up2 k i j v a b = k a b := by rw [up2_at, if_neg h]
/-! board -/
theorem op_board {bs : Nat} {K S : Kp} (x : Int32) (h : J K S) : ∃ r K' S', f_SB_board bs x (gm bs K S) = some (r, gm bs K' S) ∧ f_MO_board (bs + 76) x (gm bs K' S) = some (r, gm bs K' S') ∧ J K' S' := by
  obtain ⟨tl, rs, st, np, nn, nw, nb, jt, jr, jl, jn, jw, jb, js⟩ := id h
  obtain ⟨w1, w2, w3, w4⟩ := id jw
  obtain ⟨b1, b2, b3, b4, b5⟩ := id jb
  unfold f_SB_board f_MO_board
  simp only [g0_7, ob_16, w_isWay bs K S x w3 w1, Option.bind_some]
  by_cases c1 : 0 ≤ x ∧ x < nI nw
  · obtain ⟨w, hw, rfl⟩ := nIr c1.1 c1.2 (by omega)
    have c2 : ¬ nI w < 0 := nI_pos (by omega)
    have c3 : ¬ nI nw ≤ nI w := by rw [nI_leI (by omega) (by omega)]; omega
    by_cases c6 : nb < 8
    · have e1 : nI nb < 8 := by rw [li8, nI_ltI (by omega) (by omega)]; exact c6
      have e2 : ¬ nI nb = 8 := by rw [li8, nI_eq (by omega) (by omega)]; omega
      have e3 : nI nb + 1 = nI (nb + 1) := nI_1 nb
      have e4 : nI (nb + 1) - 1 = nI nb := nI_pred nb
      refine ⟨nI nb, up2 (up2 K (52 + 3 * nb) 3 (nI w)) 0 9 (nI (nb + 1)), up2 (up2 (up2 (up2 S 16 nb (nI w)) 17 nb 0) 20 nb 0) 0 29 (nI (nb + 1)), ?_, ?_, tl, rs, st, np, nn, nw, nb + 1, jt.cg ?_ ?_ ?_ ?_, jr.cg ?_ ?_ ?_ ?_ ?_ ?_ ?_ ?_ ?_, jl.cg ?_ ?_ ?_ ?_, jn.cg ?_ ?_ ?_ ?_, jw.cg ?_ ?_ ?_ ?_, ?_, ?_⟩
      · have a1 : up2 K (52 + 3 * nb) 3 (nI w) 0 9 = nI nb := by rw [up2_n (by omega)]; exact b3
        simp only [c1, and_self, if_true, if_false, Option.bind_some, g0_9, g0_8, b3, e1, ar22 bs K S c6, pbo_3 bs K S _ c6, a1, p0_9, e3]
        rfl
      · have a0 : up2 S 16 nb (nI w) 0 29 = nI nb := by simp [up2_at, b2]
        have a1 : up2 (up2 S 16 nb (nI w)) 17 nb 0 0 29 = nI nb := by simp [up2_at, b2]
        have a2 : up2 (up2 (up2 S 16 nb (nI w)) 17 nb 0) 20 nb 0 0 29 = nI nb := by simp [up2_at, b2]
        have a3 : up2 (up2 (up2 (up2 S 16 nb (nI w)) 17 nb 0) 20 nb 0) 0 29 (nI (nb + 1)) 0 29 = nI (nb + 1) := by simp [up2_at]
        simp only [c2, c3, e2, if_true, if_false, Option.bind_some, m25, m29, m30, m31, m34, w2, b2, ms16 bs _ _ _ c6, ms17 bs _ _ _ c6, ms20 bs _ _ _ c6, a0, a1, a2, a3, mp29, e3, e4]
      case refine_28 =>
        refine ⟨by omega, by simp [up2_at], by simp [up2_at], fun b hb => ?_, fun b h1 h2 => ?_⟩
        · by_cases hb2 : b = nb
          · subst hb2
            obtain ⟨z1, z2⟩ := b5 b (Nat.le_refl b) c6
            refine ⟨⟨w, hw, by simp [up2_at], by simp [up2_at]⟩, ⟨0, by omega, by simp [up2_at, li0], ?_, fun l hl => absurd hl (by omega)⟩, ?_⟩
            · rw [up2_n (by omega)]; simp [up2_at, z1, li0]
            · rw [up2_n (by omega)]; simp [up2_at, z2]
          · obtain ⟨⟨v, r1, r2, r3⟩, ⟨ln, r4, r5, r6, r7⟩, r8⟩ := b4 b (by omega)
            refine ⟨⟨v, r1, ?_, ?_⟩, ⟨ln, r4, ?_, ?_, fun l hl => ?_⟩, ?_⟩
            · simp [up2_at, hb2, r2]
            · rw [up2_n (by omega), up2_n (by omega)]; exact r3
            · simp [up2_at, hb2, r5]
            · rw [up2_n (by omega), up2_n (by omega)]; exact r6
            · obtain ⟨⟨n, s1, s2, s3⟩, s4⟩ := r7 l hl
              refine ⟨⟨n, s1, ?_, ?_⟩, ?_⟩
              · simp [up2_at, s2]
              · rw [up2_n (by omega), up2_n (by omega)]; exact s3
              · rw [up2_n (by omega), up2_n (by omega)]; simp [up2_at, s4]
            · rw [up2_n (by omega), up2_n (by omega)]; simp [up2_at, hb2, r8]
        · obtain ⟨z1, z2⟩ := b5 b (by omega) h2
          rw [up2_n (by omega), up2_n (by omega)]
          exact ⟨z1, z2⟩
      case refine_29 =>
        intro v hv n hn
        rw [up2_n (by omega), up2_n (by omega)]
        rw [js v hv n hn]
        constructor
        · rintro ⟨b, q1, q2, l, q3, q4, q5⟩
          refine ⟨b, by omega, ?_, l, ?_, q4, ?_⟩
          · simp [up2_at, show ¬ b = nb by omega, q2]
          · simp [up2_at, show ¬ b = nb by omega, q3]
          · simp [up2_at, q5]
        · rintro ⟨b, q1, q2, l, q3, q4, q5⟩
          by_cases hb2 : b = nb
          · subst hb2
            simp [up2_at] at q3
            exact absurd q3 (nI_pos (by omega))
          · refine ⟨b, by omega, ?_, l, ?_, q4, ?_⟩
            · simpa [up2_at, hb2] using q2
            · simpa [up2_at, hb2] using q3
            · simpa [up2_at] using q5
      all_goals first | (simp [up2_at]; done) | (simp [up2_at]; assumption) | (intro i h1 h2; (repeat rw [up2_n (by omega)]); done) | ((repeat rw [up2_n (by omega)]); done) | ((repeat rw [up2_e (by omega)]); done) | (rw [up2_n (by omega)]; assumption)
    · have e1 : ¬ nI nb < 8 := by rw [li8, nI_ltI (by omega) (by omega)]; exact c6
      have e2 : nI nb = 8 := by rw [li8, nI_eq (by omega) (by omega)]; omega
      refine ⟨-1, K, S, ?_, ?_, h⟩
      · simp only [c1, and_self, if_true, if_false, Option.bind_some, g0_9, b3, e1]
        rfl
      · simp only [c2, c3, e2, if_true, if_false, Option.bind_some, m25, m29, w2, b2]
  · refine ⟨-1, K, S, ?_, ?_, h⟩
    · simp only [c1, if_false, Option.bind_some, if_true]
    · by_cases c2 : x < 0
      · simp only [c2, if_true]
      · have c3 : nI nw ≤ x := by grind
        simp only [c2, c3, if_false, if_true, m25, w2, Option.bind_some]
/-! wide -/
theorem op_wide {bs : Nat} {K S : Kp} (x y : Int32) (h : J K S) : ∃ r K' S', f_SB_wide bs x y (gm bs K S) = some (r, gm bs K' S) ∧ f_MO_wide (bs + 76) x y (gm bs K' S) = some (r, gm bs K' S') ∧ J K' S' := by
  obtain ⟨tl, rs, st, np, nn, nw, nb, jt, jr, jl, jn, jw, jb, js⟩ := id h
  obtain ⟨b1, b2, b3, b4, b5⟩ := id jb
  unfold f_SB_wide f_MO_wide
  simp only [w_isBoard bs K S x b3 b1, ob_0, m_ob, Option.bind_some]
  by_cases c1 : 0 ≤ x ∧ x < nI nb
  · obtain ⟨i, hi, rfl⟩ := nIr c1.1 c1.2 (by omega)
    by_cases c2 : 0 ≤ y ∧ y ≤ 10000
    · have c3 : ¬ y < 0 := by grind
      have q2 := q_isBoard bs (up2 K (52 + 3 * i) 4 y) S (nI i) b2
      refine ⟨1, up2 K (52 + 3 * i) 4 y, up2 S 20 i y, ?_, ?_, tl, rs, st, np, nn, nw, nb, jt.cg ?_ ?_ ?_ ?_, jr.cg ?_ ?_ ?_ ?_ ?_ ?_ ?_ ?_ ?_, jl.cg ?_ ?_ ?_ ?_, jn.cg ?_ ?_ ?_ ?_, jw.cg ?_ ?_ ?_ ?_, ⟨b1, ?_, ?_, fun b hb => ?_, fun b h1 h2 => ?_⟩, js.cg ?_ ?_⟩
      · simp only [c1, c2, w_isWithin, and_self, if_true, if_false, Option.bind_some, g0_8, ar22 bs K S (show i < 8 by omega), pbo_4 bs K S _ (show i < 8 by omega)]
        rfl
      · simp only [q2, c1, c2, c3, and_self, if_true, if_false, Option.bind_some, m34, ms20 bs _ S _ (show i < 8 by omega)]
        rfl
      case refine_30 =>
        obtain ⟨⟨v, r1, r2, r3⟩, ⟨ln, r4, r5, r6, r7⟩, r8⟩ := b4 b hb
        refine ⟨⟨v, r1, ?_, ?_⟩, ⟨ln, r4, ?_, ?_, fun l hl => ?_⟩, ?_⟩
        · simp [up2_at, r2]
        · simp [up2_at, r3]
        · simp [up2_at, r5]
        · simp [up2_at, r6]
        · obtain ⟨⟨n, s1, s2, s3⟩, s4⟩ := r7 l hl
          refine ⟨⟨n, s1, ?_, ?_⟩, ?_⟩
          · simp [up2_at, s2]
          · rw [up2_n (by omega)]; exact s3
          · rw [up2_n (by omega)]; simp [up2_at, s4]
        · by_cases hb2 : b = i
          · subst hb2
            simp [up2_at]
          · rw [up2_n (by omega)]; simp [up2_at, hb2, r8]
      case refine_31 =>
        rw [up2_n (by omega)]
        exact b5 b h1 h2
      all_goals first | (simp [up2_at]; done) | (simp [up2_at]; assumption) | (intro i h1 h2; (repeat rw [up2_n (by omega)]); done) | ((repeat rw [up2_n (by omega)]); done) | ((repeat rw [up2_e (by omega)]); done) | (rw [up2_n (by omega)]; assumption)
    · refine ⟨0, K, S, ?_, ?_, h⟩
      · simp only [c1, c2, w_isWithin, and_self, if_true, if_false, Option.bind_some]
        rfl
      · simp only [q_isBoard bs K S _ b2, c1, and_self, if_true, if_false, Option.bind_some]
        by_cases c3 : y < 0
        · simp only [c3, if_true]
          rfl
        · have c4 : ¬ y ≤ 10000 := by grind
          simp only [c3, c4, if_false]
          rfl
  · refine ⟨0, K, S, ?_, ?_, h⟩
    · simp only [c1, if_false, Option.bind_some, if_true]
    · simp only [q_isBoard bs K S _ b2, c1, if_false, Option.bind_some, if_true]
