/-! glyph -/
theorem op_glyph {bs : Nat} {K S : Kp} (x y : Int32) (h : J K S) : ∃ r K' S', f_SB_glyph bs x y (gm bs K S) = some (r, gm bs K' S) ∧ f_MO_glyph (bs + 76) x y (gm bs K' S) = some (r, gm bs K' S') ∧ J K' S' := by
  obtain ⟨tl, rs, st, np, nn, nw, nb, jt, jr, jl, jn, jw, jb, js⟩ := id h
  unfold f_SB_glyph f_MO_glyph f_LE_setWidth
  simp only [w_isLetter, q_isSign]
  by_cases c1 : 32 ≤ x ∧ x ≤ 126
  · obtain ⟨u, hu, rfl⟩ := nIx (show 0 ≤ x by grind)
    have hu1 : 32 ≤ u ∧ u ≤ 126 := by
      rw [li32, li126, nI_leI (by omega) hu, nI_leI hu (by omega)] at c1; exact c1
    have e1 : nI u - 32 = nI (u - 32) := by rw [li32, pk_sub hu1.1]
    by_cases c2 : 0 ≤ y ∧ y ≤ 64
    · have c3 : ¬ y < 0 := by grind
      refine ⟨1, up2 K 11 (u - 32) y, up2 S 6 u y, ?_, ?_, tl, rs, st, np, nn, nw, nb, jt.cg ?_ ?_ ?_ ?_, jr.cg ?_ ?_ ?_ ?_ ?_ ?_ ?_ ?_ ?_, ?_, jn.cg ?_ ?_ ?_ ?_, jw.cg ?_ ?_ ?_ ?_, jb.cg ?_ ?_ ?_ ?_, js.cg ?_ ?_⟩
      · simp only [c1, c2, w_isWithin, and_self, if_true, Option.bind_some, g0_4, ob_10, g10_0, e1, s11 bs K S y (show u - 32 < 95 by omega)]
        rfl
      · simp only [c1, c2, c3, and_self, if_true, if_false, Option.bind_some, m16, ms6 bs _ S y (show u < 128 by omega)]
        rfl
      case refine_16 =>
        obtain ⟨l1, l2, l3, l4, l5⟩ := jl
        refine ⟨l1, by rw [up2_n (by decide)]; exact l2, by rw [up2_n (by decide)]; exact l3, fun i hi => ?_, fun v hv => ?_⟩
        · rw [up2_n (by decide), up2_n (by decide), up2_n (by decide), up2_n (by decide), up2_n (by decide), up2_n (by decide)]
          exact l4 i hi
        · by_cases hv2 : v + 32 = u
          · subst hv2
            simp [up2_at]
          · simp [up2_at, hv2, show ¬ v = u - 32 by omega]
            exact l5 v hv
      all_goals first | (simp [up2_at]; done) | (intro i h1 h2; repeat rw [up2_n (by omega)]) | (repeat rw [up2_n (by omega)])
    · refine ⟨0, K, S, ?_, ?_, h⟩
      · simp only [c1, c2, w_isWithin, and_self, if_true, if_false, Option.bind_some]
        rfl
      · by_cases c3 : y < 0
        · simp only [c1, c3, and_self, if_true, Option.bind_some]
          rfl
        · have c4 : ¬ y ≤ 64 := by grind
          simp only [c1, c3, c4, and_self, if_true, if_false, Option.bind_some]
          rfl
  · refine ⟨0, K, S, ?_, ?_, h⟩
    · simp only [c1, if_false, Option.bind_some, if_true]
    · simp only [c1, if_false, Option.bind_some, if_true]
/-! way -/
theorem op_way {bs : Nat} {K S : Kp} (x y z : Int32) (h : J K S) : ∃ r K' S', f_SB_way bs x y z (gm bs K S) = some (r, gm bs K' S) ∧ f_MO_way (bs + 76) x y z (gm bs K' S) = some (r, gm bs K' S') ∧ J K' S' := by
  obtain ⟨tl, rs, st, np, nn, nw, nb, jt, jr, jl, jn, jw, jb, js⟩ := id h
  obtain ⟨w1, w2, w3, w4⟩ := id jw
  unfold f_SB_way f_MO_way f_RO_addWay
  simp only [w_isNode, q_isNode]
  by_cases c1 : 0 ≤ x ∧ x ≤ 9
  · by_cases c2 : 0 ≤ y ∧ y ≤ 9
    · by_cases c3 : 1 ≤ z ∧ z ≤ 100000
      · have c4 : ¬ z < 1 := by grind
        have c5 : ¬ 100000 < z := by grind
        by_cases c6 : nw < 24
        · have e1 : nI nw < 24 := by rw [li24, nI_ltI (by omega) (by omega)]; exact c6
          have e2 : ¬ nI nw = 24 := by rw [li24, nI_eq (by omega) (by omega)]; omega
          have e3 : nI nw + 1 = nI (nw + 1) := nI_1 nw
          have e4 : nI (nw + 1) - 1 = nI nw := nI_pred nw
          refine ⟨nI nw, up2 (up2 (up2 (up2 K 17 nw x) 18 nw y) 19 nw z) 16 5 (nI (nw + 1)), up2 (up2 (up2 (up2 S 13 nw x) 14 nw y) 15 nw z) 0 25 (nI (nw + 1)), ?_, ?_, tl, rs, st, np, nn, nw + 1, nb, jt.cg ?_ ?_ ?_ ?_, jr.cg ?_ ?_ ?_ ?_ ?_ ?_ ?_ ?_ ?_, jl.cg ?_ ?_ ?_ ?_, jn.cg ?_ ?_ ?_ ?_, ?_, (jb.mono (Nat.le_refl nn) (Nat.le_succ nw)).cg ?_ ?_ ?_ ?_, js.cg ?_ ?_⟩
          · have a1 : up2 (up2 (up2 K 17 nw x) 18 nw y) 19 nw z 16 5 = nI nw := by simp [up2_at, w3]
            simp only [c1, c2, c3, w_isWithin, and_self, if_true, if_false, Option.bind_some, g0_7, ob_16, g16_5, g16_0, g16_1, g16_2, w3, e1, e3, s17 bs _ S _ c6, s18 bs _ S _ c6, s19 bs _ S _ c6, a1, p16_5]
            rfl
          · have a0 : up2 S 13 nw x 0 25 = nI nw := by simp [up2_at, w2]
            have a1 : up2 (up2 S 13 nw x) 14 nw y 0 25 = nI nw := by simp [up2_at, w2]
            have a2 : up2 (up2 (up2 S 13 nw x) 14 nw y) 15 nw z 0 25 = nI nw := by simp [up2_at, w2]
            have a3 : up2 (up2 (up2 (up2 S 13 nw x) 14 nw y) 15 nw z) 0 25 (nI (nw + 1)) 0 25 = nI (nw + 1) := by simp [up2_at]
            simp only [c1, c2, c4, c5, and_self, if_true, if_false, Option.bind_some, m25, m26, m27, m28, w2, e2, e3, ms13 bs _ _ _ c6, ms14 bs _ _ _ c6, ms15 bs _ _ _ c6, a0, a1, a2, a3, mp25, e4]
            rfl
          case refine_24 =>
            refine ⟨by omega, by simp [up2_at], by simp [up2_at], fun w hw => ?_⟩
            by_cases hw2 : w = nw
            · subst hw2
              obtain ⟨a, ha, rfl⟩ := nIr2 (n := 9) c1.1 c1.2 (by decide)
              obtain ⟨b, hb, rfl⟩ := nIr2 (n := 9) c2.1 c2.2 (by decide)
              obtain ⟨d, hd, rfl⟩ := nIr2 (n := 100000) (show 0 ≤ z by grind) c3.2 (by decide)
              have hd1 : 1 ≤ d := by
                have := c3.1
                rw [li1, nI_leI (by omega) (by omega)] at this
                exact this
              refine ⟨?_, ?_, ?_, ⟨a, by omega, ?_⟩, ⟨b, by omega, ?_⟩, ⟨d, hd1, hd, ?_⟩⟩ <;> simp [up2_at]
            · obtain ⟨r1, r2, r3, r4, r5, r6⟩ := w4 w (by omega)
              refine ⟨?_, ?_, ?_, ?_, ?_, ?_⟩ <;> simp [up2_at, hw2] <;> assumption
          all_goals first | (simp [up2_at]; done) | (intro i h1 h2; repeat rw [up2_n (by omega)]) | (repeat rw [up2_n (by omega)])
        · have e1 : ¬ nI nw < 24 := by rw [li24, nI_ltI (by omega) (by omega)]; exact c6
          have e2 : nI nw = 24 := by rw [li24, nI_eq (by omega) (by omega)]; omega
          refine ⟨-1, K, S, ?_, ?_, h⟩
          · simp only [c1, c2, c3, w_isWithin, and_self, if_true, if_false, Option.bind_some, g0_7, ob_16, g16_5, w3, e1]
            rfl
          · simp only [c1, c2, c4, c5, and_self, if_true, if_false, Option.bind_some, m25, w2, e2]
            rfl
      · refine ⟨-1, K, S, ?_, ?_, h⟩
        · simp only [c1, c2, c3, w_isWithin, and_self, if_true, if_false, Option.bind_some]
          rfl
        · by_cases c4 : z < 1
          · simp only [c1, c2, c4, and_self, if_true, if_false, Option.bind_some]
            rfl
          · have c5 : 100000 < z := by grind
            simp only [c1, c2, c4, c5, and_self, if_true, if_false, Option.bind_some]
            rfl
    · refine ⟨-1, K, S, ?_, ?_, h⟩
      · simp only [c1, c2, and_self, if_false, Option.bind_some, if_true]
        rfl
      · simp only [c1, c2, and_self, if_false, Option.bind_some, if_true]
        rfl
  · refine ⟨-1, K, S, ?_, ?_, h⟩
    · simp only [c1, if_false, Option.bind_some, if_true]
    · simp only [c1, if_false, Option.bind_some, if_true]
/-! goal -/
theorem op_goal {bs : Nat} {K S : Kp} (x y : Int32) (h : J K S) : ∃ r K' S', f_SB_goal bs x y (gm bs K S) = some (r, gm bs K' S) ∧ f_MO_goal (bs + 76) x y (gm bs K' S) = some (r, gm bs K' S') ∧ J K' S' := by
  obtain ⟨tl, rs, st, np, nn, nw, nb, jt, jr, jl, jn, jw, jb, js⟩ := id h
  obtain ⟨n1, n2, n3, n4, n5⟩ := id jn
  unfold f_SB_goal f_MO_goal
  simp only [w_isName bs K S x n3 n1, ob_0, m_ob, Option.bind_some]
  by_cases c1 : 0 ≤ x ∧ x < nI nn
  · obtain ⟨i, hi, rfl⟩ := nIr c1.1 c1.2 (by omega)
    have key : ∀ z : Int32, (z = -1 ∨ ∃ g, g < 10 ∧ z = nI g) → J (up2 K (32 + 2 * i) 2 z) (up2 S 12 i z) := by
      intro z hz
      refine ⟨tl, rs, st, np, nn, nw, nb, jt.cg ?_ ?_ ?_ ?_, jr.cg ?_ ?_ ?_ ?_ ?_ ?_ ?_ ?_ ?_, jl.cg ?_ ?_ ?_ ?_, ⟨n1, ?_, ?_, fun a ha => ?_, fun a h1 h2 => ?_⟩, jw.cg ?_ ?_ ?_ ?_, jb.cg ?_ ?_ ?_ ?_, js.cg ?_ ?_⟩
      case refine_20 =>
        obtain ⟨ln, l1, l2, l3, l4, l5, l6, l7⟩ := n4 a ha
        by_cases hai : a = i
        · subst hai
          refine ⟨ln, l1, l2, ?_, ?_, fun j hj => ?_, ?_, ?_⟩
          · rw [up2_n (by omega)]; exact l3
          · simp [up2_at]; exact l4
          · rw [up2_n (by omega), up2_n (by omega)]; exact l5 j hj
          · simp [up2_at]
          · simp [up2_at]; exact hz
        · refine ⟨ln, l1, l2, ?_, ?_, fun j hj => ?_, ?_, ?_⟩
          · rw [up2_n (by omega)]; exact l3
          · rw [up2_n (by omega)]; exact l4
          · rw [up2_n (by omega), up2_n (by omega)]; exact l5 j hj
          · rw [up2_n (by omega)]; simp [up2_at, hai]; exact l6
          · simp [up2_at, hai]; exact l7
      case refine_21 => rw [up2_n (by omega)]; exact n5 a h1 h2
      all_goals first | (simp [up2_at]; done) | (simp [up2_at]; assumption) | (intro i h1 h2; repeat rw [up2_n (by omega)]) | (repeat rw [up2_n (by omega)]) | (rw [up2_n (by omega)]; assumption)
    by_cases c2 : y = -1
    · subst c2
      refine ⟨1, up2 K (32 + 2 * i) 2 (-1), up2 S 12 i (-1), ?_, ?_, key _ (Or.inl rfl)⟩
      · simp only [c1, and_self, if_true, if_false, Option.bind_some, g0_5, ar15 bs K S (show i < 10 by omega), pna_2 bs K S _ (show i < 10 by omega)]
        rfl
      · have q2 := q_isName bs (up2 K (32 + 2 * i) 2 (-1)) S (nI i) n2
        simp only [q2, c1, and_self, if_true, if_false, Option.bind_some, m24, ms12 bs _ S _ (show i < 10 by omega)]
        rfl
    · by_cases c3 : 0 ≤ y ∧ y ≤ 9
      · obtain ⟨g, hg, rfl⟩ := nIr2 (n := 9) c3.1 c3.2 (by decide)
        refine ⟨1, up2 K (32 + 2 * i) 2 (nI g), up2 S 12 i (nI g), ?_, ?_, key _ (Or.inr ⟨g, by omega, rfl⟩)⟩
        · simp only [c1, c2, c3, w_isNode, and_self, if_true, if_false, Option.bind_some, g0_5, ar15 bs K S (show i < 10 by omega), pna_2 bs K S _ (show i < 10 by omega)]
          rfl
        · have q2 := q_isName bs (up2 K (32 + 2 * i) 2 (nI g)) S (nI i) n2
          simp only [q2, c1, c2, c3, q_isNode, and_self, if_true, if_false, Option.bind_some, m24, ms12 bs _ S _ (show i < 10 by omega)]
          rfl
      · refine ⟨0, K, S, ?_, ?_, h⟩
        · simp only [c1, c2, c3, w_isNode, and_self, if_true, if_false, Option.bind_some]
          rfl
        · simp only [q_isName bs K S _ n2, c1, c2, c3, q_isNode, and_self, if_true, if_false, Option.bind_some]
          rfl
  · refine ⟨0, K, S, ?_, ?_, h⟩
    · simp only [c1, if_false, Option.bind_some, if_true]
    · simp only [q_isName bs K S _ n2, c1, if_false, Option.bind_some, if_true]
