theorem Jb.lq {K S : Kp} {nb nn nw b : Nat} (h : Jb K S nb nn nw) (hb : b < nb) : ∃ ln, ln ≤ 5 ∧ S 17 b = nI ln ∧ K (52 + 3 * b) 2 = nI ln ∧ ∀ l, l < ln → K (53 + 3 * b) l = S 18 (5 * b + l) := by
  obtain ⟨_, ⟨ln, q1, q2, q3, q4⟩, _⟩ := h.2.2.2.1 b hb
  refine ⟨ln, q1, q2, q3, fun l hl => ?_⟩
  obtain ⟨⟨n, _, r1, r2⟩, _⟩ := q4 l hl
  rw [r1, r2]
theorem op_on {bs : Nat} {K S : Kp} (x y z : Int32) (h : J K S) : ∃ r K' S', f_SB_on bs x y z (gm bs K S) = some (r, gm bs K' S) ∧ f_MO_on (bs + 76) x y z (gm bs K' S) = some (r, gm bs K' S') ∧ J K' S' := by
  obtain ⟨tl, rs, st, np, nn, nw, nb, jt, jr, jl, jn, jw, jb, js⟩ := id h
  obtain ⟨b1, b2, b3, b4, b5⟩ := id jb
  obtain ⟨n1, n2, n3, n4, n5⟩ := id jn
  unfold f_SB_on f_MO_on
  simp only [ob_0, w_isBoard bs K S x b3 b1, Option.bind_some, m_ob]
  by_cases c1 : 0 ≤ x ∧ x < nI nb
  · obtain ⟨b, hb, rfl⟩ := nIr c1.1 c1.2 (by omega)
    by_cases c2 : 0 ≤ y ∧ y < nI nn
    · obtain ⟨n, hn, rfl⟩ := nIr c2.1 c2.2 (by omega)
      by_cases c3 : 0 ≤ z ∧ z ≤ 2
      · have d1 : ¬ z < 0 := by grind
        have d2 : ¬ 2 < z := by grind
        obtain ⟨ln, q1, q2, q3, q4⟩ := jb.lq hb
        have hb8 : b < 8 := by omega
        by_cases c4 : ln < 5
        · have e1 : ¬ 5 ≤ nI ln := by rw [li5, nI_leI (by omega) (by omega)]; omega
          have e2 : ¬ nI ln = 5 := by rw [li5, nI_eq (by omega) (by omega)]; omega
          have e3 : nI ln + 1 = nI (ln + 1) := nI_1 ln
          have e4 : 5 * nI b + nI ln = nI (5 * b + ln) := by rw [li5, pk_mul, nI_add]
          by_cases c5 : hasP S b (nI n) ln
          · refine ⟨0, K, S, ?_, ?_, h⟩
            · simp only [f_BO_addLine, c1, c2, c3, w_isName bs K S _ n3 n1, w_isWithin, and_self, if_true, if_false, Option.bind_some, ob_0, m_ob, g0_8, ar22 bs K S hb8, ob_bo bs K S hb8, gbo_2 bs K S hb8, q3, e1, bo_has bs K S (nI n) hb8 q3 q1 q4, bP_t c5, show ¬ (1 : Int32) = 0 by decide]
            · simp only [q_isBoard bs K S _ b2, q_isName bs K S _ n2, c1, c2, d1, d2, and_self, if_true, if_false, Option.bind_some, ob_0, m_ob, m31, ma17 bs K S hb8, q2, e2, mo_has bs K S (nI n) hb8 q2 q1, bP_t c5, show ¬ (1 : Int32) = 0 by decide]
          · obtain ⟨⟨w, w1, w2, w3⟩, _, _⟩ := b4 b hb
            have hw24 : w < 24 := by have := jw.1; omega
            have x0 : up2 K (53 + 3 * b) ln (nI n) (52 + 3 * b) 2 = nI ln := by rw [up2_n (by omega)]; exact q3
            have x1 : up2 (up2 K (53 + 3 * b) ln (nI n)) (54 + 3 * b) ln z (52 + 3 * b) 2 = nI ln := by rw [up2_n (by omega), up2_n (by omega)]; exact q3
            have x2 : up2 (up2 (up2 K (53 + 3 * b) ln (nI n)) (54 + 3 * b) ln z) (52 + 3 * b) 2 (nI (ln + 1)) (52 + 3 * b) 3 = nI w := by
              rw [up2_e (by omega), up2_n (by omega), up2_n (by omega)]; exact w3
            have x3 : up2 (up2 (up2 K (53 + 3 * b) ln (nI n)) (54 + 3 * b) ln z) (52 + 3 * b) 2 (nI (ln + 1)) 20 w = K 20 w := by
              rw [up2_n (by omega), up2_n (by omega), up2_n (by omega)]
            refine ⟨1, up2 (up2 (up2 (up2 K (53 + 3 * b) ln (nI n)) (54 + 3 * b) ln z) (52 + 3 * b) 2 (nI (ln + 1))) 20 w (K 20 w ||| (1 <<< (nI n &&& 31))), up2 (up2 (up2 S 18 (5 * b + ln) (nI n)) 19 (5 * b + ln) z) 17 b (nI (ln + 1)), ?_, ?_, tl, rs, st, np, nn, nw, nb, jt.cg ?_ ?_ ?_ ?_, jr.cg ?_ ?_ ?_ ?_ ?_ ?_ ?_ ?_ ?_, jl.cg ?_ ?_ ?_ ?_, jn.cg ?_ ?_ ?_ ?_, jw.cg ?_ ?_ ?_ ?_, ⟨b1, ?_, ?_, fun a ha => ?_, fun a h1 h2 => ?_⟩, ?_⟩
            · simp only [f_BO_addLine, f_RO_show, c1, c2, c3, w_isName bs K S _ n3 n1, w_isWithin, and_self, if_true, if_false, Option.bind_some, ob_0, m_ob, g0_8, ar22 bs _ S hb8, ob_bo bs _ S hb8, gbo_2 bs _ S hb8, q3, e1, bo_has bs K S (nI n) hb8 q3 q1 q4, bP_f c5, gbo_0 bs _ S hb8, sbn bs _ S _ hb8 c4, gbo_1 bs _ S hb8, x0, sba bs _ S _ hb8 c4, x1, e3, pbo_2 bs _ S _ hb8, show ¬ (1 : Int32) = 0 by decide, g0_7, gbo_3 bs _ S hb8, x2, ob_16, g16_3, a20 bs _ S hw24, x3, s20 bs _ S _ hw24]
            · have y0 : up2 S 18 (5 * b + ln) (nI n) 17 b = nI ln := by rw [up2_n (by omega)]; exact q2
              have y1 : up2 (up2 S 18 (5 * b + ln) (nI n)) 19 (5 * b + ln) z 17 b = nI ln := by rw [up2_n (by omega), up2_n (by omega)]; exact q2
              simp only [q_isBoard bs _ S _ b2, q_isName bs _ S _ n2, c1, c2, d1, d2, and_self, if_true, if_false, Option.bind_some, ob_0, m_ob, m31, ma17 bs _ _ hb8, q2, e2, mo_has bs _ S (nI n) hb8 q2 q1, bP_f c5, show ¬ (1 : Int32) = 0 by decide, m32, e4, ms18 bs _ _ _ (show 5 * b + ln < 40 by omega), m33, y0, ms19 bs _ _ _ (show 5 * b + ln < 40 by omega), y1, e3, ms17 bs _ _ _ hb8]
            case refine_30 =>
              by_cases hab : a = b
              · subst hab
                obtain ⟨_, ⟨ln2, r1, r2, r3, r4⟩, r5⟩ := b4 a ha
                have : ln2 = ln := by rw [r2] at q2; exact (nI_eq (by omega) (by omega)).mp q2
                subst this
                refine ⟨⟨w, w1, ?_, ?_⟩, ⟨ln2 + 1, by omega, ?_, ?_, fun l hl => ?_⟩, ?_⟩
                · rw [up2_n (by omega), up2_n (by omega), up2_n (by omega)]; exact w2
                · rw [up2_n (by omega), up2_e (by omega), up2_n (by omega), up2_n (by omega)]; exact w3
                · simp [up2_at]
                · rw [up2_n (by omega)]; simp [up2_at]
                · by_cases hl2 : l = ln2
                  · subst hl2
                    refine ⟨⟨n, hn, ?_, ?_⟩, ?_⟩
                    · rw [up2_n (by omega), up2_n (by omega)]; simp [up2_at]
                    · rw [up2_n (by omega), up2_n (by omega), up2_n (by omega)]; simp [up2_at]
                    · rw [up2_n (by omega), up2_n (by omega)]; simp [up2_at]
                  · obtain ⟨⟨n', s1, s2, s3⟩, s4⟩ := r4 l (by omega)
                    refine ⟨⟨n', s1, ?_, ?_⟩, ?_⟩
                    · rw [up2_n (by omega), up2_n (by omega), up2_e (by omega)]; exact s2
                    · rw [up2_n (by omega), up2_n (by omega), up2_n (by omega), up2_e (by omega)]; exact s3
                    · rw [up2_n (by omega), up2_n (by omega), up2_e (by omega), up2_n (by omega), up2_n (by omega), up2_e (by omega), up2_n (by omega)]; exact s4
                · rw [up2_n (by omega), up2_e (by omega), up2_n (by omega), up2_n (by omega), up2_n (by omega), up2_n (by omega), up2_n (by omega)]; exact r5
              · obtain ⟨⟨v, p1, p2, p3⟩, ⟨ln2, r1, r2, r3, r4⟩, r5⟩ := b4 a ha
                refine ⟨⟨v, p1, ?_, ?_⟩, ⟨ln2, r1, ?_, ?_, fun l hl => ?_⟩, ?_⟩
                · rw [up2_n (by omega), up2_n (by omega), up2_n (by omega)]; exact p2
                · rw [up2_n (by omega), up2_n (by omega), up2_n (by omega), up2_n (by omega)]; exact p3
                · rw [up2_e (by omega), up2_n (by omega), up2_n (by omega)]; exact r2
                · rw [up2_n (by omega), up2_n (by omega), up2_n (by omega), up2_n (by omega)]; exact r3
                · obtain ⟨⟨n', s1, s2, s3⟩, s4⟩ := r4 l hl
                  refine ⟨⟨n', s1, ?_, ?_⟩, ?_⟩
                  · rw [up2_n (by omega), up2_n (by omega), up2_e (by omega)]; exact s2
                  · rw [up2_n (by omega), up2_n (by omega), up2_n (by omega), up2_n (by omega)]; exact s3
                  · rw [up2_n (by omega), up2_n (by omega), up2_n (by omega), up2_n (by omega), up2_n (by omega), up2_e (by omega), up2_n (by omega)]; exact s4
                · rw [up2_n (by omega), up2_n (by omega), up2_n (by omega), up2_n (by omega), up2_n (by omega), up2_n (by omega), up2_n (by omega)]; exact r5
            case refine_31 =>
              rw [up2_n (by omega), up2_n (by omega), up2_n (by omega), up2_n (by omega)]
              exact b5 a h1 h2
            case refine_32 =>
              intro v hv n' hn'
              have key : shw (up2 (up2 (up2 S 18 (5 * b + ln) (nI n)) 19 (5 * b + ln) z) 17 b (nI (ln + 1))) nb v n' ↔ shw S nb v n' ∨ (w = v ∧ n = n') := by
                constructor
                · rintro ⟨a, g1, g2, l, g3, g4, g5⟩
                  rw [up2_n (by omega), up2_n (by omega), up2_n (by omega)] at g2
                  rw [up2_n (by omega), up2_n (by omega)] at g5
                  by_cases hab : a = b
                  · subst hab
                    rw [w2, nI_eq (by omega) (by omega)] at g2
                    simp only [up2_at, and_self, if_true] at g3
                    rw [nI_ltI (by omega) (by omega)] at g3
                    by_cases hl2 : l = ln
                    · subst hl2
                      simp only [up2_at, and_self, if_true] at g5
                      rw [nI_eq (by omega) (by omega)] at g5
                      exact Or.inr ⟨g2, g5⟩
                    · rw [up2_e (by omega)] at g5
                      exact Or.inl ⟨a, g1, by rw [w2, g2], l, by rw [q2, nI_ltI (by omega) (by omega)]; omega, g4, g5⟩
                  · rw [up2_e (by omega), up2_n (by omega), up2_n (by omega)] at g3
                    rw [up2_e (by omega)] at g5
                    exact Or.inl ⟨a, g1, g2, l, g3, g4, g5⟩
                · rintro (⟨a, g1, g2, l, g3, g4, g5⟩ | ⟨g1, g2⟩)
                  · refine ⟨a, g1, by rw [up2_n (by omega), up2_n (by omega), up2_n (by omega)]; exact g2, l, ?_, g4, ?_⟩
                    · by_cases hab : a = b
                      · subst hab
                        rw [q2, nI_ltI (by omega) (by omega)] at g3
                        simp only [up2_at, and_self, if_true]
                        rw [nI_ltI (by omega) (by omega)]; omega
                      · rw [up2_e (by omega), up2_n (by omega), up2_n (by omega)]; exact g3
                    · rw [up2_n (by omega), up2_n (by omega), up2_e]
                      · exact g5
                      · intro hc
                        by_cases hab : a = b
                        · subst hab
                          rw [q2, nI_ltI (by omega) (by omega)] at g3
                          omega
                        · omega
                  · subst g1; subst g2
                    refine ⟨b, hb, by rw [up2_n (by omega), up2_n (by omega), up2_n (by omega)]; exact w2, ln, ?_, by omega, ?_⟩
                    · simp only [up2_at, and_self, if_true]
                      rw [nI_ltI (by omega) (by omega)]; omega
                    · rw [up2_n (by omega), up2_n (by omega)]; simp [up2_at]
              rw [key, ← js v hv n' hn']
              by_cases hvw : v = w
              · subst hvw
                simp only [up2_at, and_self, if_true]
                rw [bit_add (by omega) hn']
                simp
              · rw [up2_e (by omega), up2_n (by omega), up2_n (by omega), up2_n (by omega)]
                constructor
                · exact Or.inl
                · rintro (g | g)
                  · exact g
                  · exact absurd g.1.symm hvw
            all_goals first | (simp [up2_at]; done) | (simp [up2_at]; assumption) | (intro i h1 h2; (repeat rw [up2_n (by omega)]); done) | ((repeat rw [up2_n (by omega)]); done) | ((repeat rw [up2_e (by omega)]); done) | ((repeat rw [up2_e (by omega)]); assumption)
        · have e1 : 5 ≤ nI ln := by rw [li5, nI_leI (by omega) (by omega)]; omega
          have e2 : nI ln = 5 := by rw [li5, nI_eq (by omega) (by omega)]; omega
          refine ⟨0, K, S, ?_, ?_, h⟩
          · simp only [f_BO_addLine, c1, c2, c3, w_isName bs K S _ n3 n1, w_isWithin, and_self, if_true, if_false, Option.bind_some, ob_0, m_ob, g0_8, ar22 bs K S hb8, ob_bo bs K S hb8, gbo_2 bs K S hb8, q3, e1, show ¬ (1 : Int32) = 0 by decide]
          · simp only [q_isBoard bs K S _ b2, q_isName bs K S _ n2, c1, c2, d1, d2, and_self, if_true, if_false, Option.bind_some, ob_0, m_ob, m31, ma17 bs K S hb8, q2, e2, show ¬ (1 : Int32) = 0 by decide]
      · refine ⟨0, K, S, ?_, ?_, h⟩
        · simp only [c1, c2, c3, w_isName bs K S _ n3 n1, w_isWithin, and_self, if_true, if_false, Option.bind_some, ob_0, m_ob, show ¬ (1 : Int32) = 0 by decide]
        · simp only [q_isBoard bs K S _ b2, q_isName bs K S _ n2, c1, c2, and_self, if_true, if_false, Option.bind_some, ob_0, m_ob, show ¬ (1 : Int32) = 0 by decide]
          by_cases d1 : z < 0
          · simp only [d1, if_true]
          · have d2 : 2 < z := by grind
            simp only [d1, d2, if_true, if_false]
    · refine ⟨0, K, S, ?_, ?_, h⟩
      · simp only [c1, c2, w_isName bs K S _ n3 n1, and_self, if_true, if_false, Option.bind_some, ob_0, m_ob, show ¬ (1 : Int32) = 0 by decide]
      · simp only [q_isBoard bs K S _ b2, q_isName bs K S _ n2, c1, c2, and_self, if_true, if_false, Option.bind_some, ob_0, m_ob, show ¬ (1 : Int32) = 0 by decide]
  · refine ⟨0, K, S, ?_, ?_, h⟩
    · simp only [c1, if_true, if_false, Option.bind_some, ob_0, m_ob]
    · simp only [q_isBoard bs K S _ b2, c1, if_true, if_false, Option.bind_some, ob_0, m_ob]
