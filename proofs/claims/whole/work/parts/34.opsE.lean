theorem tx_signAt (bs : Nat) (K S : Kp) {tl i : Nat} (h : K 1 1 = nI tl) (ht : tl ≤ 100) (hi : i ≤ 100) : f_TX_signAt (bs + 1) (nI i) (gm bs K S) = some (if i < tl then K 2 i else -1, gm bs K S) := by
  unfold f_TX_signAt
  have e1 : ¬ nI i < 0 := nI_pos (by omega)
  by_cases c : i < tl
  · have e2 : ¬ nI tl ≤ nI i := by rw [nI_leI (by omega) (by omega)]; omega
    simp only [e1, e2, c, if_true, if_false, Option.bind_some, g1_1, h, g1_0, a2 bs K S (show i < 100 by omega)]
  · have e2 : nI tl ≤ nI i := by rw [nI_leI (by omega) (by omega)]; omega
    simp only [e1, e2, c, if_true, if_false, Option.bind_some, g1_1, h]
theorem tx_clear (bs : Nat) (K S : Kp) : f_TX_clear (bs + 1) (gm bs K S) = some (gm bs (up2 K 1 1 0) S) := by
  unfold f_TX_clear
  simp only [p1_1, Option.bind_some]
def cpy1 (f g : Nat → Int32) (i t : Nat) : Nat → Int32 := fun c => if i ≤ c ∧ c < t then f c else g c
theorem na_takeL (bs : Nat) (S : Kp) {j tl : Nat} (hj : j < 10) (ht : tl ≤ 12) : ∀ (m i n : Nat) (K : Kp), i + m = tl → m < n → K 1 1 = nI tl → K (32 + 2 * j) 1 = nI tl → f_NA_take_L10 n (bs + (32 + 2 * j)) (bs + 1) (nI i) (gm bs K S) = some ((), gm bs (rw2 K (33 + 2 * j) (cpy1 (K 2) (K (33 + 2 * j)) i tl)) S) := by
  intro m
  induction m with
  | zero =>
    intro i n K hk hm h1 h2
    obtain ⟨n, rfl⟩ : ∃ n', n = n' + 1 := ⟨n - 1, by omega⟩
    have e1 : nI tl ≤ nI i := by rw [nI_leI (by omega) (by omega)]; omega
    have e2 : rw2 K (33 + 2 * j) (cpy1 (K 2) (K (33 + 2 * j)) i tl) = K := by
      funext a b
      unfold rw2 cpy1
      by_cases c : a = 33 + 2 * j
      · rw [if_pos c, if_neg (by omega), c]
      · rw [if_neg c]
    simp only [f_NA_take_L10, gna_1 bs K S hj, h2, Option.bind_some, e1, if_true, e2]
  | succ m ih =>
    intro i n K hk hm h1 h2
    obtain ⟨n, rfl⟩ : ∃ n', n = n' + 1 := ⟨n - 1, by omega⟩
    have e1 : ¬ nI tl ≤ nI i := by rw [nI_leI (by omega) (by omega)]; omega
    have e2 : nI i + 1 = nI (i + 1) := nI_1 i
    have i1 := ih (i + 1) n (up2 K (33 + 2 * j) i (K 2 i)) (by omega) (by omega) (by rw [up2_n (by omega)]; exact h1) (by rw [up2_n (by omega)]; exact h2)
    have e3 := tx_signAt bs K S (i := i) h1 (by omega) (by omega)
    rw [if_pos (show i < tl by omega)] at e3
    simp only [f_NA_take_L10, gna_1 bs K S hj, h2, Option.bind_some, e1, if_false, gna_0 bs K S hj, ob_1, e3, sns bs K S _ hj (show i < 12 by omega), e2, i1]
    congr 3
    funext a b
    unfold rw2 cpy1
    by_cases c : a = 33 + 2 * j
    · subst c
      rw [if_pos rfl, if_pos rfl, up2_n (by omega)]
      by_cases c2 : b = i
      · subst c2
        rw [if_neg (by omega), if_pos (by omega)]
        simp [up2_at]
      · by_cases c3 : i + 1 ≤ b ∧ b < tl
        · rw [if_pos c3, if_pos (by omega)]
        · rw [if_neg c3, if_neg (by omega), up2_e (by omega)]
    · rw [if_neg c, if_neg c, up2_n c]
def cpy2 (f g : Nat → Int32) (o i t : Nat) : Nat → Int32 := fun c => if o + i ≤ c ∧ c < o + t then f (c - o) else g c
theorem mo_nameL (bs : Nat) (K : Kp) {nn tl : Nat} (hn : nn < 10) (ht : tl ≤ 12) : ∀ (m i n : Nat) (S : Kp), i + m = tl → m < n → S 0 0 = nI tl → S 0 21 = nI nn → f_MO_name_L35 n (bs + 76) (nI i) (gm bs K S) = some ((), gm bs K (rw2 S 11 (cpy2 (S 1) (S 11) (12 * nn) i tl))) := by
  intro m
  induction m with
  | zero =>
    intro i n S hk hm h1 h2
    obtain ⟨n, rfl⟩ : ∃ n', n = n' + 1 := ⟨n - 1, by omega⟩
    have e1 : nI tl ≤ nI i := by rw [nI_leI (by omega) (by omega)]; omega
    have e2 : rw2 S 11 (cpy2 (S 1) (S 11) (12 * nn) i tl) = S := by
      funext a b
      unfold rw2 cpy2
      by_cases c : a = 11
      · rw [if_pos c, if_neg (by omega), c]
      · rw [if_neg c]
    simp only [f_MO_name_L35, m0, h1, Option.bind_some, e1, if_true, e2]
  | succ m ih =>
    intro i n S hk hm h1 h2
    obtain ⟨n, rfl⟩ : ∃ n', n = n' + 1 := ⟨n - 1, by omega⟩
    have e1 : ¬ nI tl ≤ nI i := by rw [nI_leI (by omega) (by omega)]; omega
    have e2 : nI i + 1 = nI (i + 1) := nI_1 i
    have e3 : 12 * nI nn + nI i = nI (12 * nn + i) := by rw [li12, pk_mul, nI_add]
    have i1 := ih (i + 1) n (up2 S 11 (12 * nn + i) (S 1 i)) (by omega) (by omega) (by rw [up2_n (by omega)]; exact h1) (by rw [up2_n (by omega)]; exact h2)
    simp only [f_MO_name_L35, m0, h1, Option.bind_some, e1, if_false, m23, m21, h2, m1, ma1 bs K S (show i < 100 by omega), e3, ms11 bs K S _ (show 12 * nn + i < 120 by omega), e2, i1]
    congr 3
    funext a b
    unfold rw2 cpy2
    by_cases c : a = 11
    · subst c
      rw [if_pos rfl, if_pos rfl, up2_n (by omega)]
      by_cases c2 : b = 12 * nn + i
      · subst c2
        rw [if_neg (by omega), if_pos (by omega)]
        simp [up2_at]
      · by_cases c3 : 12 * nn + (i + 1) ≤ b ∧ b < 12 * nn + tl
        · rw [if_pos c3, if_pos (by omega)]
        · rw [if_neg c3, if_neg (by omega), up2_e (by omega)]
    · rw [if_neg c, if_neg c, up2_n c]
theorem rw2_s (k : Kp) (i : Nat) (r : Nat → Int32) : rw2 k i r i = r := by simp [rw2]
theorem rw2_n {k : Kp} {i a : Nat} {r : Nat → Int32} (h : a ≠ i) : rw2 k i r a = k a := by simp [rw2, h]
/-! name -/
theorem Jclear {K S : Kp} (h : J K S) : J (up2 K 1 1 0) (up2 S 0 0 0) := by
  obtain ⟨tl, rs, st, np, nn, nw, nb, jt, jr, jl, jn, jw, jb, js⟩ := id h
  refine ⟨0, rs, st, np, nn, nw, nb, ⟨by omega, ?_, ?_, fun i hi => absurd hi (by omega)⟩, jr.cg ?_ ?_ ?_ ?_ ?_ ?_ ?_ ?_ ?_, jl.cg ?_ ?_ ?_ ?_, jn.cg ?_ ?_ ?_ ?_, jw.cg ?_ ?_ ?_ ?_, jb.cg ?_ ?_ ?_ ?_, js.cg ?_ ?_⟩
  all_goals first | (simp [up2_at]; done) | (simp [up2_at, li0]; done) | (intro i h1 h2; (repeat rw [up2_n (by omega)]); done) | ((repeat rw [up2_n (by omega)]); done) | ((repeat rw [up2_e (by omega)]); done)
theorem op_name {bs : Nat} {K S : Kp} (h : J K S) : ∃ r K' S', f_SB_name bs (gm bs K S) = some (r, gm bs K' S) ∧ f_MO_name (bs + 76) (gm bs K' S) = some (r, gm bs K' S') ∧ J K' S' := by
  obtain ⟨tl, rs, st, np, nn, nw, nb, jt, jr, jl, jn, jw, jb, js⟩ := id h
  obtain ⟨t1, t2, t3, t4⟩ := id jt
  obtain ⟨n1, n2, n3, n4, n5⟩ := id jn
  unfold f_SB_name f_MO_name
  by_cases c1 : tl < 1
  · have e1 : nI tl < 1 := by rw [li1, nI_ltI (by omega) (by omega)]; exact c1
    refine ⟨-1, up2 K 1 1 0, up2 S 0 0 0, ?_, ?_, Jclear h⟩
    · simp only [g0_0, g1_1, t3, e1, if_true, Option.bind_some, ob_1, tx_clear]
    · simp only [m0, t2, e1, if_true, Option.bind_some, mp0]
  · have e1 : ¬ nI tl < 1 := by rw [li1, nI_ltI (by omega) (by omega)]; exact c1
    by_cases c2 : 12 < tl
    · have e2 : 12 < nI tl := by rw [li12, nI_ltI (by omega) (by omega)]; exact c2
      refine ⟨-1, up2 K 1 1 0, up2 S 0 0 0, ?_, ?_, Jclear h⟩
      · simp only [g0_0, g1_1, t3, e1, e2, if_true, if_false, Option.bind_some, ob_1, tx_clear]
      · simp only [m0, t2, e1, e2, if_true, if_false, Option.bind_some, mp0]
    · have e2 : ¬ 12 < nI tl := by rw [li12, nI_ltI (by omega) (by omega)]; exact c2
      by_cases c3 : nn < 10
      · have e3 : ¬ 10 ≤ nI nn := by rw [li10, nI_leI (by omega) (by omega)]; omega
        have e4 : ¬ nI nn = 10 := by rw [li10, nI_eq (by omega) (by omega)]; omega
        have e5 : nI nn + 1 = nI (nn + 1) := nI_1 nn
        have e6 : nI (nn + 1) - 1 = nI nn := nI_pred nn
        have k1 := na_takeL bs S c3 (show tl ≤ 12 by omega) tl 0 px_fuel (up2 K (32 + 2 * nn) 1 (nI tl)) (by omega) (by unfold px_fuel; omega) (by rw [up2_n (by omega)]; exact t3) (by simp [up2_at])
        rw [nI_0] at k1
        have k2 := mo_nameL bs (up2 (up2 (rw2 (up2 K (32 + 2 * nn) 1 (nI tl)) (33 + 2 * nn) (cpy1 (up2 K (32 + 2 * nn) 1 (nI tl) 2) (up2 K (32 + 2 * nn) 1 (nI tl) (33 + 2 * nn)) 0 tl)) 0 6 (nI (nn + 1))) 1 1 0) c3 (show tl ≤ 12 by omega) tl 0 px_fuel S (by omega) (by unfold px_fuel; omega) t2 n2
        rw [nI_0] at k2
        have x1 : rw2 (up2 K (32 + 2 * nn) 1 (nI tl)) (33 + 2 * nn) (cpy1 (up2 K (32 + 2 * nn) 1 (nI tl) 2) (up2 K (32 + 2 * nn) 1 (nI tl) (33 + 2 * nn)) 0 tl) 0 6 = nI nn := by
          rw [rw2_n (by omega), up2_n (by omega)]; exact n3
        have y1 : rw2 S 11 (cpy2 (S 1) (S 11) (12 * nn) 0 tl) 0 21 = nI nn := by rw [rw2_n (by omega)]; exact n2
        have y2 : rw2 S 11 (cpy2 (S 1) (S 11) (12 * nn) 0 tl) 0 0 = nI tl := by rw [rw2_n (by omega)]; exact t2
        refine ⟨nI nn, up2 (up2 (rw2 (up2 K (32 + 2 * nn) 1 (nI tl)) (33 + 2 * nn) (cpy1 (up2 K (32 + 2 * nn) 1 (nI tl) 2) (up2 K (32 + 2 * nn) 1 (nI tl) (33 + 2 * nn)) 0 tl)) 0 6 (nI (nn + 1))) 1 1 0, up2 (up2 (up2 (up2 (rw2 S 11 (cpy2 (S 1) (S 11) (12 * nn) 0 tl)) 10 nn (nI tl)) 12 nn (-1)) 0 0 0) 0 21 (nI (nn + 1)), ?_, ?_, 0, rs, st, np, nn + 1, nw, nb, ⟨by omega, ?_, ?_, fun i hi => absurd hi (by omega)⟩, jr.cg ?_ ?_ ?_ ?_ ?_ ?_ ?_ ?_ ?_, jl.cg ?_ ?_ ?_ ?_, ⟨by omega, ?_, ?_, fun i hi => ?_, fun i h1 h2 => ?_⟩, jw.cg ?_ ?_ ?_ ?_, (jb.mono (Nat.le_succ nn) (Nat.le_refl nw)).cg ?_ ?_ ?_ ?_, js.cg ?_ ?_⟩
        · simp only [f_NA_take, g0_0, g1_1, t3, e1, e2, e3, if_false, Option.bind_some, g0_6, n3, g0_5, ar15 bs K S c3, ob_na bs K S c3, pna_1 bs K S _ c3, k1, x1, e5, p0_6, ob_1, tx_clear]
        · simp only [m0, t2, e1, e2, if_false, Option.bind_some, m21, n2, e4, k2, m22, y1, y2, ms10 bs _ _ _ c3, m24, up2_e (show ¬ (0 = 10 ∧ 21 = nn) by omega), ms12 bs _ _ _ c3, mp0, up2_e (show ¬ (0 = 12 ∧ 21 = nn) by omega), up2_e (show ¬ (0 = 0 ∧ 21 = 0) by omega), e5, mp21]
          simp only [up2_at, and_self, if_true, e6]
        case refine_20 =>
          by_cases hi2 : i = nn
          · subst hi2
            refine ⟨tl, by omega, by omega, ?_, ?_, fun j hj => ?_, ?_, Or.inl ?_⟩
            · simp [up2_at]
            · rw [up2_n (by omega), up2_n (by omega), rw2_n (by omega)]; simp [up2_at]
            · rw [up2_n (by omega), up2_n (by omega), rw2_s]
              repeat rw [up2_n (by omega)]
              rw [rw2_s]
              unfold cpy1 cpy2
              rw [if_pos (by omega), if_pos (by omega), show 12 * i + j - 12 * i = j by omega]
              exact t4 j hj
            · rw [up2_n (by omega), up2_n (by omega), rw2_n (by omega)]
              rw [up2_e (by omega), n5 i (Nat.le_refl i) c3]
              simp [up2_at]
            · simp [up2_at]
          · obtain ⟨ln, q1, q2, q3, q4, q5, q6, q7⟩ := n4 i (by omega)
            refine ⟨ln, q1, q2, ?_, ?_, fun j hj => ?_, ?_, ?_⟩
            · simp [up2_at, hi2, rw2_n, q3]
            · rw [up2_n (by omega), up2_n (by omega), rw2_n (by omega), up2_n (by omega)]; exact q4
            · rw [up2_n (by omega), up2_n (by omega), rw2_n (by omega), up2_n (by omega)]
              rw [up2_n (by omega), up2_n (by omega), up2_n (by omega), up2_n (by omega), rw2_s]
              unfold cpy2
              rw [if_neg (by omega)]
              exact q5 j hj
            · rw [up2_n (by omega), up2_n (by omega), rw2_n (by omega), up2_n (by omega), q6]
              simp [up2_at, hi2, rw2_n]
            · simp [up2_at, hi2, rw2_n]; exact q7
        case refine_21 =>
          rw [up2_n (by omega), up2_n (by omega), rw2_n (by omega), up2_n (by omega)]
          exact n5 i (by omega) h2
        all_goals first | (simp [up2_at, rw2_n]; done) | (simp [up2_at, li0]; done) | (intro i h1 h2; (repeat rw [up2_n (by omega)]); rw [rw2_n (by omega)]; (repeat rw [up2_n (by omega)]); done) | (intro i h1 h2; (repeat rw [up2_n (by omega)]); rw [rw2_n (by omega)]; done) | ((repeat rw [up2_n (by omega)]); rw [rw2_n (by omega)]; (repeat rw [up2_n (by omega)]); done) | ((repeat rw [up2_n (by omega)]); rw [rw2_n (by omega)]; done) | ((repeat rw [up2_e (by omega)]); rw [rw2_n (by omega)]; (repeat rw [up2_n (by omega)]); done) | ((repeat rw [up2_e (by omega)]); rw [rw2_n (by omega)]; done)
      · have e3 : 10 ≤ nI nn := by rw [li10, nI_leI (by omega) (by omega)]; omega
        have e4 : nI nn = 10 := by rw [li10, nI_eq (by omega) (by omega)]; omega
        refine ⟨-1, up2 K 1 1 0, up2 S 0 0 0, ?_, ?_, Jclear h⟩
        · simp only [g0_0, g1_1, t3, e1, e2, e3, if_true, if_false, Option.bind_some, g0_6, n3, ob_1, tx_clear]
        · simp only [m0, t2, e1, e2, e4, if_true, if_false, Option.bind_some, m21, n2, mp0]
