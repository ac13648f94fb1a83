/-! pairs: the first place that fits, or the place behind the last -/
def pfind (f g : Nat → Int32) (a b : Int32) : Nat → Nat → Nat
  | 0, k => k
  | m + 1, k => if f k = a ∧ g k = b then k else pfind f g a b m (k + 1)
theorem pfind_cg {f g f' g' : Nat → Int32} {a b : Int32} : ∀ (m k : Nat), (∀ i, k ≤ i → i < k + m → f i = f' i ∧ g i = g' i) → pfind f g a b m k = pfind f' g' a b m k
  | 0, k, _ => rfl
  | m + 1, k, h => by
    obtain ⟨h1, h2⟩ := h k (Nat.le_refl k) (by omega)
    simp only [pfind, h1, h2, pfind_cg m (k + 1) (fun i h3 h4 => h i (by omega) (by omega))]
theorem pfind_b {f g : Nat → Int32} {a b : Int32} : ∀ (m k : Nat), k ≤ pfind f g a b m k ∧ pfind f g a b m k ≤ k + m ∧ (pfind f g a b m k < k + m → f (pfind f g a b m k) = a ∧ g (pfind f g a b m k) = b)
  | 0, k => ⟨Nat.le_refl k, Nat.le_refl k, fun h => absurd h (Nat.lt_irrefl _)⟩
  | m + 1, k => by
    have ih := pfind_b (f := f) (g := g) (a := a) (b := b) m (k + 1)
    by_cases c : f k = a ∧ g k = b
    · simp only [pfind, c, and_self, if_true]
      exact ⟨Nat.le_refl k, by omega, fun _ => trivial⟩
    · simp only [pfind, c, if_false]
      exact ⟨by omega, by omega, fun h => ih.2.2 (by omega)⟩
theorem le_pairL (bs : Nat) (K S : Kp) (a b : Int32) {np : Nat} (hp : K 10 4 = nI np) (hn : np ≤ 60) : ∀ (m k n : Nat), k + m = np → m < n → f_LE_pairOf_L2 n (bs + 10) a b (nI k) (gm bs K S) = some (nI (pfind (K 12) (K 13) a b m k), gm bs K S) := by
  intro m
  induction m with
  | zero =>
    intro k n hk hm
    obtain ⟨n, rfl⟩ : ∃ n', n = n' + 1 := ⟨n - 1, by omega⟩
    have e1 : nI np ≤ nI k := by rw [nI_leI (by omega) (by omega)]; omega
    simp only [f_LE_pairOf_L2, g10_4, hp, Option.bind_some, e1, if_true, pfind]
  | succ m ih =>
    intro k n hk hm
    obtain ⟨n, rfl⟩ : ∃ n', n = n' + 1 := ⟨n - 1, by omega⟩
    have e1 : ¬ nI np ≤ nI k := by rw [nI_leI (by omega) (by omega)]; omega
    have e2 : nI k + 1 = nI (k + 1) := nI_1 k
    have i1 := ih (k + 1) n (by omega) (by omega)
    by_cases c1 : K 12 k = a
    · by_cases c2 : K 13 k = b
      · simp only [f_LE_pairOf_L2, g10_4, hp, Option.bind_some, e1, if_false, g10_1, a12 bs K S (show k < 60 by omega), c1, if_true, g10_2, a13 bs K S (show k < 60 by omega), c2, pfind, and_self]
      · simp only [f_LE_pairOf_L2, g10_4, hp, Option.bind_some, e1, if_false, g10_1, a12 bs K S (show k < 60 by omega), c1, if_true, g10_2, a13 bs K S (show k < 60 by omega), c2, pfind, and_false, e2, i1]
    · simp only [f_LE_pairOf_L2, g10_4, hp, Option.bind_some, e1, if_false, g10_1, a12 bs K S (show k < 60 by omega), c1, pfind, false_and, e2, i1]
theorem mo_pairL (bs : Nat) (K S : Kp) (a b : Int32) {np : Nat} (hp : S 0 17 = nI np) (hn : np ≤ 60) : ∀ (m k n : Nat), k + m = np → m < n → f_MO_pairOf_L2 n (bs + 76) a b (nI k) (gm bs K S) = some (nI (pfind (S 7) (S 8) a b m k), gm bs K S) := by
  intro m
  induction m with
  | zero =>
    intro k n hk hm
    obtain ⟨n, rfl⟩ : ∃ n', n = n' + 1 := ⟨n - 1, by omega⟩
    have e1 : nI np ≤ nI k := by rw [nI_leI (by omega) (by omega)]; omega
    simp only [f_MO_pairOf_L2, m17, hp, Option.bind_some, e1, if_true, pfind]
  | succ m ih =>
    intro k n hk hm
    obtain ⟨n, rfl⟩ : ∃ n', n = n' + 1 := ⟨n - 1, by omega⟩
    have e1 : ¬ nI np ≤ nI k := by rw [nI_leI (by omega) (by omega)]; omega
    have e2 : nI k + 1 = nI (k + 1) := nI_1 k
    have i1 := ih (k + 1) n (by omega) (by omega)
    by_cases c1 : S 7 k = a
    · by_cases c2 : S 8 k = b
      · simp only [f_MO_pairOf_L2, m17, hp, Option.bind_some, e1, if_false, m18, ma7 bs K S (show k < 60 by omega), c1, if_true, m19, ma8 bs K S (show k < 60 by omega), c2, pfind, and_self]
      · simp only [f_MO_pairOf_L2, m17, hp, Option.bind_some, e1, if_false, m18, ma7 bs K S (show k < 60 by omega), c1, if_true, m19, ma8 bs K S (show k < 60 by omega), c2, pfind, and_false, e2, i1]
    · simp only [f_MO_pairOf_L2, m17, hp, Option.bind_some, e1, if_false, m18, ma7 bs K S (show k < 60 by omega), c1, pfind, false_and, e2, i1]
theorem le_pairOf (bs : Nat) (K S : Kp) (a b : Int32) {np : Nat} (h : Jl K S np) : f_LE_pairOf (bs + 10) a b (gm bs K S) = some (nI (pfind (S 7) (S 8) a b np 0), gm bs K S) := by
  obtain ⟨l1, l2, l3, l4, l5⟩ := h
  unfold f_LE_pairOf
  have e := le_pairL bs K S a b l3 l1 np 0 px_fuel (by omega) (by unfold px_fuel; omega)
  rw [nI_0] at e
  simp only [e, Option.bind_some]
  rw [pfind_cg np 0 (fun i _ h2 => ⟨(l4 i (by omega)).1, (l4 i (by omega)).2.1⟩)]
theorem mo_pairOf (bs : Nat) (K S : Kp) (a b : Int32) {np : Nat} (l2 : S 0 17 = nI np) (l1 : np ≤ 60) : f_MO_pairOf (bs + 76) a b (gm bs K S) = some (nI (pfind (S 7) (S 8) a b np 0), gm bs K S) := by
  unfold f_MO_pairOf
  have e := mo_pairL bs K S a b l2 l1 np 0 px_fuel (by omega) (by unfold px_fuel; omega)
  rw [nI_0] at e
  simp only [e, Option.bind_some]
theorem up2_id {k : Kp} {i j : Nat} {v : Int32} (h : k i j = v) : up2 k i j v = k := by
  funext a b
  rw [up2_at]
  by_cases c : a = i ∧ b = j
  · rw [if_pos c, c.1, c.2, h]
  · rw [if_neg c]
/-! kern -/
theorem op_kern {bs : Nat} {K S : Kp} (x y z : Int32) (h : J K S) : ∃ r K' S', f_SB_kern bs x y z (gm bs K S) = some (r, gm bs K' S) ∧ f_MO_kern (bs + 76) x y z (gm bs K' S) = some (r, gm bs K' S') ∧ J K' S' := by
  obtain ⟨tl, rs, st, np, nn, nw, nb, jt, jr, jl, jn, jw, jb, js⟩ := id h
  obtain ⟨l1, l2, l3, l4, l5⟩ := id jl
  unfold f_SB_kern f_MO_kern f_LE_setKern
  simp only [w_isLetter, q_isSign]
  by_cases c1 : 32 ≤ x ∧ x ≤ 126
  · by_cases c2 : 32 ≤ y ∧ y ≤ 126
    · by_cases c3 : -16 ≤ z ∧ z ≤ 16
      · have c4 : ¬ z < -16 := by grind
        have hpb := pfind_b (f := S 7) (g := S 8) (a := x) (b := y) np 0
        have ep := le_pairOf bs K S x y jl
        have eq : ∀ K1, f_MO_pairOf (bs + 76) x y (gm bs K1 S) = some (nI (pfind (S 7) (S 8) x y np 0), gm bs K1 S) := fun K1 => mo_pairOf bs K1 S x y l2 l1
        generalize pfind (S 7) (S 8) x y np 0 = p at hpb ep eq
        by_cases c5 : p < 60
        · have e1 : nI p < 60 := by rw [li60, nI_ltI (by omega) (by omega)]; exact c5
          have e2 : ¬ nI p = 60 := by rw [li60, nI_eq (by omega) (by omega)]; omega
          by_cases c6 : p = np
          · subst c6
            refine ⟨1, up2 (up2 (up2 (up2 K 12 p x) 13 p y) 10 4 (nI (p + 1))) 14 p z, up2 (up2 (up2 (up2 S 7 p x) 8 p y) 9 p z) 0 17 (nI (p + 1)), ?_, ?_, tl, rs, st, p + 1, nn, nw, nb, jt.cg ?_ ?_ ?_ ?_, jr.cg ?_ ?_ ?_ ?_ ?_ ?_ ?_ ?_ ?_, ⟨by omega, ?_, ?_, fun i hi => ?_, fun u hu => ?_⟩, jn.cg ?_ ?_ ?_ ?_, jw.cg ?_ ?_ ?_ ?_, jb.cg ?_ ?_ ?_ ?_, js.cg ?_ ?_⟩
            · have a1 : up2 (up2 K 12 p x) 13 p y 10 4 = nI p := by simp [up2_at, l3]
              simp only [c1, c2, c3, w_isWithin, and_self, if_true, Option.bind_some, g0_4, ob_10, ep, e1, g10_4, l3, g10_1, s12 bs _ S _ c5, g10_2, s13 bs _ S _ c5, a1, nI_1, p10_4, g10_3, s14 bs _ S _ c5]
              rfl
            · have a1 : up2 (up2 (up2 S 7 p x) 8 p y) 9 p z 0 17 = nI p := by simp [up2_at, l2]
              simp only [c1, c2, c3, c4, and_self, if_true, if_false, Option.bind_some, m_ob, eq, e2, m18, ms7 bs _ _ _ c5, m19, ms8 bs _ _ _ c5, m20, ms9 bs _ _ _ c5, m17, a1, nI_1, mp17]
              rfl
            case refine_18 =>
              by_cases hi2 : i = p
              · simp [up2_at, hi2]
              · simp [up2_at, hi2]
                exact l4 i (by omega)
            case refine_19 =>
              simp [up2_at]
              exact l5 u hu
            all_goals first | (simp [up2_at]; done) | (simp [up2_at]; assumption) | (intro i h1 h2; (repeat rw [up2_n (by omega)]); done) | ((repeat rw [up2_n (by omega)]); done) | ((repeat rw [up2_e (by omega)]); done)
          · have e3 : ¬ nI p = nI np := by rw [nI_eq (by omega) (by omega)]; exact c6
            obtain ⟨f1, f2⟩ := hpb.2.2 (by omega)
            have b1 : up2 S 7 p x = S := up2_id f1
            have b2 : up2 S 8 p y = S := up2_id f2
            refine ⟨1, up2 K 14 p z, up2 S 9 p z, ?_, ?_, tl, rs, st, np, nn, nw, nb, jt.cg ?_ ?_ ?_ ?_, jr.cg ?_ ?_ ?_ ?_ ?_ ?_ ?_ ?_ ?_, ⟨l1, ?_, ?_, fun i hi => ?_, fun u hu => ?_⟩, jn.cg ?_ ?_ ?_ ?_, jw.cg ?_ ?_ ?_ ?_, jb.cg ?_ ?_ ?_ ?_, js.cg ?_ ?_⟩
            · simp only [c1, c2, c3, w_isWithin, and_self, if_true, if_false, Option.bind_some, g0_4, ob_10, ep, e1, g10_4, l3, e3, g10_3, s14 bs _ S _ c5]
              rfl
            · have a1 : up2 S 9 p z 0 17 = nI np := by simp [up2_at, l2]
              have b3 : up2 (up2 S 9 p z) 0 17 (nI np) = up2 S 9 p z := up2_id a1
              simp only [c1, c2, c3, c4, and_self, if_true, if_false, Option.bind_some, m_ob, eq, e2, m18, ms7 bs _ _ _ c5, m19, ms8 bs _ _ _ c5, m20, ms9 bs _ _ _ c5, m17, b1, b2, a1, e3, mp17, b3]
              rfl
            case refine_18 =>
              by_cases hi2 : i = p
              · subst hi2
                have := l4 i hi
                simp [up2_at]
                exact ⟨this.1, this.2.1⟩
              · simp [up2_at, hi2]
                exact l4 i (by omega)
            case refine_19 =>
              simp [up2_at]
              exact l5 u hu
            all_goals first | (simp [up2_at]; done) | (simp [up2_at]; assumption) | (intro i h1 h2; (repeat rw [up2_n (by omega)]); done) | ((repeat rw [up2_n (by omega)]); done) | ((repeat rw [up2_e (by omega)]); done)
        · have e1 : ¬ nI p < 60 := by rw [li60, nI_ltI (by omega) (by omega)]; exact c5
          have e2 : nI p = 60 := by rw [li60, nI_eq (by omega) (by omega)]; omega
          refine ⟨0, K, S, ?_, ?_, h⟩
          · simp only [c1, c2, c3, w_isWithin, and_self, if_true, if_false, Option.bind_some, g0_4, ob_10, ep, e1]
            rfl
          · simp only [c1, c2, c3, c4, and_self, if_true, if_false, Option.bind_some, m_ob, eq, e2]
            rfl
      · refine ⟨0, K, S, ?_, ?_, h⟩
        · simp only [c1, c2, c3, w_isWithin, and_self, if_true, if_false, Option.bind_some]
          rfl
        · by_cases c4 : z < -16
          · simp only [c1, c2, c4, and_self, if_true, if_false, Option.bind_some]
            rfl
          · have c5 : ¬ z ≤ 16 := by grind
            simp only [c1, c2, c4, c5, and_self, if_true, if_false, Option.bind_some]
            rfl
    · refine ⟨0, K, S, ?_, ?_, h⟩
      · simp only [c1, c2, and_self, if_false, Option.bind_some, if_true]
        rfl
      · simp only [c1, c2, and_self, if_false, Option.bind_some, if_true]
        rfl
  · refine ⟨0, K, S, ?_, ?_, h⟩
    · simp only [c1, if_false, Option.bind_some, if_true]
    · simp only [c1, if_false, Option.bind_some, if_true]
