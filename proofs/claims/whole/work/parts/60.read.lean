/-! READING OF RULES: places, digits, numbers -/
def skn (T : Nat → Int32) : Nat → Nat → Nat
  | 0, p => p
  | m + 1, p => if T p = 32 then skn T m (p + 1) else p
def sk (T : Nat → Int32) (tl p : Nat) : Nat := skn T (tl - p) p
theorem sk_end (T : Nat → Int32) {tl p : Nat} (h : tl ≤ p) : sk T tl p = p := by unfold sk; rw [show tl - p = 0 by omega]; rfl
theorem sk_sp {T : Nat → Int32} {tl p : Nat} (h : p < tl) (e : T p = 32) : sk T tl p = sk T tl (p + 1) := by
  unfold sk; rw [show tl - p = (tl - (p + 1)) + 1 by omega]; simp only [skn, e, if_true]
theorem sk_no {T : Nat → Int32} {tl p : Nat} (h : p < tl) (e : ¬ T p = 32) : sk T tl p = p := by
  unfold sk; rw [show tl - p = (tl - (p + 1)) + 1 by omega]; simp only [skn, e, if_false]
theorem sk_b' (T : Nat → Int32) {tl : Nat} : ∀ m p, p + m = tl → p ≤ sk T tl p ∧ sk T tl p ≤ tl ∧ (sk T tl p < tl → ¬ T (sk T tl p) = 32) := by
  intro m
  induction m with
  | zero => intro p h; rw [sk_end T (by omega)]; omega
  | succ m ih =>
    intro p h
    by_cases c : T p = 32
    · rw [sk_sp (by omega) c]
      obtain ⟨i1, i2, i3⟩ := ih (p + 1) (by omega)
      exact ⟨by omega, i2, i3⟩
    · rw [sk_no (by omega) c]
      exact ⟨by omega, by omega, fun _ => c⟩
theorem sk_b (T : Nat → Int32) {tl p : Nat} (h : p ≤ tl) : p ≤ sk T tl p ∧ sk T tl p ≤ tl ∧ (sk T tl p < tl → ¬ T (sk T tl p) = 32) := sk_b' T (tl - p) p (by omega)
theorem sk_id (T : Nat → Int32) {tl p : Nat} (h : p ≤ tl) : sk T tl (sk T tl p) = sk T tl p := by
  obtain ⟨i1, i2, i3⟩ := sk_b T h
  by_cases c : sk T tl p < tl
  · exact sk_no c (i3 c)
  · exact sk_end T (by omega)
theorem up2_up2 (k : Kp) (i j : Nat) (v w : Int32) : up2 (up2 k i j v) i j w = up2 k i j w := by
  funext a b; rw [up2_at, up2_at, up2_at]; by_cases q : a = i ∧ b = j <;> simp [q]
theorem rr_nextL (bs : Nat) (S : Kp) {T : Nat → Int32} {tl : Nat} (ht : tl ≤ 100) : ∀ (m p n : Nat) (K : Kp), p + m = tl → m < n → K 1 1 = nI tl → (∀ i, i < tl → K 2 i = T i) → K 3 2 = nI p → f_RR_nextSign_L0 n (bs + 3) (gm bs K S) = some ((), gm bs (up2 K 3 2 (nI (sk T tl p))) S) := by
  intro m
  induction m with
  | zero =>
    intro p n K hp hm h1 h2 h3
    obtain ⟨n, rfl⟩ : ∃ n', n = n' + 1 := ⟨n - 1, by omega⟩
    obtain rfl : p = tl := by omega
    rw [sk_end T (Nat.le_refl p), up2_id h3]
    by_cases c : p = 100
    · subst c
      simp only [f_RR_nextSign_L0, g3_2, h3, Option.bind_some, show (100 : Int32) ≤ nI 100 by decide, if_true]
    · have e1 : ¬ 100 ≤ nI p := by rw [li100, nI_leI (by omega) (by omega)]; omega
      have e3 := tx_signAt bs K S (i := p) h1 (by omega) (by omega)
      rw [if_neg (by omega)] at e3
      simp only [f_RR_nextSign_L0, g3_2, h3, Option.bind_some, e1, if_false, g3_0, ob_1, e3, show ¬ (-1 : Int32) = 32 by decide]
  | succ m ih =>
    intro p n K hp hm h1 h2 h3
    obtain ⟨n, rfl⟩ : ∃ n', n = n' + 1 := ⟨n - 1, by omega⟩
    have e1 : ¬ 100 ≤ nI p := by rw [li100, nI_leI (by omega) (by omega)]; omega
    have e2 : nI p + 1 = nI (p + 1) := nI_1 p
    have e3 := tx_signAt bs K S (i := p) h1 (by omega) (by omega)
    rw [if_pos (by omega), h2 p (by omega)] at e3
    by_cases c : T p = 32
    · have i1 := ih (p + 1) n (up2 K 3 2 (nI (p + 1))) (by omega) (by omega) (by rw [up2_n (by omega)]; exact h1) (fun i hi => by rw [up2_n (by omega)]; exact h2 i hi) (by simp [up2_at])
      rw [up2_up2] at i1
      rw [sk_sp (by omega) c]
      simp only [f_RR_nextSign_L0, g3_2, h3, Option.bind_some, e1, if_false, g3_0, ob_1, e3, c, if_true, p3_2, e2, i1]
    · rw [sk_no (by omega) c, up2_id h3]
      simp only [f_RR_nextSign_L0, g3_2, h3, Option.bind_some, e1, if_false, g3_0, ob_1, e3, c]
theorem rr_next (bs : Nat) (K S : Kp) {T : Nat → Int32} {tl p : Nat} (ht : tl ≤ 100) (hp : p ≤ tl) (h1 : K 1 1 = nI tl) (h2 : ∀ i, i < tl → K 2 i = T i) (h3 : K 3 2 = nI p) : f_RR_nextSign (bs + 3) (gm bs K S) = some (if sk T tl p < tl then T (sk T tl p) else -1, gm bs (up2 K 3 2 (nI (sk T tl p))) S) := by
  have k := rr_nextL bs S (T := T) ht (tl - p) p px_fuel K (by omega) (by unfold px_fuel; omega) h1 h2 h3
  obtain ⟨i1, i2, i3⟩ := sk_b T hp
  have e3 := tx_signAt bs (up2 K 3 2 (nI (sk T tl p))) S (tl := tl) (i := sk T tl p) (by rw [up2_n (by omega)]; exact h1) (by omega) (by omega)
  rw [up2_n (show 2 ≠ 3 by omega)] at e3
  have e4 : up2 K 3 2 (nI (sk T tl p)) 3 2 = nI (sk T tl p) := by simp [up2_at]
  unfold f_RR_nextSign
  simp only [k, Option.bind_some, g3_0, g3_2, e4, ob_1, e3]
  by_cases c : sk T tl p < tl
  · rw [if_pos c, if_pos c, h2 _ c]
  · rw [if_neg c, if_neg c]
theorem mo_lookL (bs : Nat) (K : Kp) {T : Nat → Int32} {tl : Nat} (ht : tl ≤ 100) : ∀ (m p n : Nat) (S : Kp), p + m = tl → m < n → S 0 0 = nI tl → S 1 = T → S 0 14 = nI p → f_MO_look_L0 n (bs + 76) (gm bs K S) = some ((), gm bs K (up2 S 0 14 (nI (sk T tl p)))) := by
  intro m
  induction m with
  | zero =>
    intro p n S hp hm h1 h2 h3
    obtain ⟨n, rfl⟩ : ∃ n', n = n' + 1 := ⟨n - 1, by omega⟩
    obtain rfl : p = tl := by omega
    have e1 : nI p ≤ nI p := nI_le (Nat.le_refl p) (by omega)
    rw [sk_end T (Nat.le_refl p), up2_id h3]
    simp only [f_MO_look_L0, m14, h3, m0, h1, Option.bind_some, e1, if_true]
  | succ m ih =>
    intro p n S hp hm h1 h2 h3
    obtain ⟨n, rfl⟩ : ∃ n', n = n' + 1 := ⟨n - 1, by omega⟩
    have e1 : ¬ nI tl ≤ nI p := by rw [nI_leI (by omega) (by omega)]; omega
    have e2 : nI p + 1 = nI (p + 1) := nI_1 p
    by_cases c : T p = 32
    · have i1 := ih (p + 1) n (up2 S 0 14 (nI (p + 1))) (by omega) (by omega) (by rw [up2_e (by omega)]; exact h1) (by rw [up2_n (by omega)]; exact h2) (by simp [up2_at])
      rw [up2_up2] at i1
      rw [sk_sp (by omega) c]
      simp only [f_MO_look_L0, m14, h3, m0, h1, Option.bind_some, e1, if_false, m1, ma1 bs K S (show p < 100 by omega), h2, c, if_true, mp14, e2, i1]
    · rw [sk_no (by omega) c, up2_id h3]
      simp only [f_MO_look_L0, m14, h3, m0, h1, Option.bind_some, e1, if_false, m1, ma1 bs K S (show p < 100 by omega), h2, c]
theorem mo_look (bs : Nat) (K S : Kp) {T : Nat → Int32} {tl p : Nat} (ht : tl ≤ 100) (hp : p ≤ tl) (h1 : S 0 0 = nI tl) (h2 : S 1 = T) (h3 : S 0 14 = nI p) : f_MO_look (bs + 76) (gm bs K S) = some (if sk T tl p < tl then T (sk T tl p) else 0, gm bs K (up2 S 0 14 (nI (sk T tl p)))) := by
  have k := mo_lookL bs K (T := T) ht (tl - p) p px_fuel S (by omega) (by unfold px_fuel; omega) h1 h2 h3
  obtain ⟨i1, i2, i3⟩ := sk_b T hp
  have e4 : up2 S 0 14 (nI (sk T tl p)) 0 14 = nI (sk T tl p) := by simp [up2_at]
  have e5 : up2 S 0 14 (nI (sk T tl p)) 0 0 = nI tl := by rw [up2_e (by omega)]; exact h1
  have e6 : up2 S 0 14 (nI (sk T tl p)) 1 = T := by rw [up2_n (by omega)]; exact h2
  unfold f_MO_look
  by_cases c : sk T tl p < tl
  · have e1 : ¬ nI tl ≤ nI (sk T tl p) := by rw [nI_leI (by omega) (by omega)]; omega
    rw [if_pos c]
    simp only [k, Option.bind_some, m14, e4, m0, e5, e1, if_false, m1, ma1 bs K (up2 S 0 14 (nI (sk T tl p))) (show sk T tl p < 100 by omega), e6]
  · have e1 : nI tl ≤ nI (sk T tl p) := by rw [nI_leI (by omega) (by omega)]; omega
    rw [if_neg c]
    simp only [k, Option.bind_some, m14, e4, m0, e5, e1, if_true]
/-! digits -/
def dgn (T : Nat → Int32) : Nat → Nat → Nat
  | 0, _ => 0
  | m + 1, p => if 48 ≤ T p ∧ T p ≤ 57 then dgn T m (p + 1) + 1 else 0
def dg (T : Nat → Int32) (tl p : Nat) : Nat := dgn T (tl - p) p
theorem dg_end (T : Nat → Int32) {tl p : Nat} (h : tl ≤ p) : dg T tl p = 0 := by unfold dg; rw [show tl - p = 0 by omega]; rfl
theorem dg_d {T : Nat → Int32} {tl p : Nat} (h : p < tl) (e : 48 ≤ T p ∧ T p ≤ 57) : dg T tl p = dg T tl (p + 1) + 1 := by
  unfold dg; rw [show tl - p = (tl - (p + 1)) + 1 by omega]; simp only [dgn, e, and_self, if_true]
theorem dg_no {T : Nat → Int32} {tl p : Nat} (h : p < tl) (e : ¬ (48 ≤ T p ∧ T p ≤ 57)) : dg T tl p = 0 := by
  unfold dg; rw [show tl - p = (tl - (p + 1)) + 1 by omega]; simp only [dgn, e, if_false]
theorem dg_b' (T : Nat → Int32) {tl : Nat} : ∀ m p, p + m = tl → p + dg T tl p ≤ tl := by
  intro m
  induction m with
  | zero => intro p h; rw [dg_end T (by omega)]; omega
  | succ m ih =>
    intro p h
    by_cases c : 48 ≤ T p ∧ T p ≤ 57
    · rw [dg_d (by omega) c]
      have := ih (p + 1) (by omega)
      omega
    · rw [dg_no (by omega) c]; omega
theorem dg_b (T : Nat → Int32) {tl p : Nat} (h : p ≤ tl) : p + dg T tl p ≤ tl := dg_b' T (tl - p) p (by omega)
def dv (x : Int32) : Nat := x.toNatClampNeg - 48
theorem dv_e {x : Int32} (h : 48 ≤ x ∧ x ≤ 57) : x = nI (48 + dv x) ∧ dv x ≤ 9 := by
  obtain ⟨j, h1, rfl⟩ := nIr2 (n := 57) (by grind) h.2 (by omega)
  have h2 : 48 ≤ j := by have := h.1; rw [li48, nI_leI (by omega) (by omega)] at this; exact this
  unfold dv
  rw [nI_clamp (by omega)]
  exact ⟨by rw [show 48 + (j - 48) = j by omega], by omega⟩
def vN (T : Nat → Int32) (p : Nat) : Nat → Nat
  | 0 => 0
  | k + 1 => vN T p k * 10 + dv (T (p + k))
def nC (T : Nat → Int32) (a k : Nat) (x : Int32) : Prop := k ≤ 3 → x = nI (vN T a k) ∧ vN T a k < 10 ^ k
theorem nC_0 (T : Nat → Int32) (a : Nat) : nC T a 0 0 := fun _ => ⟨rfl, by simp [vN]⟩
theorem nC_s {T : Nat → Int32} {a k : Nat} {x : Int32} (h : nC T a k x) (hd : 48 ≤ T (a + k) ∧ T (a + k) ≤ 57) (hk : k + 1 ≤ 3) : x * 10 + T (a + k) - 48 = nI (vN T a (k + 1)) ∧ vN T a (k + 1) < 10 ^ (k + 1) ∧ vN T a (k + 1) < 1000 := by
  obtain ⟨h1, h2⟩ := h (by omega)
  obtain ⟨d1, d2⟩ := dv_e hd
  have e1 : vN T a (k + 1) = vN T a k * 10 + dv (T (a + k)) := rfl
  have e2 : 10 ^ (k + 1) = 10 ^ k * 10 := Nat.pow_succ ..
  have e3 : 10 ^ (k + 1) ≤ 10 ^ 3 := Nat.pow_le_pow_right (by omega) hk
  refine ⟨?_, by omega, by omega⟩
  rw [e1, h1]
  generalize hz : dv (T (a + k)) = z at *
  rw [d1, li10, pk_mul, nI_add, li48, pk_sub (by omega)]
  congr 1
  omega
theorem nC_min {T : Nat → Int32} {a k : Nat} {x : Int32} (h : nC T a k x) (hd : 48 ≤ T (a + k) ∧ T (a + k) ≤ 57) : nC T a (k + 1) (if 1000 < x * 10 + T (a + k) - 48 then 1000 else x * 10 + T (a + k) - 48) := by
  intro hk
  obtain ⟨h1, h2, h3⟩ := nC_s h hd hk
  rw [h1]
  have e : ¬ 1000 < nI (vN T a (k + 1)) := by rw [li1000, nI_ltI (by omega) (by omega)]; omega
  rw [if_neg e]
  exact ⟨rfl, h2⟩
theorem nC_mo {T : Nat → Int32} {a k : Nat} {x : Int32} (h : nC T a k x) (hd : 48 ≤ T (a + k) ∧ T (a + k) ≤ 57) : nC T a (k + 1) (10 * x + T (a + k) - 48) := by
  intro hk
  obtain ⟨h1, h2, h3⟩ := nC_s h hd hk
  rw [show 10 * x = x * 10 by grind, h1]
  exact ⟨rfl, h2⟩
theorem rr_numL (bs : Nat) (S : Kp) {T : Nat → Int32} {tl a : Nat} (ht : tl ≤ 100) (x1 x2 x3 : Int32) : ∀ (m p n k : Nat) (x4 : Int32) (K : Kp), p + m = tl → m < n → p = a + k → K 1 1 = nI tl → (∀ i, i < tl → K 2 i = T i) → K 3 2 = nI p → nC T a k x4 → ∃ v, f_RR_readNumber_L13 n (bs + 3) x1 x2 x3 x4 (gm bs K S) = some (v, gm bs (up2 K 3 2 (nI (p + dg T tl p))) S) ∧ nC T a (k + dg T tl p) v := by
  intro m
  induction m with
  | zero =>
    intro p n k x4 K hp hm ha h1 h2 h3 h4
    obtain ⟨n, rfl⟩ : ∃ n', n = n' + 1 := ⟨n - 1, by omega⟩
    obtain rfl : p = tl := by omega
    refine ⟨x4, ?_, by rw [dg_end T (Nat.le_refl p)]; exact h4⟩
    rw [dg_end T (Nat.le_refl p), show p + 0 = p from rfl, up2_id h3]
    by_cases c : p = 100
    · have e1 : 100 ≤ nI p := by rw [c]; decide
      simp only [f_RR_readNumber_L13, g3_2, h3, Option.bind_some, e1, if_true]
    · have e1 : ¬ 100 ≤ nI p := by rw [li100, nI_leI (by omega) (by omega)]; omega
      have e3 := tx_signAt bs K S (i := p) h1 (by omega) (by omega)
      rw [if_neg (by omega)] at e3
      simp only [f_RR_readNumber_L13, g3_2, h3, Option.bind_some, e1, if_false, g3_0, ob_1, e3, w_isWithin, show ¬ ((48 : Int32) ≤ -1 ∧ (-1 : Int32) ≤ 57) by decide, if_true]
  | succ m ih =>
    intro p n k x4 K hp hm ha h1 h2 h3 h4
    obtain ⟨n, rfl⟩ : ∃ n', n = n' + 1 := ⟨n - 1, by omega⟩
    have e1 : ¬ 100 ≤ nI p := by rw [li100, nI_leI (by omega) (by omega)]; omega
    have e2 : nI p + 1 = nI (p + 1) := nI_1 p
    have e3 := tx_signAt bs K S (i := p) h1 (by omega) (by omega)
    rw [if_pos (by omega), h2 p (by omega)] at e3
    by_cases c : 48 ≤ T p ∧ T p ≤ 57
    · have h5 := nC_min h4 (by rw [← ha]; exact c)
      rw [← ha] at h5
      obtain ⟨v, i1, i2⟩ := ih (p + 1) n (k + 1) _ (up2 K 3 2 (nI (p + 1))) (by omega) (by omega) (by omega) (by rw [up2_n (by omega)]; exact h1) (fun i hi => by rw [up2_n (by omega)]; exact h2 i hi) (by simp [up2_at]) h5
      rw [up2_up2] at i1
      rw [dg_d (by omega) c]
      refine ⟨v, ?_, by rw [show k + (dg T tl (p + 1) + 1) = k + 1 + dg T tl (p + 1) by omega]; exact i2⟩
      rw [show p + (dg T tl (p + 1) + 1) = p + 1 + dg T tl (p + 1) by omega]
      simp only [f_RR_readNumber_L13, g3_2, h3, Option.bind_some, e1, if_false, g3_0, ob_1, e3, w_isWithin, c, and_self, if_true, show ¬ (1 : Int32) = 0 by decide, p3_2, e2, i1]
    · rw [dg_no (by omega) c]
      refine ⟨x4, ?_, h4⟩
      rw [show p + 0 = p from rfl, up2_id h3]
      simp only [f_RR_readNumber_L13, g3_2, h3, Option.bind_some, e1, if_false, g3_0, ob_1, e3, w_isWithin, c, if_true]
theorem mo_numL (bs : Nat) {T : Nat → Int32} {tl a : Nat} (ht : tl ≤ 100) (x1 x3 : Int32) : ∀ (m p n k : Nat) (x5 : Int32) (S : Kp), p + m = tl → m < n → p = a + k → S 0 0 = nI tl → S 1 = T → S 0 14 = nI p → nC T a k x5 → ∃ v, (∀ K, f_MO_number_L16 n (bs + 76) x1 x3 (nI k) x5 (gm bs K S) = some ((nI (k + dg T tl p), v), gm bs K (up2 S 0 14 (nI (p + dg T tl p))))) ∧ nC T a (k + dg T tl p) v := by
  intro m
  induction m with
  | zero =>
    intro p n k x5 S hp hm ha h1 h2 h3 h4
    obtain ⟨n, rfl⟩ : ∃ n', n = n' + 1 := ⟨n - 1, by omega⟩
    obtain rfl : p = tl := by omega
    refine ⟨x5, fun K => ?_, by rw [dg_end T (Nat.le_refl p)]; exact h4⟩
    have e1 : nI p ≤ nI p := nI_le (Nat.le_refl p) (by omega)
    rw [dg_end T (Nat.le_refl p), show p + 0 = p from rfl, up2_id h3]
    simp only [f_MO_number_L16, m14, h3, m0, h1, Option.bind_some, e1, if_true, Nat.add_zero]
  | succ m ih =>
    intro p n k x5 S hp hm ha h1 h2 h3 h4
    obtain ⟨n, rfl⟩ : ∃ n', n = n' + 1 := ⟨n - 1, by omega⟩
    have e1 : ¬ nI tl ≤ nI p := by rw [nI_leI (by omega) (by omega)]; omega
    have e2 : nI p + 1 = nI (p + 1) := nI_1 p
    have e2' : nI k + 1 = nI (k + 1) := nI_1 k
    by_cases c1 : T p < 48
    · rw [dg_no (by omega) (by grind)]
      refine ⟨x5, fun K => ?_, h4⟩
      rw [show p + 0 = p from rfl, up2_id h3]
      simp only [f_MO_number_L16, m14, h3, m0, h1, Option.bind_some, e1, if_false, m1, ma1 bs K S (show p < 100 by omega), h2, c1, if_true, Nat.add_zero]
    · by_cases c2 : 57 < T p
      · rw [dg_no (by omega) (by grind)]
        refine ⟨x5, fun K => ?_, h4⟩
        rw [show p + 0 = p from rfl, up2_id h3]
        simp only [f_MO_number_L16, m14, h3, m0, h1, Option.bind_some, e1, if_false, m1, ma1 bs K S (show p < 100 by omega), h2, c1, c2, if_true, Nat.add_zero]
      · have c : 48 ≤ T p ∧ T p ≤ 57 := by grind
        rw [dg_d (by omega) c]
        rw [show p + (dg T tl (p + 1) + 1) = p + 1 + dg T tl (p + 1) by omega, show k + (dg T tl (p + 1) + 1) = k + 1 + dg T tl (p + 1) by omega]
        by_cases c4 : 4 ≤ k
        · have e4 : 4 ≤ nI k := by rw [li4, nI_leI (by omega) (by omega)]; omega
          obtain ⟨v, i1, i2⟩ := ih (p + 1) n (k + 1) x5 (up2 S 0 14 (nI (p + 1))) (by omega) (by omega) (by omega) (by rw [up2_e (by omega)]; exact h1) (by rw [up2_n (by omega)]; exact h2) (by simp [up2_at]) (fun h => absurd h (by omega))
          simp only [up2_up2] at i1
          refine ⟨v, fun K => ?_, i2⟩
          simp only [f_MO_number_L16, m14, h3, m0, h1, Option.bind_some, e1, if_false, m1, ma1 bs K S (show p < 100 by omega), h2, c1, c2, e4, if_true, mp14, e2, e2', i1]
        · have e4 : ¬ 4 ≤ nI k := by rw [li4, nI_leI (by omega) (by omega)]; omega
          have h5 := nC_mo h4 (by rw [← ha]; exact c)
          rw [← ha] at h5
          obtain ⟨v, i1, i2⟩ := ih (p + 1) n (k + 1) _ (up2 S 0 14 (nI (p + 1))) (by omega) (by omega) (by omega) (by rw [up2_e (by omega)]; exact h1) (by rw [up2_n (by omega)]; exact h2) (by simp [up2_at]) h5
          simp only [up2_up2] at i1
          refine ⟨v, fun K => ?_, i2⟩
          simp only [f_MO_number_L16, m14, h3, m0, h1, Option.bind_some, e1, if_false, m1, ma1 bs K S (show p < 100 by omega), h2, c1, c2, e4, mp14, e2, e2', i1]
/-- the number that stands behind p, and how far it goes -/
def nv (T : Nat → Int32) (tl p : Nat) : Nat := vN T (sk T tl p) (dg T tl (sk T tl p))
def npl (T : Nat → Int32) (tl p : Nat) : Nat := sk T tl p + dg T tl (sk T tl p)
def nok (T : Nat → Int32) (tl p l : Nat) : Prop := 1 ≤ dg T tl (sk T tl p) ∧ dg T tl (sk T tl p) ≤ 3 ∧ (T (sk T tl p) = 48 → dg T tl (sk T tl p) ≤ 1) ∧ l ≤ nv T tl p ∧ nv T tl p < 1000
theorem rr_num (bs : Nat) (K S : Kp) {T : Nat → Int32} {tl p l : Nat} (ht : tl ≤ 100) (hp : p ≤ tl) (hl : l ≤ 1000) (h1 : K 1 1 = nI tl) (h2 : ∀ i, i < tl → K 2 i = T i) (h3 : K 3 2 = nI p) : (nok T tl p l → f_RR_readNumber (bs + 3) (nI l) (gm bs K S) = some (nI (nv T tl p), gm bs (up2 K 3 2 (nI (npl T tl p))) S)) ∧ (¬ nok T tl p l → f_RR_readNumber (bs + 3) (nI l) (gm bs K S) = some (-1, gm bs (up2 K 3 2 (nI (sk T tl p))) S)) := by
  have k1 := rr_next bs K S (T := T) ht hp h1 h2 h3
  obtain ⟨i1, i2, i3⟩ := sk_b T hp
  have i4 := dg_b T i2
  obtain ⟨v, k2, k3⟩ := rr_numL bs S (T := T) (tl := tl) (a := sk T tl p) ht (nI l) (if sk T tl p < tl then T (sk T tl p) else -1) (nI (sk T tl p)) (tl - sk T tl p) (sk T tl p) px_fuel 0 0 (up2 K 3 2 (nI (sk T tl p))) (by omega) (by unfold px_fuel; omega) rfl (by rw [up2_n (by omega)]; exact h1) (fun i hi => by rw [up2_n (by omega)]; exact h2 i hi) (by simp [up2_at]) (nC_0 _ _)
  rw [up2_up2] at k2
  rw [Nat.zero_add] at k3
  have e1 : up2 K 3 2 (nI (sk T tl p)) 3 2 = nI (sk T tl p) := by simp [up2_at]
  have e2 : up2 K 3 2 (nI (sk T tl p + dg T tl (sk T tl p))) 3 2 = nI (sk T tl p + dg T tl (sk T tl p)) := by simp [up2_at]
  have e3 : nI (sk T tl p + dg T tl (sk T tl p)) - nI (sk T tl p) = nI (dg T tl (sk T tl p)) := by rw [pk_sub (by omega)]; congr 1; omega
  unfold nok npl
  unfold nv
  generalize hq : sk T tl p = q at *
  generalize hn : dg T tl q = n at *
  have l1 : nI n < 1 ↔ n < 1 := by rw [li1]; exact nI_ltI (by omega) (by omega)
  have l2 : 3 < nI n ↔ 3 < n := by rw [li3]; exact nI_ltI (by omega) (by omega)
  have l3 : nI n ≤ 1 ↔ n ≤ 1 := by rw [li1]; exact nI_leI (by omega) (by omega)
  unfold f_RR_readNumber
  simp only [ob_3, Option.bind_some, k1, g3_2, e1, k2, e2, e3, l1, l2, l3, p3_2, up2_up2]
  by_cases c1 : n < 1
  · refine ⟨fun h => absurd h.1 (by omega), fun _ => ?_⟩
    simp only [c1, if_true, ite_self]
  · by_cases c2 : 3 < n
    · refine ⟨fun h => absurd h.2.1 (by omega), fun _ => ?_⟩
      simp only [c1, c2, if_true, if_false, ite_self]
    · obtain ⟨rfl, v1⟩ := k3 (by omega)
      have v2 : 10 ^ n ≤ 10 ^ 3 := Nat.pow_le_pow_right (by omega) (by omega)
      have l4 : nI l ≤ nI (vN T q n) ↔ l ≤ vN T q n := nI_leI (by omega) (by omega)
      have c5 : q < tl := by omega
      simp only [c1, c2, if_false, l4, if_pos c5]
      by_cases c3 : T q = 48
      · by_cases c4 : n ≤ 1
        · by_cases c6 : l ≤ vN T q n
          · refine ⟨fun _ => ?_, fun h => absurd ⟨by omega, by omega, fun _ => c4, c6, by omega⟩ h⟩
            simp only [c3, c4, c6, if_true]
          · refine ⟨fun h => absurd h.2.2.2.1 c6, fun _ => ?_⟩
            simp only [c3, c4, c6, if_true, if_false]
        · refine ⟨fun h => absurd (h.2.2.1 c3) c4, fun _ => ?_⟩
          simp only [c3, c4, if_true, if_false]
      · by_cases c6 : l ≤ vN T q n
        · refine ⟨fun _ => ?_, fun h => absurd ⟨by omega, by omega, fun z => absurd z c3, c6, by omega⟩ h⟩
          simp only [c3, c6, if_true, if_false]
        · refine ⟨fun h => absurd h.2.2.2.1 c6, fun _ => ?_⟩
          simp only [c3, c6, if_false]
theorem mo_num (bs : Nat) (S : Kp) {T : Nat → Int32} {tl p l : Nat} (ht : tl ≤ 100) (hp : p ≤ tl) (hl : l ≤ 1000) (h1 : S 0 0 = nI tl) (h2 : S 1 = T) (h3 : S 0 14 = nI p) : (nok T tl p l → ∀ K, f_MO_number (bs + 76) (nI l) (gm bs K S) = some (nI (nv T tl p), gm bs K (up2 S 0 14 (nI (npl T tl p))))) ∧ (¬ nok T tl p l → ∃ x, ∀ K, f_MO_number (bs + 76) (nI l) (gm bs K S) = some (x, gm bs K (up2 (up2 S 0 14 (nI (sk T tl p))) 0 15 1))) := by
  obtain ⟨i1, i2, i3⟩ := sk_b T hp
  have i4 := dg_b T i2
  obtain ⟨v, k2, k3⟩ := mo_numL bs (T := T) (tl := tl) (a := sk T tl p) ht (nI l) (nI (sk T tl p)) (tl - sk T tl p) (sk T tl p) px_fuel 0 0 (up2 S 0 14 (nI (sk T tl p))) (by omega) (by unfold px_fuel; omega) rfl (by rw [up2_e (by omega)]; exact h1) (by rw [up2_n (by omega)]; exact h2) (by simp [up2_at]) (nC_0 _ _)
  simp only [up2_up2, nI_0, Nat.zero_add] at k2
  suffices main : ∀ K, (nok T tl p l → f_MO_number (bs + 76) (nI l) (gm bs K S) = some (nI (nv T tl p), gm bs K (up2 S 0 14 (nI (npl T tl p))))) ∧ (¬ nok T tl p l → f_MO_number (bs + 76) (nI l) (gm bs K S) = some (v, gm bs K (up2 (up2 S 0 14 (nI (sk T tl p))) 0 15 1))) from
    ⟨fun c K => (main K).1 c, fun c => ⟨v, fun K => (main K).2 c⟩⟩
  intro K
  have k1 := mo_look bs K S (T := T) ht hp h1 h2 h3
  rw [Nat.zero_add] at k3
  have e1 : up2 S 0 14 (nI (sk T tl p)) 0 14 = nI (sk T tl p) := by simp [up2_at]
  have e2 : up2 S 0 14 (nI (sk T tl p + dg T tl (sk T tl p))) 1 = T := by rw [up2_n (by omega)]; exact h2
  unfold nok npl
  unfold nv
  generalize hq : sk T tl p = q at *
  generalize hn : dg T tl q = n at *
  have l1 : nI n = 0 ↔ n = 0 := by rw [li0]; exact nI_eq (by omega) (by omega)
  have l2 : 3 < nI n ↔ 3 < n := by rw [li3]; exact nI_ltI (by omega) (by omega)
  have l3 : nI n ≤ 1 ↔ n ≤ 1 := by rw [li1]; exact nI_leI (by omega) (by omega)
  unfold f_MO_number
  simp only [m_ob, Option.bind_some, k1, m14, e1, k2, l1, l2, l3, mp14, mp15, up2_up2]
  by_cases c1 : n = 0
  · refine ⟨fun h => absurd h.1 (by omega), fun _ => ?_⟩
    simp only [c1, if_true]
  · by_cases c2 : 3 < n
    · refine ⟨fun h => absurd h.2.1 (by omega), fun _ => ?_⟩
      simp only [c1, c2, if_true, if_false]
    · obtain ⟨rfl, v1⟩ := k3 (by omega)
      have v2 : 10 ^ n ≤ 10 ^ 3 := Nat.pow_le_pow_right (by omega) (by omega)
      have l4 : nI l ≤ nI (vN T q n) ↔ l ≤ vN T q n := nI_leI (by omega) (by omega)
      have c5 : q < 100 := by omega
      simp only [c1, c2, if_false, l4, m1, Option.bind_some, ma1 bs K (up2 S 0 14 (nI (q + n))) c5, e2]
      by_cases c4 : n ≤ 1
      · by_cases c6 : l ≤ vN T q n
        · refine ⟨fun _ => ?_, fun h => absurd ⟨by omega, by omega, fun _ => c4, c6, by omega⟩ h⟩
          simp only [c4, c6, if_true]
        · refine ⟨fun h => absurd h.2.2.2.1 c6, fun _ => ?_⟩
          simp only [c4, c6, if_true, if_false]
      · by_cases c3 : T q = 48
        · refine ⟨fun h => absurd (h.2.2.1 c3) c4, fun _ => ?_⟩
          simp only [c3, c4, if_true, if_false]
        · by_cases c6 : l ≤ vN T q n
          · refine ⟨fun _ => ?_, fun h => absurd ⟨by omega, by omega, fun z => absurd z c3, c6, by omega⟩ h⟩
            simp only [c3, c4, c6, if_true, if_false]
          · refine ⟨fun h => absurd h.2.2.2.1 c6, fun _ => ?_⟩
            simp only [c3, c4, c6, if_false]
