/-! the reference's scratch cells are 21, 22, 23 (and numbers in its own cell): the others are as they were -/
def Sy (S S' : Kp) : Prop := ∀ i, i ≤ 20 → S' i = S i
theorem Sy.rf (S : Kp) : Sy S S := fun _ _ => rfl
theorem Sy.rw {S S' : Kp} (h : Sy S S') {i : Nat} (hi : 20 < i) (r : Nat → Int32) : Sy S (rw2 S' i r) := fun j hj => by rw [rw2_n (by omega)]; exact h j hj
theorem Sy.eA {S S' : Kp} (h : Sy S S') : wA S' = wA S := by funext w; unfold wA; rw [h 13 (by omega)]
theorem Sy.eB {S S' : Kp} (h : Sy S S') : wB S' = wB S := by funext w; unfold wB; rw [h 14 (by omega)]
theorem Sy.eL {S S' : Kp} (h : Sy S S') : wL S' = wL S := by funext w; unfold wL; rw [h 15 (by omega)]
theorem Sy.wy {S S' : Kp} (h : Sy S S') {nw : Nat} (y : Wy S nw) : Wy S' nw := by
  unfold Wy at *
  rw [h.eA, h.eB, h.eL, h 0 (by omega), h 13 (by omega), h 14 (by omega), h 15 (by omega)]
  exact y
theorem Sy.bd {S S' : Kp} (h : Sy S S') {nb : Nat} (y : Bd S nb) : Bd S' nb := by
  unfold Bd at *
  rw [h 0 (by omega), h 17 (by omega)]
  exact y
theorem Sy.esh {S S' : Kp} (h : Sy S S') (nb w n : Nat) : shw S' nb w n = shw S nb w n := by
  unfold shw
  rw [h 16 (by omega), h 17 (by omega), h 18 (by omega)]
/-- where the board's way ends; the distance of a line -/
def bEnd (S : Kp) (b : Nat) : Nat := wB S (S 16 b).toNatClampNeg
def nmOf (S : Kp) (b l : Nat) : Nat := (S 18 (5 * b + l)).toNatClampNeg
def dst (S : Kp) (nw b l : Nat) : Int32 := if S 12 (nmOf S b l) = -1 then -1 else encC (bf nw okT (wA S) (wB S) (wL S) (g0 (bEnd S b)) 10) (S 12 (nmOf S b l)).toNatClampNeg
/-- what the reference knows of a board's line -/
def Ln1 (S : Kp) (nn nw b ln : Nat) : Prop := (∃ w, w < nw ∧ S 16 b = nI w) ∧ ln ≤ 5 ∧ S 17 b = nI ln ∧ ∀ l, l < ln → S 18 (5 * b + l) = nI (nmOf S b l) ∧ nmOf S b l < nn
theorem Jb.ln1 {K S : Kp} {nb nn nw b : Nat} (h : Jb K S nb nn nw) (hb : b < nb) (hn : nn ≤ 10) : ∃ ln, Ln1 S nn nw b ln ∧ K (52 + 3 * b) 2 = nI ln ∧ (∃ w, w < nw ∧ S 16 b = nI w ∧ K (52 + 3 * b) 3 = nI w) ∧ (∀ l, l < ln → K (53 + 3 * b) l = nI (nmOf S b l) ∧ K (54 + 3 * b) l = S 19 (5 * b + l)) ∧ K (52 + 3 * b) 4 = S 20 b := by
  obtain ⟨⟨w, w1, w2, w3⟩, ⟨ln, q1, q2, q3, q4⟩, q5⟩ := h.2.2.2.1 b hb
  refine ⟨ln, ⟨⟨w, w1, w2⟩, q1, q2, fun l hl => ?_⟩, q3, ⟨w, w1, w2, w3⟩, fun l hl => ?_, q5⟩
  · obtain ⟨⟨n, r1, r2, r3⟩, r4⟩ := q4 l hl
    unfold nmOf
    rw [r2, nI_clamp (by omega)]
    exact ⟨rfl, r1⟩
  · obtain ⟨⟨n, r1, r2, r3⟩, r4⟩ := q4 l hl
    unfold nmOf
    rw [r2, nI_clamp (by omega)]
    exact ⟨r3, r4⟩
theorem mo_distanceOf (bs : Nat) (K0 K S S' : Kp) {nw nb nn b ln l : Nat} (wy : Wy S nw) (bd : Bd S nb) (jn : Jn K0 S nn) (hb : b < 8) (l1 : Ln1 S nn nw b ln) (hl : l < ln) (h : Sy S S') : ∃ r, f_MO_distanceOf (bs + 76) (nI b) (nI l) (gm bs K S') = some (dst S nw b l, gm bs K (rw2 S' 21 r)) := by
  obtain ⟨⟨w, hw, hw2⟩, y1, y2, y3⟩ := l1
  obtain ⟨z1, z2⟩ := y3 l hl
  obtain ⟨len, _, _, _, _, _, _, hg⟩ := jn.2.2.2.1 _ z2
  have n10 : nmOf S b l < 10 := by have := jn.1; omega
  have e1 : 5 * nI b + nI l = nI (5 * b + l) := by rw [li5, pk_mul, nI_add]
  have s18 : S' 18 (5 * b + l) = nI (nmOf S b l) := by rw [h 18 (by omega), ← z1]
  have s12 : S' 12 (nmOf S b l) = S 12 (nmOf S b l) := by rw [h 12 (by omega)]
  unfold f_MO_distanceOf dst
  simp only [m24, m32, Option.bind_some, e1, ma18 bs K S' (show 5 * b + l < 40 by omega), s18, ma12 bs K S' n10, s12]
  by_cases c : S 12 (nmOf S b l) = -1
  · refine ⟨S' 21, ?_⟩
    simp only [c, if_true, rw2_self]
  · obtain ⟨t, ht, ht2⟩ := hg.resolve_left c
    obtain ⟨r, m1, m2⟩ := mo_measure bs K S' (t := t) (x := -1) (ok := okT) (h.wy wy) (h.bd bd) (Or.inl ⟨rfl, rfl⟩) ht
    rw [h.eA, h.eB, h.eL] at m2
    have w24 : w < 24 := by have := wy.1; omega
    have eb : bEnd S b = wB S w := by unfold bEnd; rw [hw2, nI_clamp (by omega)]
    obtain ⟨a1, a2, b1, b2, c1, c2⟩ := wy.2.2 w hw
    have s16 : rw2 S' 21 r 16 b = nI w := by rw [rw2_n (by omega), h 16 (by omega), hw2]
    have s14 : rw2 S' 21 r 14 w = nI (wB S w) := by rw [rw2_n (by omega), h 14 (by omega), ← b1]
    refine ⟨r, ?_⟩
    have d1 : ¬ nI t = -1 := nI_m1 (by omega)
    rw [ht2] at c ⊢
    simp only [d1, if_false, m_ob, Option.bind_some, m1, m35, m27, m30, ma16 bs K _ hb, s16, ma14 bs K _ w24, s14, ma21 bs K _ b2, rw2_s, m2 _ b2, nI_clamp (show t < 2 ^ 31 by omega), eb]
    have tw := bf_two (m := nw) (ok := okT) (A := wA S) (B := wB S) (L := wL S) b2 ht (fun v hv => (wy.2.2 v hv).2.1) (fun v hv => (wy.2.2 v hv).2.2.2.1)
    cases q : bf nw okT (wA S) (wB S) (wL S) (g0 (wB S w)) 10 t with
    | none =>
      rw [q] at tw
      have e2 : encM (bf nw okT (wB S) (wA S) (wL S) (g0 t) 10) (wB S w) = 100000000 := by simp only [encM, ← tw]
      have e3 : encC (bf nw okT (wA S) (wB S) (wL S) (g0 (wB S w)) 10) t = -1 := by simp only [encC, q]
      rw [e2, e3]
      rfl
    | some d =>
      rw [q] at tw
      have e2 : encM (bf nw okT (wB S) (wA S) (wL S) (g0 t) 10) (wB S w) = nI d := by simp only [encM, ← tw]
      have e3 : encC (bf nw okT (wA S) (wB S) (wL S) (g0 (wB S w)) 10) t = nI d := by simp only [encC, q]
      have hd := bf_len b2 (fun v hv => (wy.2.2 v hv).2.2.2.1) (fun v hv => (wy.2.2 v hv).2.2.2.2.2) q
      have e4 : nI d < 100000000 := by rw [li100000000, nI_ltI (by omega) (by omega)]; omega
      rw [e2, e3, if_pos e4]
/-! names by their letters -/
def fdi (f g : Nat → Int32) : Nat → Nat → Nat
  | 0, k => k
  | m + 1, k => if f k = g k then fdi f g m (k + 1) else k
theorem fdi_b {f g : Nat → Int32} : ∀ (m k : Nat), k ≤ fdi f g m k ∧ fdi f g m k ≤ k + m ∧ (fdi f g m k < k + m → f (fdi f g m k) ≠ g (fdi f g m k))
  | 0, k => ⟨Nat.le_refl k, Nat.le_refl k, fun h => absurd h (Nat.lt_irrefl _)⟩
  | m + 1, k => by
    have ih := fdi_b (f := f) (g := g) m (k + 1)
    by_cases c : f k = g k
    · simp only [fdi, c, if_true]
      exact ⟨by omega, by omega, fun h => ih.2.2 (by omega)⟩
    · simp only [fdi, c, if_false]
      exact ⟨Nat.le_refl k, by omega, fun _ => c⟩
def lt1 (S : Kp) (i : Nat) : Nat → Int32 := fun k => S 11 (12 * i + k)
def nlt (S : Kp) (i j la lb : Nat) : Prop := fdi (lt1 S i) (lt1 S j) (min la lb) 0 < lb ∧ (fdi (lt1 S i) (lt1 S j) (min la lb) 0 = la ∨ lt1 S i (fdi (lt1 S i) (lt1 S j) (min la lb) 0) < lt1 S j (fdi (lt1 S i) (lt1 S j) (min la lb) 0))
theorem na_beforeL (bs : Nat) (K S : Kp) {i j la lb : Nat} (hi : i < 10) (hj : j < 10) (h1 : JnOne K S i la) (h2 : JnOne K S j lb) : ∀ (m k n : Nat), k + m = min la lb → m < n → f_NA_isBeforeByLetters_L14 n (bs + (32 + 2 * i)) (bs + (32 + 2 * j)) (nI (min la lb)) (nI k) (gm bs K S) = some (if fdi (lt1 S i) (lt1 S j) m k < min la lb then (if lt1 S i (fdi (lt1 S i) (lt1 S j) m k) < lt1 S j (fdi (lt1 S i) (lt1 S j) m k) then .inr 1 else .inr 0) else .inl (), gm bs K S) := by
  have la12 := h1.2.1
  have lb12 := h2.2.1
  intro m
  induction m with
  | zero =>
    intro k n hk hm
    obtain ⟨n, rfl⟩ : ∃ n', n = n' + 1 := ⟨n - 1, by omega⟩
    have e1 : nI (min la lb) ≤ nI k := by rw [nI_leI (by omega) (by omega)]; omega
    have e2 : ¬ k < min la lb := by omega
    simp only [f_NA_isBeforeByLetters_L14, e1, if_true, fdi, e2, if_false]
  | succ m ih =>
    intro k n hk hm
    obtain ⟨n, rfl⟩ : ∃ n', n = n' + 1 := ⟨n - 1, by omega⟩
    have e1 : ¬ nI (min la lb) ≤ nI k := by rw [nI_leI (by omega) (by omega)]; omega
    have e2 : k < min la lb := by omega
    have e3 : nI k + 1 = nI (k + 1) := nI_1 k
    have q1 := (h1.2.2.2.2.1 k (by omega)).1
    have q2 := (h2.2.2.2.2.1 k (by omega)).1
    by_cases c : S 11 (12 * i + k) = S 11 (12 * j + k)
    · have i1 := ih (k + 1) n (by omega) (by omega)
      have c' : lt1 S i k = lt1 S j k := c
      simp only [fdi, c', if_true]
      simp only [f_NA_isBeforeByLetters_L14, e1, if_false, gna_0 bs K S hi, gna_0 bs K S hj, Option.bind_some, ans bs K S hi (show k < 12 by omega), ans bs K S hj (show k < 12 by omega), q1, q2, c, if_true, e3, i1]
    · have c' : ¬ lt1 S i k = lt1 S j k := c
      by_cases c2 : S 11 (12 * i + k) < S 11 (12 * j + k)
      · have c3 : ¬ S 11 (12 * j + k) ≤ S 11 (12 * i + k) := by grind
        have c2' : lt1 S i k < lt1 S j k := c2
        simp only [f_NA_isBeforeByLetters_L14, e1, if_false, gna_0 bs K S hi, gna_0 bs K S hj, Option.bind_some, ans bs K S hi (show k < 12 by omega), ans bs K S hj (show k < 12 by omega), q1, q2, c, c3, fdi, c', e2, if_true, c2']
      · have c3 : S 11 (12 * j + k) ≤ S 11 (12 * i + k) := by grind
        have c2' : ¬ lt1 S i k < lt1 S j k := c2
        simp only [f_NA_isBeforeByLetters_L14, e1, if_false, gna_0 bs K S hi, gna_0 bs K S hj, Option.bind_some, ans bs K S hi (show k < 12 by omega), ans bs K S hj (show k < 12 by omega), q1, q2, c, c3, fdi, c', e2, if_true, c2']
theorem na_before (bs : Nat) (K S : Kp) {i j la lb : Nat} (hi : i < 10) (hj : j < 10) (h1 : JnOne K S i la) (h2 : JnOne K S j lb) : f_NA_isBeforeByLetters (bs + (32 + 2 * i)) (bs + (32 + 2 * j)) (gm bs K S) = some (bP (nlt S i j la lb), gm bs K S) := by
  have la12 := h1.2.1
  have lb12 := h2.2.1
  have hb := fdi_b (f := lt1 S i) (g := lt1 S j) (min la lb) 0
  have e := na_beforeL bs K S hi hj h1 h2 (min la lb) 0 px_fuel (by omega) (by unfold px_fuel; omega)
  rw [nI_0] at e
  have e0 : (if nI lb < nI la then nI lb else nI la) = nI (min la lb) := by
    by_cases c : lb < la
    · rw [if_pos ((nI_ltI (by omega) (by omega)).mpr c), show min la lb = lb by omega]
    · rw [if_neg (fun z => c ((nI_ltI (by omega) (by omega)).mp z)), show min la lb = la by omega]
  unfold f_NA_isBeforeByLetters
  simp only [gna_1 bs K S hi, gna_1 bs K S hj, h1.2.2.2.1, h2.2.2.2.1, Option.bind_some, e0, e]
  unfold nlt
  generalize fdi (lt1 S i) (lt1 S j) (min la lb) 0 = k at hb ⊢
  by_cases c : k < min la lb
  · by_cases c2 : lt1 S i k < lt1 S j k
    · simp only [c, c2, if_true]
      rw [bP_t ⟨by omega, Or.inr trivial⟩]
    · simp only [c, c2, if_true, if_false]
      rw [bP_f (fun z => z.2.elim (fun q => by omega) (fun q => q))]
  · simp only [c, if_false]
    by_cases c3 : la < lb
    · have e1 : ¬ nI lb ≤ nI la := by rw [nI_leI (by omega) (by omega)]; omega
      simp only [gna_1 bs K S hi, gna_1 bs K S hj, h1.2.2.2.1, h2.2.2.2.1, Option.bind_some, e1, if_false]
      rw [bP_t ⟨by omega, Or.inl (by omega)⟩]
    · have e1 : nI lb ≤ nI la := by rw [nI_leI (by omega) (by omega)]; omega
      simp only [gna_1 bs K S hi, gna_1 bs K S hj, h1.2.2.2.1, h2.2.2.2.1, Option.bind_some, e1, if_true]
      rw [bP_f (fun z => by have := z.1; omega)]
theorem mo_lessL (bs : Nat) (K0 K S : Kp) {i j la lb : Nat} (hi : i < 10) (hj : j < 10) (h1 : JnOne K0 S i la) (h2 : JnOne K0 S j lb) : ∀ (m k n : Nat), k + m = min la lb → m < n → f_MO_isLess_L2 n (bs + 76) (nI i) (nI j) (nI k) (gm bs K S) = some (nI (fdi (lt1 S i) (lt1 S j) m k), gm bs K S) := by
  have la12 := h1.2.1
  have lb12 := h2.2.1
  intro m
  induction m with
  | zero =>
    intro k n hk hm
    obtain ⟨n, rfl⟩ : ∃ n', n = n' + 1 := ⟨n - 1, by omega⟩
    by_cases c : la ≤ k
    · have e1 : nI la ≤ nI k := by rw [nI_leI (by omega) (by omega)]; omega
      simp only [f_MO_isLess_L2, m22, ma10 bs K S hi, h1.2.2.1, Option.bind_some, e1, if_true, fdi]
    · have e1 : ¬ nI la ≤ nI k := by rw [nI_leI (by omega) (by omega)]; omega
      have e2 : nI lb ≤ nI k := by rw [nI_leI (by omega) (by omega)]; omega
      simp only [f_MO_isLess_L2, m22, ma10 bs K S hi, ma10 bs K S hj, h1.2.2.1, h2.2.2.1, Option.bind_some, e1, e2, if_true, if_false, fdi]
  | succ m ih =>
    intro k n hk hm
    obtain ⟨n, rfl⟩ : ∃ n', n = n' + 1 := ⟨n - 1, by omega⟩
    have e1 : ¬ nI la ≤ nI k := by rw [nI_leI (by omega) (by omega)]; omega
    have e2 : ¬ nI lb ≤ nI k := by rw [nI_leI (by omega) (by omega)]; omega
    have e3 : nI k + 1 = nI (k + 1) := nI_1 k
    by_cases c : S 11 (12 * i + k) = S 11 (12 * j + k)
    · have i1 := ih (k + 1) n (by omega) (by omega)
      have c' : lt1 S i k = lt1 S j k := c
      simp only [f_MO_isLess_L2, m22, ma10 bs K S hi, ma10 bs K S hj, h1.2.2.1, h2.2.2.1, Option.bind_some, e1, e2, if_false, m_ob, mo_letter bs K S hi (show k < 12 by omega), mo_letter bs K S hj (show k < 12 by omega), c, if_true, e3, i1, fdi, c']
    · have c' : ¬ lt1 S i k = lt1 S j k := c
      simp only [f_MO_isLess_L2, m22, ma10 bs K S hi, ma10 bs K S hj, h1.2.2.1, h2.2.2.1, Option.bind_some, e1, e2, if_false, m_ob, mo_letter bs K S hi (show k < 12 by omega), mo_letter bs K S hj (show k < 12 by omega), c, fdi, c']
theorem mo_less (bs : Nat) (K0 K S : Kp) {i j la lb : Nat} (hi : i < 10) (hj : j < 10) (h1 : JnOne K0 S i la) (h2 : JnOne K0 S j lb) : f_MO_isLess (bs + 76) (nI i) (nI j) (gm bs K S) = some (bP (nlt S i j la lb), gm bs K S) := by
  have la12 := h1.2.1
  have lb12 := h2.2.1
  have hb := fdi_b (f := lt1 S i) (g := lt1 S j) (min la lb) 0
  have e := mo_lessL bs K0 K S hi hj h1 h2 (min la lb) 0 px_fuel (by omega) (by unfold px_fuel; omega)
  rw [nI_0] at e
  unfold f_MO_isLess
  simp only [e, Option.bind_some, m22, ma10 bs K S hi, ma10 bs K S hj, h1.2.2.1, h2.2.2.1]
  unfold nlt
  generalize fdi (lt1 S i) (lt1 S j) (min la lb) 0 = k at hb ⊢
  by_cases c : k < lb
  · have e1 : ¬ nI lb ≤ nI k := by rw [nI_leI (by omega) (by omega)]; omega
    by_cases c2 : k = la
    · subst c2
      simp only [e1, if_true, if_false]
      rw [bP_t ⟨c, Or.inl trivial⟩]
    · have e2 : ¬ nI k = nI la := by rw [nI_eq (by omega) (by omega)]; exact c2
      simp only [e1, e2, if_false, m_ob, Option.bind_some, mo_letter bs K S hi (show k < 12 by omega), mo_letter bs K S hj (show k < 12 by omega)]
      by_cases c3 : S 11 (12 * i + k) < S 11 (12 * j + k)
      · have e3 : ¬ S 11 (12 * j + k) ≤ S 11 (12 * i + k) := by grind
        simp only [e3, if_false]
        rw [bP_t ⟨c, Or.inr c3⟩]
      · have e3 : S 11 (12 * j + k) ≤ S 11 (12 * i + k) := by grind
        simp only [e3, if_true]
        rw [bP_f (fun z => z.2.elim c2 c3)]
  · have e1 : nI lb ≤ nI k := by rw [nI_leI (by omega) (by omega)]; omega
    simp only [e1, if_true]
    rw [bP_f (fun z => c z.1)]
