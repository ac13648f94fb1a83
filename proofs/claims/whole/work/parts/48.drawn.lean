/-! drawn, in the reference's words -/
def xof (S : Kp) (np b ln : Nat) (hh : Int32) (l : Nat) : Int32 := 16 * S 0 5 + (((bwd S np b ln hh - 32 * S 0 5) - lwd S np b hh l) / 2)
def itv (S : Kp) (np b ln : Nat) (hh : Int32) (l i t : Nat) (w : Int32) : Int32 :=
  if w = 0 then (if t = 0 then 200 + S 19 (5 * b + l) else S 11 (12 * nmOf S b l + (t - 1)))
  else if w = 2 then 16 * (S 0 5 + (nI i * (hh + S 0 6)))
  else if w = 1 then
    (if t = 0 then (if S 19 (5 * b + l) = 2 then (xof S np b ln hh l + fld S np b l hh) + (16 * S 0 6) else xof S np b ln hh l)
     else (if S 19 (5 * b + l) = 2 then (xof S np b ln hh l + 0) + (bsum S np (nmOf S b l) (lnl S (nmOf S b l)) (t - 1) * hh) else (xof S np b ln hh l + (16 * (hh + S 0 6))) + (bsum S np (nmOf S b l) (lnl S (nmOf S b l)) (t - 1) * hh)))
  else -1
def fit (sz : Nat → Nat) : Nat → Nat → Nat → Nat × Nat
  | 0, i, t => (t, i)
  | m + 1, i, t => if t ≤ sz i then (t, i) else fit sz m (i + 1) (t - (1 + sz i))
theorem fit_b {sz : Nat → Nat} : ∀ (m i t : Nat), i ≤ (fit sz m i t).2 ∧ (fit sz m i t).2 ≤ i + m ∧ (fit sz m i t).1 ≤ t ∧ ((fit sz m i t).2 < i + m → (fit sz m i t).1 ≤ sz (fit sz m i t).2)
  | 0, i, t => ⟨Nat.le_refl i, Nat.le_refl i, Nat.le_refl t, fun h => absurd h (Nat.lt_irrefl _)⟩
  | m + 1, i, t => by
    have ih := fit_b (sz := sz) m (i + 1) (t - (1 + sz i))
    by_cases c : t ≤ sz i
    · simp only [fit, c, if_true]
      exact ⟨Nat.le_refl i, by omega, Nat.le_refl t, fun _ => trivial⟩
    · simp only [fit, c, if_false]
      exact ⟨by omega, by omega, by omega, fun h => ih.2.2.2 (by omega)⟩
/-- the sheet is laid -/
def Dx (K S : Kp) (np b ln : Nat) (hh : Int32) : Prop := K 26 3 = nI (52 + 3 * b) ∧ K 26 4 = hh ∧ K 26 5 = hh * 16 ∧ K 26 6 = S 0 5 * 16 ∧ K 26 7 = S 0 6 * 16 ∧ K 26 8 = bwd S np b ln hh ∧ ∀ l, l < ln → K 27 l = fld S np b l hh
theorem ll_eq (m w l : Int32) : m * 16 + (((w - (2 * (m * 16))) - l) / 2) = 16 * m + (((w - 32 * m) - l) / 2) := by
  have e1 : m * 16 = 16 * m := by grind
  have e2 : 2 * (16 * m) = 32 * m := by grind
  rw [e1, e2]
theorem sh_lineLeft (bs : Nat) (K S : Kp) {np b ln l : Nat} {hh : Int32} (d : Dx K S np b ln hh) (hl : l < ln) (l5 : ln ≤ 5) : f_SH_lineLeft (bs + 26) (nI l) (gm bs K S) = some (xof S np b ln hh l, gm bs K S) := by
  obtain ⟨d3, d4, d5, d6, d7, d8, d9⟩ := d
  have el : fld S np b l hh + S 0 6 * 16 + hh * 16 = lwd S np b hh l := by unfold lwd; exact lw_eq _ _ _
  unfold f_SH_lineLeft f_SH_lineWidth xof
  simp only [g26_8, g26_6, ob_26, g26_2, Option.bind_some, a27 bs K S (show l < 5 by omega), d9 l hl, g26_7, g26_5, d5, d6, d7, d8, el, ll_eq]
theorem yy_eq (m i h g : Int32) : m * 16 + (i * (h * 16 + g * 16)) = 16 * (m + i * (h + g)) := by grind
theorem al_eq (x f g : Int32) : (x + f) + g * 16 = (x + f) + 16 * g := by grind
theorem le_eq (x s h g : Int32) : ((x + s * h) + h * 16) + g * 16 = (x + 16 * (h + g)) + s * h := by grind
theorem l2_eq (x s h : Int32) : (x + 0) + s * h = x + s * h := by grind
theorem sh_itemOf (bs : Nat) (K S : Kp) {rs st np nn nw nb b ln l : Nat} {hh : Int32} (h : Lx K S rs st np nn nw nb b ln) (d : Dx K S np b ln hh) (hl : l < ln) {i t : Nat} (ht : t ≤ lnl S (nmOf S b l)) (w : Int32) : f_SH_itemOf (bs + 26) (nI l) (nI i) (nI t) w (gm bs K S) = some (itv S np b ln hh l i t w, gm bs K S) := by
  have ll := sh_lineLeft bs K S d hl h.2.2.2.2.2.1.2.1
  have nm := sh_nameOf bs K S h hl d.1
  obtain ⟨jr, jl, jn, jb, hb, l1, k2, k3, k4, k5⟩ := id h
  obtain ⟨d3, d4, d5, d6, d7, d8, d9⟩ := id d
  have hb8 : b < 8 := by have := jb.1; omega
  have ln5 := l1.2.1
  have nn10 := jn.1
  have z2 := (l1.2.2.2 l hl).2
  obtain ⟨len, z⟩ := jn.2.2.2.1 _ z2
  have z12 := z.2.1
  have el := JnOne_lnl z
  unfold f_SH_itemOf itv
  by_cases c0 : w = 0
  · by_cases t0 : t = 0
    · simp only [c0, t0, show nI 0 = (0 : Int32) from rfl, if_true, g26_3 bs K S d3 (by omega) (by omega), Option.bind_some, gbo_1 bs K S hb8, aba bs K S hb8 (show l < 5 by omega), k4 l hl]
    · have e1 : ¬ nI t = 0 := nI_ne0 (by omega) (by omega)
      have e2 : nI t - 1 = nI (t - 1) := by rw [li1, pk_sub (by omega)]
      have e3 := (z.2.2.2.2.1 (t - 1) (by omega)).1
      simp only [c0, t0, e1, if_true, if_false, ob_26, nm, Option.bind_some, gna_0 bs K S (show nmOf S b l < 10 by omega), e2, ans bs K S (show nmOf S b l < 10 by omega) (show t - 1 < 12 by omega), e3]
  · by_cases c1 : w = 1
    · have cc : ¬ (1 : Int32) = 2 := by decide
      by_cases t0 : t = 0
      · by_cases ca : S 19 (5 * b + l) = 2
        · simp only [f_SH_arrowLeft, c1, cc, t0, show ¬ (1 : Int32) = 0 by decide, show nI 0 = (0 : Int32) from rfl, if_true, if_false, ob_26, Option.bind_some, ll, g26_3 bs K S d3 (by omega) (by omega), gbo_1 bs K S hb8, aba bs K S hb8 (show l < 5 by omega), k4 l hl, ca, g26_2, a27 bs K S (show l < 5 by omega), d9 l hl, g26_7, d7, al_eq]
        · simp only [f_SH_arrowLeft, c1, cc, t0, show ¬ (1 : Int32) = 0 by decide, show nI 0 = (0 : Int32) from rfl, if_true, if_false, ob_26, Option.bind_some, ll, g26_3 bs K S d3 (by omega) (by omega), gbo_1 bs K S hb8, aba bs K S hb8 (show l < 5 by omega), k4 l hl, ca]
      · have e1 : ¬ nI t = 0 := nI_ne0 (by omega) (by omega)
        have e2 : nI t - 1 = nI (t - 1) := by rw [li1, pk_sub (by omega)]
        have so := le_startOf bs K S jl (show nmOf S b l < 10 by omega) z (show t - 1 ≤ len by omega)
        by_cases ca : S 19 (5 * b + l) = 2
        · simp only [f_SH_letterLeft, c1, cc, t0, e1, e2, show ¬ (1 : Int32) = 0 by decide, if_true, if_false, ob_26, Option.bind_some, ll, g26_1, nm, ob_10, so, g26_4, d4, g26_3 bs K S d3 (by omega) (by omega), gbo_1 bs K S hb8, aba bs K S hb8 (show l < 5 by omega), k4 l hl, ca, el, l2_eq]
        · simp only [f_SH_letterLeft, c1, cc, t0, e1, e2, show ¬ (1 : Int32) = 0 by decide, if_true, if_false, ob_26, Option.bind_some, ll, g26_1, nm, ob_10, so, g26_4, d4, g26_3 bs K S d3 (by omega) (by omega), gbo_1 bs K S hb8, aba bs K S hb8 (show l < 5 by omega), k4 l hl, ca, g26_5, d5, g26_7, d7, el, le_eq]
    · by_cases c2 : w = 2
      · simp only [c2, show ¬ (2 : Int32) = 0 by decide, show ¬ (2 : Int32) = 1 by decide, if_true, if_false, g26_6, g26_5, g26_7, Option.bind_some, d5, d6, d7, yy_eq]
      · simp only [c0, c1, c2, if_false]
noncomputable def szl (S : Kp) (nw b ln : Nat) (i : Nat) : Nat := lnl S (nmOf S b (srt (gobB S nw b) ln i))
theorem sb_drawnL (bs : Nat) (K S : Kp) {rs st np nn nw nb b ln : Nat} {hh : Int32} (h : Lx K S rs st np nn nw nb b ln) (d : Dx K S np b ln hh) (hp : ∀ i, i < ln → K 24 i = nI (srt (gobB S nw b) ln i)) (w : Int32) : ∀ (m i n t : Nat), i + m = ln → m < n → t < 2 ^ 31 → f_SB_drawn_L65 n bs w (bs + (52 + 3 * b)) (nI t) (nI i) (gm bs K S) = some (if (fit (szl S nw b ln) m i t).2 < ln then .inr (itv S np b ln hh (srt (gobB S nw b) ln (fit (szl S nw b ln) m i t).2) (fit (szl S nw b ln) m i t).2 (fit (szl S nw b ln) m i t).1 w) else .inl (), gm bs K S) := by
  obtain ⟨jr, jl, jn, jb, hb, l1, k2, k3, k4, k5⟩ := id h
  have hb8 : b < 8 := by have := jb.1; omega
  have ln5 := l1.2.1
  have nn10 := jn.1
  intro m
  induction m with
  | zero =>
    intro i n t hi hm ht
    obtain ⟨n, rfl⟩ : ∃ n', n = n' + 1 := ⟨n - 1, by omega⟩
    obtain rfl : i = ln := by omega
    have e1 : nI i ≤ nI i := nI_le (Nat.le_refl i) (by omega)
    simp only [f_SB_drawn_L65, gbo_2 bs K S hb8, k2, Option.bind_some, e1, if_true, fit, Nat.lt_irrefl, if_false]
  | succ m ih =>
    intro i n t hi hm ht
    obtain ⟨n, rfl⟩ : ∃ n', n = n' + 1 := ⟨n - 1, by omega⟩
    have e1 : ¬ nI ln ≤ nI i := by rw [nI_leI (by omega) (by omega)]; omega
    have e2 : nI i + 1 = nI (i + 1) := nI_1 i
    have sb := srt_b (lt := gobB S nw b) ln i (by omega)
    have z2 := (l1.2.2.2 _ sb).2
    obtain ⟨len, z⟩ := jn.2.2.2.1 _ z2
    have z12 := z.2.1
    have el : szl S nw b ln i = len := JnOne_lnl z
    have e3 : 1 + nI len = nI (1 + len) := by rw [li1, nI_add]
    by_cases c : t ≤ szl S nw b ln i
    · have e4 : ¬ nI (1 + len) ≤ nI t := by rw [nI_leI (by omega) (by omega)]; omega
      have it := sh_itemOf bs K S h d sb (i := i) (t := t) (by rw [JnOne_lnl z]; omega) w
      simp only [f_SB_drawn_L65, f_LO_lineAt, gbo_2 bs K S hb8, k2, Option.bind_some, e1, if_false, g0_10, ob_23, g23_2, a24 bs K S (show i < 5 by omega), hp i (by omega), g0_5, gbo_0 bs K S hb8, abn bs K S hb8 (show srt (gobB S nw b) ln i < 5 by omega), k3 _ sb, ar15 bs K S (show nmOf S b (srt (gobB S nw b) ln i) < 10 by omega), gna_1 bs K S (show nmOf S b (srt (gobB S nw b) ln i) < 10 by omega), z.2.2.2.1, e3, e4, g0_11, ob_26, it, fit, c, if_true, show i < ln by omega]
    · have e4 : nI (1 + len) ≤ nI t := by rw [nI_leI (by omega) (by omega)]; omega
      have e5 : nI t - nI (1 + len) = nI (t - (1 + len)) := pk_sub (by omega)
      have i1 := ih (i + 1) n (t - (1 + len)) (by omega) (by omega) (by omega)
      have c' : ¬ t ≤ len := by rw [← el]; exact c
      simp only [f_SB_drawn_L65, f_LO_lineAt, gbo_2 bs K S hb8, k2, Option.bind_some, e1, if_false, g0_10, ob_23, g23_2, a24 bs K S (show i < 5 by omega), hp i (by omega), g0_5, gbo_0 bs K S hb8, abn bs K S hb8 (show srt (gobB S nw b) ln i < 5 by omega), k3 _ sb, ar15 bs K S (show nmOf S b (srt (gobB S nw b) ln i) < 10 by omega), gna_1 bs K S (show nmOf S b (srt (gobB S nw b) ln i) < 10 by omega), z.2.2.2.1, e3, e4, if_true, e5, e2, i1, fit, c', el, if_false]
theorem mo_drawnL (bs : Nat) (K0 K S S' : Kp) {nn nw b ln : Nat} (hb8 : b < 8) (jn : Jn K0 S nn) (l1 : Ln1 S nn nw b ln) (y : Sy S S') (hp : ∀ i, i < ln → S' 23 i = nI (srt (gobB S nw b) ln i)) (x2 w : Int32) : ∀ (m i n t : Nat), i + m = ln → m < n → t < 2 ^ 31 → f_MO_drawn_L43 n (bs + 76) (nI b) x2 w (nI t) (nI i) (gm bs K S') = some ((nI (fit (szl S nw b ln) m i t).1, nI (fit (szl S nw b ln) m i t).2), gm bs K S') := by
  have ln5 := l1.2.1
  have nn10 := jn.1
  have f1 : S' 17 b = nI ln := by rw [y 17 (by omega)]; exact l1.2.2.1
  intro m
  induction m with
  | zero =>
    intro i n t hi hm ht
    obtain ⟨n, rfl⟩ : ∃ n', n = n' + 1 := ⟨n - 1, by omega⟩
    obtain rfl : i = ln := by omega
    have e1 : nI i ≤ nI i := nI_le (Nat.le_refl i) (by omega)
    simp only [f_MO_drawn_L43, m31, ma17 bs K S' hb8, f1, Option.bind_some, e1, if_true, fit]
  | succ m ih =>
    intro i n t hi hm ht
    obtain ⟨n, rfl⟩ : ∃ n', n = n' + 1 := ⟨n - 1, by omega⟩
    have e1 : ¬ nI ln ≤ nI i := by rw [nI_leI (by omega) (by omega)]; omega
    have e2 : nI i + 1 = nI (i + 1) := nI_1 i
    have sb := srt_b (lt := gobB S nw b) ln i (by omega)
    have z2 := (l1.2.2.2 _ sb).2
    obtain ⟨len, z⟩ := jn.2.2.2.1 _ z2
    have z12 := z.2.1
    have el : szl S nw b ln i = len := JnOne_lnl z
    have e3 : 1 + nI len = nI (1 + len) := by rw [li1, nI_add]
    have e6 : 5 * nI b + nI (srt (gobB S nw b) ln i) = nI (5 * b + srt (gobB S nw b) ln i) := by rw [li5, pk_mul, nI_add]
    have s18 : S' 18 (5 * b + srt (gobB S nw b) ln i) = nI (nmOf S b (srt (gobB S nw b) ln i)) := by rw [y 18 (by omega)]; exact (l1.2.2.2 _ sb).1
    have s10 : S' 10 (nmOf S b (srt (gobB S nw b) ln i)) = nI len := by rw [y 10 (by omega)]; exact z.2.2.1
    by_cases c : t ≤ szl S nw b ln i
    · have e4 : nI t ≤ nI len := by rw [nI_leI (by omega) (by omega)]; omega
      simp only [f_MO_drawn_L43, m31, ma17 bs K S' hb8, f1, Option.bind_some, e1, if_false, m22, m32, m37, ma23 bs K S' (show i < 5 by omega), hp i (by omega), e6, ma18 bs K S' (show 5 * b + srt (gobB S nw b) ln i < 40 by omega), s18, ma10 bs K S' (show nmOf S b (srt (gobB S nw b) ln i) < 10 by omega), s10, e4, if_true, fit, c]
    · have e4 : ¬ nI t ≤ nI len := by rw [nI_leI (by omega) (by omega)]; omega
      have e5 : nI t - nI (1 + len) = nI (t - (1 + len)) := pk_sub (by omega)
      have i1 := ih (i + 1) n (t - (1 + len)) (by omega) (by omega) (by omega)
      have c' : ¬ t ≤ len := by rw [← el]; exact c
      simp only [f_MO_drawn_L43, m31, ma17 bs K S' hb8, f1, Option.bind_some, e1, if_false, m22, m32, m37, ma23 bs K S' (show i < 5 by omega), hp i (by omega), e6, ma18 bs K S' (show 5 * b + srt (gobB S nw b) ln i < 40 by omega), s18, ma10 bs K S' (show nmOf S b (srt (gobB S nw b) ln i) < 10 by omega), s10, e4, e3, e5, e2, i1, fit, c', el, if_false]
