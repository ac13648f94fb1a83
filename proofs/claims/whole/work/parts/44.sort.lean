/-! one line goes before another -/
def gob (S : Kp) (nw b l o : Nat) : Prop := if S 0 7 = 97 then (∃ la lb, S 10 (nmOf S b l) = nI la ∧ la ≤ 12 ∧ S 10 (nmOf S b o) = nI lb ∧ lb ≤ 12 ∧ nlt S (nmOf S b l) (nmOf S b o) la lb) else if S 0 7 = 102 then (¬ dst S nw b l = -1 ∧ (dst S nw b o = -1 ∨ dst S nw b o < dst S nw b l)) else if S 0 7 = 110 then (¬ dst S nw b l = -1 ∧ (dst S nw b o = -1 ∨ dst S nw b l < dst S nw b o)) else False
noncomputable def gobB (S : Kp) (nw b l o : Nat) : Bool := @decide (gob S nw b l o) (Classical.propDecidable _)
theorem gob_a {S : Kp} {nw b l o la lb : Nat} (h : S 0 7 = 97) (h1 : S 10 (nmOf S b l) = nI la) (h2 : la ≤ 12) (h3 : S 10 (nmOf S b o) = nI lb) (h4 : lb ≤ 12) : gob S nw b l o ↔ nlt S (nmOf S b l) (nmOf S b o) la lb := by
  unfold gob
  rw [if_pos h]
  constructor
  · rintro ⟨la', lb', q1, q2, q3, q4, q5⟩
    rw [h1] at q1
    rw [h3] at q3
    have e1 := (nI_eq (show la < 2 ^ 31 by omega) (show la' < 2 ^ 31 by omega)).mp q1
    have e2 := (nI_eq (show lb < 2 ^ 31 by omega) (show lb' < 2 ^ 31 by omega)).mp q3
    subst e1; subst e2
    exact q5
  · intro q
    exact ⟨la, lb, h1, h2, h3, h4, q⟩
/-- the place of a new line among those that stand -/
def insp (lt : Nat → Nat → Bool) (k : Nat) : Nat → (Nat → Nat) → Nat → Nat
  | 0, r => fun i => if i = 0 then k else r i
  | p + 1, r => if lt k (r p) = true then insp lt k p (fun i => if i = p + 1 then r p else r i) else fun i => if i = p + 1 then k else r i
def srt (lt : Nat → Nat → Bool) : Nat → Nat → Nat
  | 0 => fun _ => 0
  | k + 1 => insp lt k k (srt lt k)
theorem insp_b {lt : Nat → Nat → Bool} {k : Nat} : ∀ (p : Nat) (r : Nat → Nat), p ≤ k → (∀ i, i ≤ k → i ≠ p → r i < k) → ∀ i, i ≤ k → insp lt k p r i ≤ k
  | 0, r, hp, h, i, hi => by
    by_cases c : i = 0
    · simp only [insp, c, if_true]; omega
    · simp only [insp, c, if_false, Bool.false_eq_true]; have := h i hi c; omega
  | p + 1, r, hp, h, i, hi => by
    by_cases c : lt k (r p) = true
    · simp only [insp, c, if_true]
      refine insp_b p _ (by omega) (fun a ha hap => ?_) i hi
      by_cases c2 : a = p + 1
      · simp only [c2, if_true]; exact h p (by omega) (by omega)
      · simp only [c2, if_false, Bool.false_eq_true]; exact h a ha c2
    · simp only [insp, c, if_false, Bool.false_eq_true]
      by_cases c2 : i = p + 1
      · simp only [c2, if_true]; omega
      · simp only [c2, if_false, Bool.false_eq_true]; have := h i hi c2; omega
theorem srt_b {lt : Nat → Nat → Bool} : ∀ (k i : Nat), i < k → srt lt k i < k
  | 0, i, h => absurd h (by omega)
  | k + 1, i, h => by
    have := insp_b (lt := lt) (k := k) k (srt lt k) (Nat.le_refl k) (fun a ha hak => srt_b k a (by omega)) i (by omega)
    show insp lt k k (srt lt k) i < k + 1
    omega
/-- all that class's order needs to stand on -/
def Cx (K S : Kp) (rs st nn nw nb b ln : Nat) : Prop := Jr K S rs st ∧ Jn K S nn ∧ Jw K S nw ∧ Jb K S nb nn nw ∧ b < nb ∧ Ln1 S nn nw b ln ∧ K (52 + 3 * b) 2 = nI ln ∧ (∃ w, w < nw ∧ S 16 b = nI w ∧ K (52 + 3 * b) 3 = nI w) ∧ ∀ l, l < ln → K (53 + 3 * b) l = nI (nmOf S b l)
/-- the class's cells with its scratch rows 21, 25, 24 -/
def Kx (K : Kp) (r q p : Nat → Int32) : Kp := rw2 (rw2 (rw2 K 21 r) 25 q) 24 p
theorem Kx_n {K : Kp} {r q p : Nat → Int32} {i : Nat} (h1 : i ≠ 21) (h2 : i ≠ 25) (h3 : i ≠ 24) : Kx K r q p i = K i := by unfold Kx; rw [rw2_n h3, rw2_n h2, rw2_n h1]
theorem Kx_21 (K : Kp) (r q p : Nat → Int32) : Kx K r q p 21 = r := by unfold Kx; rw [rw2_n (by omega), rw2_n (by omega), rw2_s]
theorem Kx_25 (K : Kp) (r q p : Nat → Int32) : Kx K r q p 25 = q := by unfold Kx; rw [rw2_n (by omega), rw2_s]
theorem Kx_24 (K : Kp) (r q p : Nat → Int32) : Kx K r q p 24 = p := by unfold Kx; rw [rw2_s]
theorem Kx_p (K : Kp) (r q p : Nat → Int32) (i : Nat) (v : Int32) : up2 (Kx K r q p) 24 i v = Kx K r q (upd p i v) := by unfold Kx; rw [up2_rw]
theorem Kx_q (K : Kp) (r q p : Nat → Int32) (i : Nat) (v : Int32) : up2 (Kx K r q p) 25 i v = Kx K r (upd q i v) p := by
  unfold Kx
  funext a b
  by_cases c : a = 24
  · subst c; rw [up2_n (by omega), rw2_s, rw2_s]
  · by_cases c2 : a = 25
    · subst c2
      rw [rw2_n (by omega), rw2_s]
      unfold up2
      rw [rw2_s, rw2_n (by omega), rw2_s]
    · rw [up2_n c2, rw2_n c, rw2_n c2, rw2_n c, rw2_n c2]
theorem JnOne.kx {K S : Kp} {i ln : Nat} {r q p : Nat → Int32} (h : JnOne K S i ln) (hi : i < 10) : JnOne (Kx K r q p) S i ln := by
  unfold JnOne at *
  rw [Kx_n (by omega) (by omega) (by omega), Kx_n (by omega) (by omega) (by omega)]
  exact h
theorem lo_goes (bs : Nat) (K S : Kp) {rs st nn nw nb b ln l o : Nat} (h : Cx K S rs st nn nw nb b ln) (r q p : Nat → Int32) (hl : l < ln) (ho : o < ln) (h1 : q l = dst S nw b l) (h2 : q o = dst S nw b o) : f_LO_goesBefore (bs + 23) (bs + (52 + 3 * b)) (nI l) (nI o) (S 0 7) (gm bs (Kx K r q p) S) = some (if gobB S nw b l o = true then 1 else 0, gm bs (Kx K r q p) S) := by
  obtain ⟨jr, jn, jw, jb, hb, l1, b2, b3, b4⟩ := h
  have hb8 : b < 8 := by have := jb.1; omega
  have ln5 := l1.2.1
  have k1 : Kx K r q p (53 + 3 * b) l = nI (nmOf S b l) := by rw [Kx_n (by omega) (by omega) (by omega)]; exact b4 l hl
  have k2 : Kx K r q p (53 + 3 * b) o = nI (nmOf S b o) := by rw [Kx_n (by omega) (by omega) (by omega)]; exact b4 o ho
  have n1 := (l1.2.2.2 l hl).2
  have n2 := (l1.2.2.2 o ho).2
  have nn10 := jn.1
  have gB : gobB S nw b l o = true ↔ gob S nw b l o := by unfold gobB; simp
  unfold f_LO_goesBefore
  simp only [g23_3, Option.bind_some, a25 bs _ S (show l < 5 by omega), a25 bs _ S (show o < 5 by omega), Kx_25, h1, h2]
  by_cases c1 : S 0 7 = 97
  · obtain ⟨la, z1⟩ := jn.2.2.2.1 _ n1
    obtain ⟨lb, z2⟩ := jn.2.2.2.1 _ n2
    have g1 := gob_a (nw := nw) c1 z1.2.2.1 z1.2.1 z2.2.2.1 z2.2.1
    simp only [c1, if_true, g23_0, gbo_0 bs _ S hb8, abn bs _ S hb8 (show l < 5 by omega), abn bs _ S hb8 (show o < 5 by omega), k1, k2, ar15 bs _ S (show nmOf S b l < 10 by omega), ar15 bs _ S (show nmOf S b o < 10 by omega), ob_na bs _ S (show nmOf S b l < 10 by omega), Option.bind_some, na_before bs _ S (show nmOf S b l < 10 by omega) (show nmOf S b o < 10 by omega) (z1.kx (by omega)) (z2.kx (by omega)), bP_01]
    by_cases c : gob S nw b l o
    · rw [if_pos (gB.mpr c), bP_t (g1.mp c)]
    · rw [if_neg (fun z => c (gB.mp z)), bP_f (fun z => c (g1.mpr z))]
  · by_cases c2 : S 0 7 = 102
    · have g2 : gob S nw b l o ↔ (¬ dst S nw b l = -1 ∧ (dst S nw b o = -1 ∨ dst S nw b o < dst S nw b l)) := by unfold gob; rw [if_neg c1, if_pos c2]
      simp only [c1, c2, if_true, if_false, Bool.false_eq_true, show ¬ (102 : Int32) = 97 by decide]
      by_cases d1 : dst S nw b l = -1
      · have : ¬ gobB S nw b l o = true := fun z => (g2.mp (gB.mp z)).1 d1
        simp only [d1, this, if_true, if_false, Bool.false_eq_true]
      · by_cases d2 : dst S nw b o = -1
        · have : gobB S nw b l o = true := gB.mpr (g2.mpr ⟨d1, Or.inl d2⟩)
          simp only [d1, d2, this, if_true, if_false, Bool.false_eq_true]
        · by_cases d3 : dst S nw b o < dst S nw b l
          · have : gobB S nw b l o = true := gB.mpr (g2.mpr ⟨d1, Or.inr d3⟩)
            have d4 : ¬ dst S nw b l ≤ dst S nw b o := by grind
            simp only [d1, d2, d4, this, if_true, if_false, Bool.false_eq_true]
          · have : ¬ gobB S nw b l o = true := fun z => (g2.mp (gB.mp z)).2.elim d2 d3
            have d4 : dst S nw b l ≤ dst S nw b o := by grind
            simp only [d1, d2, d4, this, if_true, if_false, Bool.false_eq_true]
    · by_cases c3 : S 0 7 = 110
      · have g2 : gob S nw b l o ↔ (¬ dst S nw b l = -1 ∧ (dst S nw b o = -1 ∨ dst S nw b l < dst S nw b o)) := by unfold gob; rw [if_neg c1, if_neg c2, if_pos c3]
        simp only [c3, if_true, if_false, Bool.false_eq_true, show ¬ (110 : Int32) = 97 by decide, show ¬ (110 : Int32) = 102 by decide]
        by_cases d1 : dst S nw b l = -1
        · have : ¬ gobB S nw b l o = true := fun z => (g2.mp (gB.mp z)).1 d1
          simp only [d1, this, if_true, if_false, Bool.false_eq_true]
        · by_cases d2 : dst S nw b o = -1
          · have : gobB S nw b l o = true := gB.mpr (g2.mpr ⟨d1, Or.inl d2⟩)
            simp only [d1, d2, this, if_true, if_false, Bool.false_eq_true]
          · by_cases d3 : dst S nw b l < dst S nw b o
            · have : gobB S nw b l o = true := gB.mpr (g2.mpr ⟨d1, Or.inr d3⟩)
              have d4 : ¬ dst S nw b o ≤ dst S nw b l := by grind
              simp only [d1, d2, d4, this, if_true, if_false, Bool.false_eq_true]
            · have : ¬ gobB S nw b l o = true := fun z => (g2.mp (gB.mp z)).2.elim d2 d3
              have d4 : dst S nw b o ≤ dst S nw b l := by grind
              simp only [d1, d2, d4, this, if_true, if_false, Bool.false_eq_true]
      · have : ¬ gobB S nw b l o = true := fun z => by
          have z := gB.mp z
          unfold gob at z
          rw [if_neg c1, if_neg c2, if_neg c3] at z
          exact z
        simp only [c1, c2, c3, this, if_false, Bool.false_eq_true]
theorem nI_p1 (p : Nat) : nI (p + 1) - 1 = nI p := nI_pred p
theorem nI_p2 (p : Nat) : nI (p + 1) + (-1) = nI p := pk_m1 p
theorem lo_insL (bs : Nat) (K S : Kp) {rs st nn nw nb b ln k : Nat} (h : Cx K S rs st nn nw nb b ln) (hk : k < ln) (r q : Nat → Int32) (hq : ∀ l, l ≤ k → q l = dst S nw b l) : ∀ (p n : Nat) (row : Nat → Int32) (g : Nat → Nat), p ≤ k → p < n → (∀ i, i ≤ k → i ≠ p → row i = nI (g i) ∧ g i < k) →
    ∃ row' p', f_LO_insert_L3 n (bs + 23) (bs + (52 + 3 * b)) (nI k) (S 0 7) (nI p) (gm bs (Kx K r q row) S) = some (nI p', gm bs (Kx K r q row') S) ∧ p' ≤ k ∧ ∀ i, i ≤ k → upd row' p' (nI k) i = nI (insp (gobB S nw b) k p g i) := by
  have ln5 := h.2.2.2.2.2.1.2.1
  intro p
  induction p with
  | zero =>
    intro n row g hp hn hr
    obtain ⟨n, rfl⟩ : ∃ n', n = n' + 1 := ⟨n - 1, by omega⟩
    refine ⟨row, 0, ?_, by omega, fun i hi => ?_⟩
    · have e1 : nI 0 ≤ 0 := by decide
      simp only [f_LO_insert_L3, e1, if_true]
    · by_cases c : i = 0
      · subst c; rw [upd_s]; simp only [insp, if_true]
      · rw [upd_n c]; simp only [insp, c, if_false, Bool.false_eq_true]; exact (hr i hi c).1
  | succ p ih =>
    intro n row g hp hn hr
    obtain ⟨n, rfl⟩ : ∃ n', n = n' + 1 := ⟨n - 1, by omega⟩
    have e1 : ¬ nI (p + 1) ≤ 0 := nI_nle (by omega) (by omega)
    obtain ⟨r1, r2⟩ := hr p (by omega) (by omega)
    have go := lo_goes bs K S h r q row hk (show g p < ln by omega) (hq k (Nat.le_refl k)) (hq (g p) (by omega))
    by_cases c : gobB S nw b k (g p) = true
    · rw [if_pos c] at go
      obtain ⟨row', p', i1, i2, i3⟩ := ih n (upd row (p + 1) (nI (g p))) (fun i => if i = p + 1 then g p else g i) (by omega) (by omega) (fun i hi hip => by
        by_cases c2 : i = p + 1
        · subst c2; rw [upd_s]; simp only [if_true]; exact ⟨trivial, r2⟩
        · rw [upd_n c2]; simp only [c2, if_false, Bool.false_eq_true]; exact hr i hi c2)
      refine ⟨row', p', ?_, i2, fun i hi => ?_⟩
      · simp only [f_LO_insert_L3, e1, if_false, Bool.false_eq_true, g23_2, Option.bind_some, nI_p1, a24 bs _ S (show p < 5 by omega), Kx_24, r1, ob_23, go, show ¬ (1 : Int32) = 0 by decide, s24 bs _ S _ (show p + 1 < 5 by omega), Kx_p, nI_p2, i1]
      · rw [i3 i hi]; simp only [insp, c, if_true]
    · rw [if_neg c] at go
      refine ⟨row, p + 1, ?_, by omega, fun i hi => ?_⟩
      · simp only [f_LO_insert_L3, e1, if_false, Bool.false_eq_true, g23_2, Option.bind_some, nI_p1, a24 bs _ S (show p < 5 by omega), Kx_24, r1, ob_23, go, if_true]
      · by_cases c2 : i = p + 1
        · subst c2; rw [upd_s]; simp only [insp, c, if_false, Bool.false_eq_true, if_true]
        · rw [upd_n c2]; simp only [insp, c, c2, if_false, Bool.false_eq_true]; exact (hr i hi c2).1
theorem lo_ins (bs : Nat) (K S : Kp) {rs st nn nw nb b ln k : Nat} (h : Cx K S rs st nn nw nb b ln) (hk : k < ln) (r q row : Nat → Int32) (hq : ∀ l, l ≤ k → q l = dst S nw b l) (hr : ∀ i, i < k → row i = nI (srt (gobB S nw b) k i)) :
    ∃ row', f_LO_insert (bs + 23) (bs + (52 + 3 * b)) (nI k) (S 0 7) (gm bs (Kx K r q row) S) = some (gm bs (Kx K r q row') S) ∧ ∀ i, i < k + 1 → row' i = nI (srt (gobB S nw b) (k + 1) i) := by
  have ln5 := h.2.2.2.2.2.1.2.1
  obtain ⟨row', p', h1, h2, h3⟩ := lo_insL bs K S h hk r q hq k px_fuel row (srt (gobB S nw b) k) (Nat.le_refl k) (by unfold px_fuel; omega) (fun i hi hik => ⟨hr i (by omega), srt_b k i (by omega)⟩)
  refine ⟨upd row' p' (nI k), ?_, fun i hi => h3 i (by omega)⟩
  unfold f_LO_insert
  simp only [h1, Option.bind_some, g23_2, s24 bs _ S _ (show p' < 5 by omega), Kx_p]
theorem lo_arrL (bs : Nat) (K S : Kp) {rs st nn nw nb b ln : Nat} (h : Cx K S rs st nn nw nb b ln) (r : Nat → Int32) (hr0 : ∀ v, v < 10 → r v = encC (bf nw okT (wA S) (wB S) (wL S) (g0 (bEnd S b)) 10) v) : ∀ (m k n : Nat) (q row : Nat → Int32), k + m = ln → m < n → (∀ l, l < k → q l = dst S nw b l) → (∀ i, i < k → row i = nI (srt (gobB S nw b) k i)) →
    ∃ q' row', f_LO_arrange_L21 n (bs + 23) (bs + (52 + 3 * b)) (S 0 7) (nI k) (gm bs (Kx K r q row) S) = some ((), gm bs (Kx K r q' row') S) ∧ (∀ l, l < ln → q' l = dst S nw b l) ∧ ∀ i, i < ln → row' i = nI (srt (gobB S nw b) ln i) := by
  obtain ⟨jr, jn, jw, jb, hb, l1, b2, b3, b4⟩ := id h
  have hb8 : b < 8 := by have := jb.1; omega
  have ln5 := l1.2.1
  have nn10 := jn.1
  have f1 : ∀ q row, Kx K r q row (52 + 3 * b) 2 = nI ln := fun q row => by rw [Kx_n (by omega) (by omega) (by omega)]; exact b2
  intro m
  induction m with
  | zero =>
    intro k n q row hk hm hq hr
    obtain ⟨n, rfl⟩ : ∃ n', n = n' + 1 := ⟨n - 1, by omega⟩
    obtain rfl : k = ln := by omega
    have e1 : nI k ≤ nI k := nI_le (Nat.le_refl k) (by omega)
    refine ⟨q, row, ?_, hq, hr⟩
    simp only [f_LO_arrange_L21, gbo_2 bs _ S hb8, f1, Option.bind_some, e1, if_true]
  | succ m ih =>
    intro k n q row hk hm hq hr
    obtain ⟨n, rfl⟩ : ∃ n', n = n' + 1 := ⟨n - 1, by omega⟩
    have e1 : ¬ nI ln ≤ nI k := by rw [nI_leI (by omega) (by omega)]; omega
    have e2 : nI k + 1 = nI (k + 1) := nI_1 k
    have k1 : Kx K r q row (53 + 3 * b) k = nI (nmOf S b k) := by rw [Kx_n (by omega) (by omega) (by omega)]; exact b4 k (by omega)
    have n1 := (l1.2.2.2 k (by omega)).2
    obtain ⟨len, z⟩ := jn.2.2.2.1 _ n1
    have k2 : Kx K r q row (32 + 2 * nmOf S b k) 2 = S 12 (nmOf S b k) := by rw [Kx_n (by omega) (by omega) (by omega)]; exact z.2.2.2.2.2.1
    have hq1 : ∀ l, l ≤ k → upd q k (dst S nw b k) l = dst S nw b l := fun l hl => by
      by_cases c : l = k
      · subst c; rw [upd_s]
      · rw [upd_n c]; exact hq l (by omega)
    obtain ⟨row1, i1, i2⟩ := lo_ins bs K S h (show k < ln by omega) r (upd q k (dst S nw b k)) row hq1 hr
    obtain ⟨q', row', j1, j2, j3⟩ := ih (k + 1) n (upd q k (dst S nw b k)) row1 (by omega) (by omega) (fun l hl => hq1 l (by omega)) i2
    refine ⟨q', row', ?_, j2, j3⟩
    by_cases c : S 12 (nmOf S b k) = -1
    · have ed : dst S nw b k = -1 := by unfold dst; rw [if_pos c]
      rw [ed] at i1 j1
      simp only [f_LO_arrange_L21, gbo_2 bs _ S hb8, f1, Option.bind_some, e1, if_false, Bool.false_eq_true, g23_0, gbo_0 bs _ S hb8, abn bs _ S hb8 (show k < 5 by omega), k1, ar15 bs _ S (show nmOf S b k < 10 by omega), gna_2 bs _ S (show nmOf S b k < 10 by omega), k2, g23_3, c, if_true, s25 bs _ S _ (show k < 5 by omega), Kx_q, ob_23, i1, e2, j1]
    · obtain ⟨t, t1, t2⟩ := z.2.2.2.2.2.2.resolve_left c
      have ed : dst S nw b k = r t := by unfold dst; rw [if_neg c, t2, nI_clamp (by omega), hr0 t t1]
      have d1 : ¬ nI t = -1 := nI_m1 (by omega)
      rw [ed] at i1 j1
      simp only [f_LO_arrange_L21, gbo_2 bs _ S hb8, f1, Option.bind_some, e1, if_false, Bool.false_eq_true, g23_0, gbo_0 bs _ S hb8, abn bs _ S hb8 (show k < 5 by omega), k1, ar15 bs _ S (show nmOf S b k < 10 by omega), gna_2 bs _ S (show nmOf S b k < 10 by omega), k2, g23_3, t2, d1, g23_1, g16_4, a21 bs _ S t1, Kx_21, s25 bs _ S _ (show k < 5 by omega), Kx_q, ob_23, i1, e2, j1]
theorem lo_arrange (bs : Nat) (K S : Kp) {rs st nn nw nb b ln : Nat} (h : Cx K S rs st nn nw nb b ln) : ∃ r q row, f_LO_arrange (bs + 23) (bs + (52 + 3 * b)) (S 0 7) (gm bs K S) = some (gm bs (Kx K r q row) S) ∧ (∀ l, l < ln → q l = dst S nw b l) ∧ ∀ i, i < ln → row i = nI (srt (gobB S nw b) ln i) := by
  obtain ⟨jr, jn, jw, jb, hb, l1, b2, ⟨w, w1, w2, w3⟩, b4⟩ := id h
  have hb8 : b < 8 := by have := jb.1; omega
  have ln5 := l1.2.1
  have w24 : w < 24 := by have := jw.1; omega
  obtain ⟨a1, a2, c1, c2, d1, d2⟩ := jw.wy.2.2 w w1
  have eb : bEnd S b = wB S w := by unfold bEnd; rw [w2, nI_clamp (by omega)]
  have k18 : K 18 w = nI (wB S w) := by rw [(jw.2.2.2 w w1).2.1, c1]
  obtain ⟨r, r1, r2⟩ := ro_measureFrom bs K S (s := wB S w) jw c2
  have ek : rw2 K 21 r = Kx K r (K 25) (K 24) := by
    unfold Kx
    funext a x
    by_cases e : a = 24
    · subst e; rw [rw2_s, rw2_n (by omega)]
    · by_cases e2 : a = 25
      · subst e2; rw [rw2_n (by omega), rw2_n (by omega), rw2_s]
      · rw [rw2_n e, rw2_n e2]
  rw [ek] at r1
  obtain ⟨q, row, i1, i2, i3⟩ := lo_arrL bs K S h r (by rw [eb]; exact r2) ln 0 px_fuel (K 25) (K 24) (by omega) (by unfold px_fuel; omega) (fun l hl => absurd hl (by omega)) (fun i hi => absurd hi (by omega))
  rw [nI_0] at i1
  refine ⟨r, q, row, ?_, i2, i3⟩
  unfold f_LO_arrange
  simp only [g23_1, Option.bind_some, g16_1, gbo_3 bs K S hb8, w3, a18 bs K S w24, k18, ob_16, r1, i1]
