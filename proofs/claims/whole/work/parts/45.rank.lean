def Sx (S : Kp) (r q p : Nat → Int32) : Kp := rw2 (rw2 (rw2 S 21 r) 22 q) 23 p
theorem Sx_n {S : Kp} {r q p : Nat → Int32} {i : Nat} (h : i ≤ 20) : Sx S r q p i = S i := by unfold Sx; rw [rw2_n (by omega), rw2_n (by omega), rw2_n (by omega)]
theorem Sx_y (S : Kp) (r q p : Nat → Int32) : Sy S (Sx S r q p) := fun _ h => Sx_n h
theorem Sx_22 (S : Kp) (r q p : Nat → Int32) : Sx S r q p 22 = q := by unfold Sx; rw [rw2_n (by omega), rw2_s]
theorem Sx_23 (S : Kp) (r q p : Nat → Int32) : Sx S r q p 23 = p := by unfold Sx; rw [rw2_s]
theorem Sx_r (S : Kp) (r q p r' : Nat → Int32) : rw2 (Sx S r q p) 21 r' = Sx S r' q p := by
  unfold Sx
  funext a b
  by_cases c : a = 21
  · subst c; rw [rw2_s, rw2_n (by omega), rw2_n (by omega), rw2_s]
  · rw [rw2_n c]
    by_cases c2 : a = 23
    · subst c2; rw [rw2_s, rw2_s]
    · by_cases c3 : a = 22
      · subst c3; rw [rw2_n c2, rw2_s, rw2_n c2, rw2_s]
      · rw [rw2_n c2, rw2_n c3, rw2_n c, rw2_n c2, rw2_n c3, rw2_n c]
theorem Sx_p (S : Kp) (r q p : Nat → Int32) (i : Nat) (v : Int32) : up2 (Sx S r q p) 23 i v = Sx S r q (upd p i v) := by unfold Sx; rw [up2_rw]
theorem Sx_q (S : Kp) (r q p : Nat → Int32) (i : Nat) (v : Int32) : up2 (Sx S r q p) 22 i v = Sx S r (upd q i v) p := by
  unfold Sx
  funext a b
  by_cases c : a = 23
  · subst c; rw [up2_n (by omega), rw2_s, rw2_s]
  · by_cases c2 : a = 22
    · subst c2
      rw [rw2_n (by omega), rw2_s]
      unfold up2
      rw [rw2_s, rw2_n (by omega), rw2_s]
    · rw [up2_n c2, rw2_n c, rw2_n c2, rw2_n c, rw2_n c2]
theorem Sx_id (S : Kp) : Sx S (S 21) (S 22) (S 23) = S := by
  unfold Sx
  rw [rw2_self, rw2_self, rw2_self]
theorem Sy.jn1 {K0 S S' : Kp} (h : Sy S S') {i ln : Nat} (j : JnOne K0 S i ln) : JnOne K0 S' i ln := by
  unfold JnOne at *
  rw [h 10 (by omega), h 11 (by omega), h 12 (by omega)]
  exact j
theorem Sy_nlt {S S' : Kp} (h : Sy S S') (i j la lb : Nat) : nlt S' i j la lb = nlt S i j la lb := by
  have e : ∀ i, lt1 S' i = lt1 S i := fun i => by funext k; unfold lt1; rw [h 11 (by omega)]
  unfold nlt
  rw [e, e]
/-- all that the reference's order needs to stand on -/
def Mx (K0 S : Kp) (nn nw nb b ln : Nat) : Prop := (S 0 7 = 110 ∨ S 0 7 = 102 ∨ S 0 7 = 97 ∨ S 0 7 = 116) ∧ Jn K0 S nn ∧ Wy S nw ∧ Bd S nb ∧ b < nb ∧ Ln1 S nn nw b ln
theorem mo_goes (bs : Nat) (K0 K S : Kp) {nn nw nb b ln l o : Nat} (h : Mx K0 S nn nw nb b ln) (r q p : Nat → Int32) (hl : l < ln) (ho : o < ln) (h1 : q l = dst S nw b l) (h2 : q o = dst S nw b o) : f_MO_goesBefore (bs + 76) (nI b) (nI l) (nI o) (gm bs K (Sx S r q p)) = some (if gobB S nw b l o = true then 1 else 0, gm bs K (Sx S r q p)) := by
  obtain ⟨ord, jn, wy, bd, hb, l1⟩ := h
  have hb8 : b < 8 := by have := bd.1; omega
  have ln5 := l1.2.1
  have n1 := (l1.2.2.2 l hl).2
  have n2 := (l1.2.2.2 o ho).2
  have nn10 := jn.1
  have gB : gobB S nw b l o = true ↔ gob S nw b l o := by unfold gobB; simp
  have s07 : Sx S r q p 0 7 = S 0 7 := by rw [Sx_n (by omega)]
  have e3 : 5 * nI b + nI l = nI (5 * b + l) := by rw [li5, pk_mul, nI_add]
  have e4 : 5 * nI b + nI o = nI (5 * b + o) := by rw [li5, pk_mul, nI_add]
  have k1 : Sx S r q p 18 (5 * b + l) = nI (nmOf S b l) := by rw [Sx_n (by omega)]; exact (l1.2.2.2 l hl).1
  have k2 : Sx S r q p 18 (5 * b + o) = nI (nmOf S b o) := by rw [Sx_n (by omega)]; exact (l1.2.2.2 o ho).1
  unfold f_MO_goesBefore
  simp only [m7, Option.bind_some, s07]
  by_cases c1 : S 0 7 = 97
  · obtain ⟨la, z1⟩ := jn.2.2.2.1 _ n1
    obtain ⟨lb, z2⟩ := jn.2.2.2.1 _ n2
    have g1 := gob_a (nw := nw) c1 z1.2.2.1 z1.2.1 z2.2.2.1 z2.2.1
    have y := Sx_y S r q p
    simp only [c1, if_true, m32, e3, e4, ma18 bs K _ (show 5 * b + l < 40 by omega), ma18 bs K _ (show 5 * b + o < 40 by omega), k1, k2, m_ob, Option.bind_some, mo_less bs K0 K (Sx S r q p) (show nmOf S b l < 10 by omega) (show nmOf S b o < 10 by omega) (y.jn1 z1) (y.jn1 z2), Sy_nlt y, bP_01]
    by_cases c : gob S nw b l o
    · rw [if_pos (gB.mpr c), bP_t (g1.mp c)]
    · rw [if_neg (fun z => c (gB.mp z)), bP_f (fun z => c (g1.mpr z))]
  · by_cases c4 : S 0 7 = 116
    · have : ¬ gobB S nw b l o = true := fun z => by
        have z := gB.mp z
        unfold gob at z
        rw [if_neg c1, c4] at z
        simp at z
      simp only [c4, this, if_true, if_false, Bool.false_eq_true, show ¬ (116 : Int32) = 97 by decide]
    · simp only [c1, c4, if_false, m36, Option.bind_some, ma22 bs K _ (show l < 5 by omega), ma22 bs K _ (show o < 5 by omega), Sx_22, h1, h2]
      by_cases c3 : S 0 7 = 110
      · have g2 : gob S nw b l o ↔ (¬ dst S nw b l = -1 ∧ (dst S nw b o = -1 ∨ dst S nw b l < dst S nw b o)) := by unfold gob; rw [c3]; simp
        by_cases d1 : dst S nw b l = -1
        · have : ¬ gobB S nw b l o = true := fun z => (g2.mp (gB.mp z)).1 d1
          simp only [d1, this, if_true, if_false, Bool.false_eq_true]
        · by_cases d2 : dst S nw b o = -1
          · have : gobB S nw b l o = true := gB.mpr (g2.mpr ⟨d1, Or.inl d2⟩)
            simp only [d1, d2, this, if_true, if_false]
          · by_cases d3 : dst S nw b l < dst S nw b o
            · have : gobB S nw b l o = true := gB.mpr (g2.mpr ⟨d1, Or.inr d3⟩)
              have d4 : ¬ dst S nw b o ≤ dst S nw b l := by grind
              simp only [d1, d2, c3, d4, this, if_true, if_false]
            · have : ¬ gobB S nw b l o = true := fun z => (g2.mp (gB.mp z)).2.elim d2 d3
              have d4 : dst S nw b o ≤ dst S nw b l := by grind
              simp only [d1, d2, c3, d4, this, if_true, if_false, Bool.false_eq_true]
      · have c2 : S 0 7 = 102 := by
          rcases ord with z | z | z | z
          · exact absurd z c3
          · exact z
          · exact absurd z c1
          · exact absurd z c4
        have g2 : gob S nw b l o ↔ (¬ dst S nw b l = -1 ∧ (dst S nw b o = -1 ∨ dst S nw b o < dst S nw b l)) := by unfold gob; rw [c2]; simp
        by_cases d1 : dst S nw b l = -1
        · have : ¬ gobB S nw b l o = true := fun z => (g2.mp (gB.mp z)).1 d1
          simp only [d1, this, if_true, if_false, Bool.false_eq_true]
        · by_cases d2 : dst S nw b o = -1
          · have : gobB S nw b l o = true := gB.mpr (g2.mpr ⟨d1, Or.inl d2⟩)
            simp only [d1, d2, this, if_true, if_false]
          · by_cases d3 : dst S nw b o < dst S nw b l
            · have : gobB S nw b l o = true := gB.mpr (g2.mpr ⟨d1, Or.inr d3⟩)
              have d4 : ¬ dst S nw b l ≤ dst S nw b o := by grind
              simp only [d1, d2, c3, d4, this, if_true, if_false]
            · have : ¬ gobB S nw b l o = true := fun z => (g2.mp (gB.mp z)).2.elim d2 d3
              have d4 : dst S nw b l ≤ dst S nw b o := by grind
              simp only [d1, d2, c3, d4, this, if_true, if_false, Bool.false_eq_true]
theorem mo_rank2 (bs : Nat) (K0 K S : Kp) {nn nw nb b ln : Nat} (h : Mx K0 S nn nw nb b ln) (p : Nat → Int32) : ∀ (m k n : Nat) (r q : Nat → Int32), k + m = ln → m < n → (∀ l, l < k → q l = dst S nw b l) →
    ∃ r' q', f_MO_rankAll_L2 n (bs + 76) (nI b) (nI k) (gm bs K (Sx S r q p)) = some ((), gm bs K (Sx S r' q' p)) ∧ ∀ l, l < ln → q' l = dst S nw b l := by
  obtain ⟨ord, jn, wy, bd, hb, l1⟩ := id h
  have hb8 : b < 8 := by have := bd.1; omega
  have ln5 := l1.2.1
  have f1 : ∀ r q, Sx S r q p 17 b = nI ln := fun r q => by rw [Sx_n (by omega)]; exact l1.2.2.1
  intro m
  induction m with
  | zero =>
    intro k n r q hk hm hq
    obtain ⟨n, rfl⟩ : ∃ n', n = n' + 1 := ⟨n - 1, by omega⟩
    obtain rfl : k = ln := by omega
    have e1 : nI k ≤ nI k := nI_le (Nat.le_refl k) (by omega)
    refine ⟨r, q, ?_, hq⟩
    simp only [f_MO_rankAll_L2, m31, ma17 bs K _ hb8, f1, Option.bind_some, e1, if_true]
  | succ m ih =>
    intro k n r q hk hm hq
    obtain ⟨n, rfl⟩ : ∃ n', n = n' + 1 := ⟨n - 1, by omega⟩
    have e1 : ¬ nI ln ≤ nI k := by rw [nI_leI (by omega) (by omega)]; omega
    have e2 : nI k + 1 = nI (k + 1) := nI_1 k
    obtain ⟨r1, d1⟩ := mo_distanceOf bs K0 K S (Sx S r q p) wy bd jn hb8 l1 (show k < ln by omega) (Sx_y S r q p)
    rw [Sx_r] at d1
    obtain ⟨r', q', i1, i2⟩ := ih (k + 1) n r1 (upd q k (dst S nw b k)) (by omega) (by omega) (fun l hl => by
      by_cases c : l = k
      · subst c; rw [upd_s]
      · rw [upd_n c]; exact hq l (by omega))
    refine ⟨r', q', ?_, i2⟩
    simp only [f_MO_rankAll_L2, m31, ma17 bs K _ hb8, f1, Option.bind_some, e1, if_false, m36, m_ob, d1, ms22 bs K _ _ (show k < 5 by omega), Sx_q, e2, i1]
theorem mo_rank44 (bs : Nat) (K0 K S : Kp) {nn nw nb b ln k : Nat} (h : Mx K0 S nn nw nb b ln) (hk : k < ln) (r q : Nat → Int32) (hq : ∀ l, l < ln → q l = dst S nw b l) : ∀ (p n : Nat) (row : Nat → Int32) (g : Nat → Nat), p ≤ k → p < n → (∀ i, i ≤ k → i ≠ p → row i = nI (g i) ∧ g i < k) →
    ∃ row' p', f_MO_rankAll_L44 n (bs + 76) (nI b) (nI k) (nI p) (gm bs K (Sx S r q row)) = some (nI p', gm bs K (Sx S r q row')) ∧ p' ≤ k ∧ ∀ i, i ≤ k → upd row' p' (nI k) i = nI (insp (gobB S nw b) k p g i) := by
  have ln5 := h.2.2.2.2.2.2.1
  intro p
  induction p with
  | zero =>
    intro n row g hp hn hr
    obtain ⟨n, rfl⟩ : ∃ n', n = n' + 1 := ⟨n - 1, by omega⟩
    refine ⟨row, 0, ?_, by omega, fun i hi => ?_⟩
    · have e1 : nI 0 ≤ 0 := by decide
      simp only [f_MO_rankAll_L44, e1, if_true]
    · by_cases c : i = 0
      · subst c; rw [upd_s]; simp only [insp, if_true]
      · rw [upd_n c]; simp only [insp, c, if_false]; exact (hr i hi c).1
  | succ p ih =>
    intro n row g hp hn hr
    obtain ⟨n, rfl⟩ : ∃ n', n = n' + 1 := ⟨n - 1, by omega⟩
    have e1 : ¬ nI (p + 1) ≤ 0 := nI_nle (by omega) (by omega)
    obtain ⟨r1, r2⟩ := hr p (by omega) (by omega)
    have go := mo_goes bs K0 K S h r q row hk (show g p < ln by omega) (hq k hk) (hq (g p) (by omega))
    by_cases c : gobB S nw b k (g p) = true
    · rw [if_pos c] at go
      obtain ⟨row', p', i1, i2, i3⟩ := ih n (upd row (p + 1) (nI (g p))) (fun i => if i = p + 1 then g p else g i) (by omega) (by omega) (fun i hi hip => by
        by_cases c2 : i = p + 1
        · subst c2; rw [upd_s]; simp only [if_true]; exact ⟨trivial, r2⟩
        · rw [upd_n c2]; simp only [c2, if_false]; exact hr i hi c2)
      refine ⟨row', p', ?_, i2, fun i hi => ?_⟩
      · simp only [f_MO_rankAll_L44, e1, if_false, m37, Option.bind_some, nI_p1, ma23 bs K _ (show p < 5 by omega), Sx_23, r1, m_ob, go, show ¬ (1 : Int32) = 0 by decide, ms23 bs K _ _ (show p + 1 < 5 by omega), Sx_p, nI_p2, i1]
      · rw [i3 i hi]; simp only [insp, c, if_true]
    · rw [if_neg c] at go
      refine ⟨row, p + 1, ?_, by omega, fun i hi => ?_⟩
      · simp only [f_MO_rankAll_L44, e1, if_false, m37, Option.bind_some, nI_p1, ma23 bs K _ (show p < 5 by omega), Sx_23, r1, m_ob, go, if_true]
      · by_cases c2 : i = p + 1
        · subst c2; rw [upd_s]; simp only [insp, c, if_false, Bool.false_eq_true, if_true]
        · rw [upd_n c2]; simp only [insp, c, c2, if_false, Bool.false_eq_true]; exact (hr i hi c2).1
theorem mo_rank32 (bs : Nat) (K0 K S : Kp) {nn nw nb b ln : Nat} (h : Mx K0 S nn nw nb b ln) (r q : Nat → Int32) (hq : ∀ l, l < ln → q l = dst S nw b l) : ∀ (m k n : Nat) (row : Nat → Int32), k + m = ln → m < n → (∀ i, i < k → row i = nI (srt (gobB S nw b) k i)) →
    ∃ row', f_MO_rankAll_L32 n (bs + 76) (nI b) (nI k) (gm bs K (Sx S r q row)) = some ((), gm bs K (Sx S r q row')) ∧ ∀ i, i < ln → row' i = nI (srt (gobB S nw b) ln i) := by
  obtain ⟨ord, jn, wy, bd, hb, l1⟩ := id h
  have hb8 : b < 8 := by have := bd.1; omega
  have ln5 := l1.2.1
  have f1 : ∀ p, Sx S r q p 17 b = nI ln := fun p => by rw [Sx_n (by omega)]; exact l1.2.2.1
  intro m
  induction m with
  | zero =>
    intro k n row hk hm hr
    obtain ⟨n, rfl⟩ : ∃ n', n = n' + 1 := ⟨n - 1, by omega⟩
    obtain rfl : k = ln := by omega
    have e1 : nI k ≤ nI k := nI_le (Nat.le_refl k) (by omega)
    refine ⟨row, ?_, hr⟩
    simp only [f_MO_rankAll_L32, m31, ma17 bs K _ hb8, f1, Option.bind_some, e1, if_true]
  | succ m ih =>
    intro k n row hk hm hr
    obtain ⟨n, rfl⟩ : ∃ n', n = n' + 1 := ⟨n - 1, by omega⟩
    have e1 : ¬ nI ln ≤ nI k := by rw [nI_leI (by omega) (by omega)]; omega
    have e2 : nI k + 1 = nI (k + 1) := nI_1 k
    obtain ⟨row1, p1, h1, h2, h3⟩ := mo_rank44 bs K0 K S h (show k < ln by omega) r q hq k px_fuel row (srt (gobB S nw b) k) (Nat.le_refl k) (by unfold px_fuel; omega) (fun i hi hik => ⟨hr i (by omega), srt_b k i (by omega)⟩)
    obtain ⟨row', i1, i2⟩ := ih (k + 1) n (upd row1 p1 (nI k)) (by omega) (by omega) (fun i hi => h3 i (by omega))
    refine ⟨row', ?_, i2⟩
    simp only [f_MO_rankAll_L32, m31, ma17 bs K _ hb8, f1, Option.bind_some, e1, if_false, h1, m37, ms23 bs K _ _ (show p1 < 5 by omega), Sx_p, e2, i1]
theorem mo_rankAll (bs : Nat) (K0 K S : Kp) {nn nw nb b ln : Nat} (h : Mx K0 S nn nw nb b ln) : ∃ r q row, f_MO_rankAll (bs + 76) (nI b) (gm bs K S) = some (gm bs K (Sx S r q row)) ∧ (∀ l, l < ln → q l = dst S nw b l) ∧ ∀ i, i < ln → row i = nI (srt (gobB S nw b) ln i) := by
  have ln5 := h.2.2.2.2.2.2.1
  obtain ⟨r, q, h1, h2⟩ := mo_rank2 bs K0 K S h (S 23) ln 0 px_fuel (S 21) (S 22) (by omega) (by unfold px_fuel; omega) (fun l hl => absurd hl (by omega))
  rw [Sx_id, nI_0] at h1
  obtain ⟨row, h3, h4⟩ := mo_rank32 bs K0 K S h r q h2 ln 0 px_fuel (S 23) (by omega) (by unfold px_fuel; omega) (fun l hl => absurd hl (by omega))
  rw [nI_0] at h3
  refine ⟨r, q, row, ?_, h2, h4⟩
  unfold f_MO_rankAll
  simp only [h1, Option.bind_some, h3]
