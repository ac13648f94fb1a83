noncomputable def bP (p : Prop) : Int32 := @ite _ p (Classical.propDecidable p) 1 0
theorem bP_t {p : Prop} (h : p) : bP p = 1 := by unfold bP; rw [if_pos h]
theorem bP_f {p : Prop} (h : ¬ p) : bP p = 0 := by unfold bP; rw [if_neg h]
theorem bP_01 (p : Prop) : bP p = 0 ∨ bP p = 1 := by
  by_cases h : p
  · exact Or.inr (bP_t h)
  · exact Or.inl (bP_f h)
theorem bP_0 {p : Prop} : bP p = 0 ↔ ¬ p := by
  by_cases h : p
  · rw [bP_t h]; simp [h]
  · rw [bP_f h]; simp [h]
theorem bP_cg {p q : Prop} (h : p ↔ q) : bP p = bP q := by
  by_cases c : p
  · rw [bP_t c, bP_t (h.mp c)]
  · rw [bP_f c, bP_f (fun z => c (h.mpr z))]
/-! bits -/
theorem or_z (x y : Int32) : (x ||| y = 0) ↔ (x = 0 ∧ y = 0) := by
  rw [← Int32.toBitVec_inj, ← Int32.toBitVec_inj, ← Int32.toBitVec_inj, Int32.toBitVec_or]
  show x.toBitVec ||| y.toBitVec = 0#32 ↔ x.toBitVec = 0#32 ∧ y.toBitVec = 0#32
  exact BitVec.or_eq_zero_iff
theorem or_and (v a b : Int32) : (v ||| a) &&& b = (v &&& b) ||| (a &&& b) := by
  rw [← Int32.toBitVec_inj]
  simp only [Int32.toBitVec_or, Int32.toBitVec_and]
  ext i hi
  simp only [BitVec.getElem_and, BitVec.getElem_or]
  cases v.toBitVec[i] <;> cases a.toBitVec[i] <;> cases b.toBitVec[i] <;> rfl
theorem bit_ne : ∀ n, n < 10 → ∀ m, m < 10 → ((((1 : Int32) <<< (nI n &&& 31)) &&& ((1 : Int32) <<< (nI m &&& 31))) = 0 ↔ n ≠ m) := by decide +kernel
theorem bit_add {v : Int32} {n m : Nat} (hn : n < 10) (hm : m < 10) : (¬ ((v ||| ((1 : Int32) <<< (nI n &&& 31))) &&& ((1 : Int32) <<< (nI m &&& 31))) = 0) ↔ (¬ (v &&& ((1 : Int32) <<< (nI m &&& 31))) = 0) ∨ n = m := by
  rw [or_and, or_z, bit_ne n hn m hm]
  by_cases c : n = m <;> simp [c]
/-! a board has a name -/
def hasP (S : Kp) (b : Nat) (n : Int32) (k : Nat) : Prop := ∃ l, l < k ∧ S 18 (5 * b + l) = n
theorem hasP_s (S : Kp) (b : Nat) (n : Int32) (k : Nat) : hasP S b n (k + 1) ↔ hasP S b n k ∨ S 18 (5 * b + k) = n := by
  constructor
  · rintro ⟨l, h1, h2⟩
    by_cases c : l = k
    · subst c; exact Or.inr h2
    · exact Or.inl ⟨l, by omega, h2⟩
  · rintro (⟨l, h1, h2⟩ | h)
    · exact ⟨l, by omega, h2⟩
    · exact ⟨k, by omega, h⟩
theorem mo_hasL (bs : Nat) (K S : Kp) (x : Int32) {b ln : Nat} (hb : b < 8) (h : S 17 b = nI ln) (hl : ln ≤ 5) : ∀ (m k n : Nat), k + m = ln → m < n → f_MO_has_L5 n (bs + 76) (nI b) x (bP (hasP S b x k)) (nI k) (gm bs K S) = some (bP (hasP S b x ln), gm bs K S) := by
  intro m
  induction m with
  | zero =>
    intro k n hk hm
    obtain ⟨n, rfl⟩ : ∃ n', n = n' + 1 := ⟨n - 1, by omega⟩
    obtain rfl : k = ln := by omega
    have e1 : nI k ≤ nI k := nI_le (Nat.le_refl k) (by omega)
    simp only [f_MO_has_L5, m31, ma17 bs K S hb, h, Option.bind_some, e1, if_true]
  | succ m ih =>
    intro k n hk hm
    obtain ⟨n, rfl⟩ : ∃ n', n = n' + 1 := ⟨n - 1, by omega⟩
    have e1 : ¬ nI ln ≤ nI k := by rw [nI_leI (by omega) (by omega)]; omega
    have e2 : nI k + 1 = nI (k + 1) := nI_1 k
    have e3 : 5 * nI b + nI k = nI (5 * b + k) := by rw [li5, pk_mul, nI_add]
    have i1 := ih (k + 1) n (by omega) (by omega)
    by_cases c1 : hasP S b x k
    · rw [bP_t ((hasP_s S b x k).mpr (Or.inl c1))] at i1
      simp only [f_MO_has_L5, m31, ma17 bs K S hb, h, Option.bind_some, e1, if_false, bP_t c1, show ¬ (1 : Int32) = 0 by decide, e2, i1]
    · by_cases c2 : S 18 (5 * b + k) = x
      · rw [bP_t ((hasP_s S b x k).mpr (Or.inr c2))] at i1
        simp only [f_MO_has_L5, m31, ma17 bs K S hb, h, Option.bind_some, e1, if_false, bP_f c1, if_true, m32, e3, ma18 bs K S (show 5 * b + k < 40 by omega), c2, e2, i1]
      · rw [bP_f (fun z => ((hasP_s S b x k).mp z).elim c1 c2)] at i1
        simp only [f_MO_has_L5, m31, ma17 bs K S hb, h, Option.bind_some, e1, if_false, bP_f c1, if_true, m32, e3, ma18 bs K S (show 5 * b + k < 40 by omega), c2, e2, i1]
theorem mo_has (bs : Nat) (K S : Kp) (x : Int32) {b ln : Nat} (hb : b < 8) (h : S 17 b = nI ln) (hl : ln ≤ 5) : f_MO_has (bs + 76) (nI b) x (gm bs K S) = some (bP (hasP S b x ln), gm bs K S) := by
  unfold f_MO_has
  have e := mo_hasL bs K S x hb h hl ln 0 px_fuel (by omega) (by unfold px_fuel; omega)
  rw [bP_f (show ¬ hasP S b x 0 from fun ⟨l, h1, _⟩ => absurd h1 (by omega)), nI_0] at e
  simp only [e, Option.bind_some, bP_01, if_true]
theorem bo_hasL (bs : Nat) (K S : Kp) (x : Int32) {b ln : Nat} (hb : b < 8) (h : K (52 + 3 * b) 2 = nI ln) (hl : ln ≤ 5) (hq : ∀ l, l < ln → K (53 + 3 * b) l = S 18 (5 * b + l)) : ∀ (m k n : Nat), k + m = ln → m < n → ¬ hasP S b x k → f_BO_has_L2 n (bs + (52 + 3 * b)) x (nI k) (gm bs K S) = some (if bP (hasP S b x ln) = 0 then .inl () else .inr 1, gm bs K S) := by
  intro m
  induction m with
  | zero =>
    intro k n hk hm hh
    obtain ⟨n, rfl⟩ : ∃ n', n = n' + 1 := ⟨n - 1, by omega⟩
    obtain rfl : k = ln := by omega
    have e1 : nI k ≤ nI k := nI_le (Nat.le_refl k) (by omega)
    simp only [f_BO_has_L2, gbo_2 bs K S hb, h, Option.bind_some, e1, if_true, bP_f hh]
  | succ m ih =>
    intro k n hk hm hh
    obtain ⟨n, rfl⟩ : ∃ n', n = n' + 1 := ⟨n - 1, by omega⟩
    have e1 : ¬ nI ln ≤ nI k := by rw [nI_leI (by omega) (by omega)]; omega
    have e2 : nI k + 1 = nI (k + 1) := nI_1 k
    by_cases c2 : S 18 (5 * b + k) = x
    · simp only [f_BO_has_L2, gbo_2 bs K S hb, h, Option.bind_some, e1, if_false, gbo_0 bs K S hb, abn bs K S hb (show k < 5 by omega), hq k (by omega), c2, if_true, bP_t (show hasP S b x ln from ⟨k, by omega, c2⟩), show ¬ (1 : Int32) = 0 by decide]
    · have i1 := ih (k + 1) n (by omega) (by omega) (fun z => ((hasP_s S b x k).mp z).elim hh c2)
      simp only [f_BO_has_L2, gbo_2 bs K S hb, h, Option.bind_some, e1, if_false, gbo_0 bs K S hb, abn bs K S hb (show k < 5 by omega), hq k (by omega), c2, e2, i1]
theorem bo_has (bs : Nat) (K S : Kp) (x : Int32) {b ln : Nat} (hb : b < 8) (h : K (52 + 3 * b) 2 = nI ln) (hl : ln ≤ 5) (hq : ∀ l, l < ln → K (53 + 3 * b) l = S 18 (5 * b + l)) : f_BO_has (bs + (52 + 3 * b)) x (gm bs K S) = some (bP (hasP S b x ln), gm bs K S) := by
  unfold f_BO_has
  have e := bo_hasL bs K S x hb h hl hq ln 0 px_fuel (by omega) (by unfold px_fuel; omega) (fun ⟨l, h1, _⟩ => absurd h1 (by omega))
  rw [nI_0] at e
  simp only [e, Option.bind_some]
  rcases bP_01 (hasP S b x ln) with c | c
  · rw [c]; rfl
  · rw [c]; rfl
/-! a way shows a name -/
theorem shw_s {S : Kp} {w n k : Nat} {ln : Nat} (h : S 17 k = nI ln) (hl : ln ≤ 5) : shw S (k + 1) w n ↔ shw S k w n ∨ (S 16 k = nI w ∧ hasP S k (nI n) ln) := by
  constructor
  · rintro ⟨b, h1, h2, l, h3, h4, h5⟩
    by_cases c : b = k
    · subst c
      rw [h, nI_ltI (by omega) (by omega)] at h3
      exact Or.inr ⟨h2, l, h3, h5⟩
    · exact Or.inl ⟨b, by omega, h2, l, h3, h4, h5⟩
  · rintro (⟨b, h1, h2⟩ | ⟨h2, l, h3, h5⟩)
    · exact ⟨b, by omega, h2⟩
    · exact ⟨k, by omega, h2, l, by rw [h, nI_ltI (by omega) (by omega)]; exact h3, by omega, h5⟩
theorem mo_shownL (bs : Nat) (K S : Kp) {w n nb : Nat} (h : S 0 29 = nI nb) (hb : nb ≤ 8) (hq : ∀ b, b < nb → ∃ ln, ln ≤ 5 ∧ S 17 b = nI ln) : ∀ (m k f : Nat), k + m = nb → m < f → f_MO_isShown_L5 f (bs + 76) (nI w) (nI n) (bP (shw S k w n)) (nI k) (gm bs K S) = some (bP (shw S nb w n), gm bs K S) := by
  intro m
  induction m with
  | zero =>
    intro k f hk hm
    obtain ⟨f, rfl⟩ : ∃ n', f = n' + 1 := ⟨f - 1, by omega⟩
    obtain rfl : k = nb := by omega
    have e1 : nI k ≤ nI k := nI_le (Nat.le_refl k) (by omega)
    simp only [f_MO_isShown_L5, m29, h, Option.bind_some, e1, if_true]
  | succ m ih =>
    intro k f hk hm
    obtain ⟨f, rfl⟩ : ∃ n', f = n' + 1 := ⟨f - 1, by omega⟩
    have e1 : ¬ nI nb ≤ nI k := by rw [nI_leI (by omega) (by omega)]; omega
    have e2 : nI k + 1 = nI (k + 1) := nI_1 k
    obtain ⟨ln, q1, q2⟩ := hq k (by omega)
    have i1 := ih (k + 1) f (by omega) (by omega)
    have hs := shw_s (S := S) (w := w) (n := n) q2 q1
    by_cases c1 : shw S k w n
    · rw [bP_t (hs.mpr (Or.inl c1))] at i1
      simp only [f_MO_isShown_L5, m29, h, Option.bind_some, e1, if_false, bP_t c1, show ¬ (1 : Int32) = 0 by decide, e2, i1]
    · by_cases c2 : S 16 k = nI w
      · by_cases c3 : hasP S k (nI n) ln
        · rw [bP_t (hs.mpr (Or.inr ⟨c2, c3⟩))] at i1
          simp only [f_MO_isShown_L5, m29, h, Option.bind_some, e1, if_false, bP_f c1, if_true, m30, ma16 bs K S (show k < 8 by omega), c2, m_ob, mo_has bs K S _ (show k < 8 by omega) q2 q1, bP_t c3, show ¬ (1 : Int32) = 0 by decide, e2, i1]
        · rw [bP_f (fun z => (hs.mp z).elim c1 (fun z => c3 z.2))] at i1
          simp only [f_MO_isShown_L5, m29, h, Option.bind_some, e1, if_false, bP_f c1, if_true, m30, ma16 bs K S (show k < 8 by omega), c2, m_ob, mo_has bs K S _ (show k < 8 by omega) q2 q1, bP_f c3, e2, i1]
      · rw [bP_f (fun z => (hs.mp z).elim c1 (fun z => c2 z.1))] at i1
        simp only [f_MO_isShown_L5, m29, h, Option.bind_some, e1, if_false, bP_f c1, if_true, m30, ma16 bs K S (show k < 8 by omega), c2, e2, i1]
theorem mo_isShown (bs : Nat) (K S : Kp) {w n nb : Nat} (h : S 0 29 = nI nb) (hb : nb ≤ 8) (hq : ∀ b, b < nb → ∃ ln, ln ≤ 5 ∧ S 17 b = nI ln) : f_MO_isShown (bs + 76) (nI w) (nI n) (gm bs K S) = some (bP (shw S nb w n), gm bs K S) := by
  unfold f_MO_isShown
  have e := mo_shownL bs K S (w := w) (n := n) h hb hq nb 0 px_fuel (by omega) (by unfold px_fuel; omega)
  rw [bP_f (show ¬ shw S 0 w n from fun ⟨l, h1, _⟩ => absurd h1 (by omega)), nI_0] at e
  simp only [e, Option.bind_some, bP_01, if_true]
theorem Jb.lns {K S : Kp} {nb nn nw : Nat} (h : Jb K S nb nn nw) : ∀ b, b < nb → ∃ ln, ln ≤ 5 ∧ S 17 b = nI ln := fun b hb => by
  obtain ⟨_, ⟨ln, q1, q2, _⟩, _⟩ := h.2.2.2.1 b hb
  exact ⟨ln, q1, q2⟩
theorem ro_isShown (bs : Nat) (K S : Kp) {w n nb : Nat} (js : Js K S nb) (hw : w < 24) (hn : n < 10) : f_RO_isShown (bs + 16) (nI w) (nI n) (gm bs K S) = some (bP (shw S nb w n), gm bs K S) := by
  unfold f_RO_isShown
  simp only [g16_3, Option.bind_some, a20 bs K S hw]
  by_cases c : shw S nb w n
  · have c2 := (js w hw n hn).mpr c
    simp only [c2, if_false, bP_t c]
  · have c2 : (K 20 w &&& (1 <<< (nI n &&& 31))) = 0 := Classical.byContradiction fun z => c ((js w hw n hn).mp z)
    simp only [c2, if_true, bP_f c]
theorem op_shows {bs : Nat} {K S : Kp} (x y : Int32) (h : J K S) : ∃ r K' S', f_SB_shows bs x y (gm bs K S) = some (r, gm bs K' S) ∧ f_MO_shows (bs + 76) x y (gm bs K' S) = some (r, gm bs K' S') ∧ J K' S' := by
  obtain ⟨tl, rs, st, np, nn, nw, nb, jt, jr, jl, jn, jw, jb, js⟩ := id h
  unfold f_SB_shows f_MO_shows
  by_cases c1 : 0 ≤ x ∧ x < nI nw
  · obtain ⟨w, hw, rfl⟩ := nIr c1.1 c1.2 (by have := jw.1; omega)
    have hw24 : w < 24 := by have := jw.1; omega
    have d1 : ¬ nI w < 0 := nI_pos (by omega)
    have d2 : ¬ nI nw ≤ nI w := by have := jw.1; rw [nI_leI (by omega) (by omega)]; omega
    by_cases c2 : 0 ≤ y ∧ y < nI nn
    · obtain ⟨n, hn, rfl⟩ := nIr c2.1 c2.2 (by have := jn.1; omega)
      have hn10 : n < 10 := by have := jn.1; omega
      refine ⟨bP (shw S nb w n), K, S, ?_, ?_, h⟩
      · simp only [g0_7, ob_16, ob_0, w_isWay bs K S _ jw.2.2.1 jw.1, c1, w_isName bs K S _ jn.2.2.1 jn.1, c2, and_self, if_true, if_false, Option.bind_some, ro_isShown bs K S js hw24 hn10, show ¬ (1 : Int32) = 0 by decide]
        rcases bP_01 (shw S nb w n) with c | c <;> rw [c] <;> rfl
      · simp only [d1, d2, m25, jw.2.1, m_ob, q_isName bs K S _ jn.2.1, c2, and_self, if_true, if_false, Option.bind_some, mo_isShown bs K S jb.2.1 jb.1 jb.lns, show ¬ (1 : Int32) = 0 by decide]
        rcases bP_01 (shw S nb w n) with c | c <;> rw [c] <;> rfl
    · refine ⟨0, K, S, ?_, ?_, h⟩
      · simp only [g0_7, ob_16, ob_0, w_isWay bs K S _ jw.2.2.1 jw.1, c1, w_isName bs K S _ jn.2.2.1 jn.1, c2, and_self, if_true, if_false, Option.bind_some]
        rfl
      · simp only [d1, d2, m25, jw.2.1, m_ob, q_isName bs K S _ jn.2.1, c2, if_true, if_false, Option.bind_some]
  · refine ⟨0, K, S, ?_, ?_, h⟩
    · simp only [g0_7, ob_16, w_isWay bs K S _ jw.2.2.1 jw.1, c1, if_true, if_false, Option.bind_some]
    · by_cases c2 : x < 0
      · simp only [c2, if_true]
      · have c3 : nI nw ≤ x := by grind
        simp only [c2, c3, m25, jw.2.1, if_true, if_false, Option.bind_some]
