/-! height: the first step that is not below the speed, else the last -/
def hidx (f : Nat → Int32) (x : Int32) : Nat → Nat → Nat
  | 0, k => k
  | m + 1, k => if f k < x then hidx f x m (k + 1) else k
def hgt (S : Kp) (st : Nat) (x : Int32) : Int32 := S 3 (hidx (S 2) x (st - 1) 0)
theorem hidx_b {f : Nat → Int32} {x : Int32} : ∀ (m k : Nat), k ≤ hidx f x m k ∧ hidx f x m k ≤ k + m
  | 0, k => ⟨Nat.le_refl k, Nat.le_refl k⟩
  | m + 1, k => by
    have ih := hidx_b (f := f) (x := x) m (k + 1)
    by_cases c : f k < x
    · simp only [hidx, c, if_true]; omega
    · simp only [hidx, c, if_false]; omega
theorem hidx_cg {f g : Nat → Int32} {x : Int32} : ∀ (m k : Nat), (∀ i, i < k + m → f i = g i) → hidx f x m k = hidx g x m k
  | 0, k, _ => rfl
  | m + 1, k, h => by simp only [hidx, h k (by omega), hidx_cg m (k + 1) (fun i hi => h i (by omega))]
theorem rs4_L (bs : Nat) (K S : Kp) (x : Int32) {st : Nat} (h : K 4 2 = nI st) (hs : st ≤ 5) : ∀ (m k n : Nat) (y : Int32), k + (m + 1) = st → m + 2 ≤ n → f_RS_heightAt_L4 n (bs + 4) x y (nI k) (gm bs K S) = some (K 6 (hidx (K 5) x m k), gm bs K S) := by
  intro m
  induction m with
  | zero =>
    intro k n y hk hm
    obtain ⟨n, rfl⟩ : ∃ n', n = n' + 2 := ⟨n - 2, by omega⟩
    have e1 : ¬ nI st ≤ nI k := by rw [nI_leI (by omega) (by omega)]; omega
    have e2 : nI k + 1 = nI (k + 1) := nI_1 k
    have e3 : nI st ≤ nI (k + 1) := by rw [nI_leI (by omega) (by omega)]; omega
    by_cases c : K 5 k < x
    · simp only [f_RS_heightAt_L4, g4_2, h, Option.bind_some, e1, if_false, g4_1, a6 bs K S (show k < 5 by omega), g4_0, a5 bs K S (show k < 5 by omega), c, if_true, e2, e3, hidx]
    · simp only [f_RS_heightAt_L4, g4_2, h, Option.bind_some, e1, if_false, g4_1, a6 bs K S (show k < 5 by omega), g4_0, a5 bs K S (show k < 5 by omega), c, hidx]
  | succ m ih =>
    intro k n y hk hm
    obtain ⟨n, rfl⟩ : ∃ n', n = n' + 1 := ⟨n - 1, by omega⟩
    have e1 : ¬ nI st ≤ nI k := by rw [nI_leI (by omega) (by omega)]; omega
    have e2 : nI k + 1 = nI (k + 1) := nI_1 k
    have i1 := ih (k + 1) n (K 6 k) (by omega) (by omega)
    by_cases c : K 5 k < x
    · simp only [f_RS_heightAt_L4, g4_2, h, Option.bind_some, e1, if_false, g4_1, a6 bs K S (show k < 5 by omega), g4_0, a5 bs K S (show k < 5 by omega), c, if_true, e2, i1, hidx]
    · simp only [f_RS_heightAt_L4, g4_2, h, Option.bind_some, e1, if_false, g4_1, a6 bs K S (show k < 5 by omega), g4_0, a5 bs K S (show k < 5 by omega), c, hidx]
theorem rs7_L (bs : Nat) (K S : Kp) (x : Int32) {st : Nat} (h : K 7 2 = nI st) (hs : st ≤ 5) : ∀ (m k n : Nat) (y : Int32), k + (m + 1) = st → m + 2 ≤ n → f_RS_heightAt_L4 n (bs + 7) x y (nI k) (gm bs K S) = some (K 9 (hidx (K 8) x m k), gm bs K S) := by
  intro m
  induction m with
  | zero =>
    intro k n y hk hm
    obtain ⟨n, rfl⟩ : ∃ n', n = n' + 2 := ⟨n - 2, by omega⟩
    have e1 : ¬ nI st ≤ nI k := by rw [nI_leI (by omega) (by omega)]; omega
    have e2 : nI k + 1 = nI (k + 1) := nI_1 k
    have e3 : nI st ≤ nI (k + 1) := by rw [nI_leI (by omega) (by omega)]; omega
    by_cases c : K 8 k < x
    · simp only [f_RS_heightAt_L4, g7_2, h, Option.bind_some, e1, if_false, g7_1, a9 bs K S (show k < 5 by omega), g7_0, a8 bs K S (show k < 5 by omega), c, if_true, e2, e3, hidx]
    · simp only [f_RS_heightAt_L4, g7_2, h, Option.bind_some, e1, if_false, g7_1, a9 bs K S (show k < 5 by omega), g7_0, a8 bs K S (show k < 5 by omega), c, hidx]
  | succ m ih =>
    intro k n y hk hm
    obtain ⟨n, rfl⟩ : ∃ n', n = n' + 1 := ⟨n - 1, by omega⟩
    have e1 : ¬ nI st ≤ nI k := by rw [nI_leI (by omega) (by omega)]; omega
    have e2 : nI k + 1 = nI (k + 1) := nI_1 k
    have i1 := ih (k + 1) n (K 9 k) (by omega) (by omega)
    by_cases c : K 8 k < x
    · simp only [f_RS_heightAt_L4, g7_2, h, Option.bind_some, e1, if_false, g7_1, a9 bs K S (show k < 5 by omega), g7_0, a8 bs K S (show k < 5 by omega), c, if_true, e2, i1, hidx]
    · simp only [f_RS_heightAt_L4, g7_2, h, Option.bind_some, e1, if_false, g7_1, a9 bs K S (show k < 5 by omega), g7_0, a8 bs K S (show k < 5 by omega), c, hidx]
theorem rs_heightAt (bs : Nat) (K S : Kp) (x : Int32) {rs st : Nat} (h : Jr K S rs st) : f_RS_heightAt (bs + rs) x (gm bs K S) = some (hgt S st x, gm bs K S) := by
  obtain ⟨r1, r2, r3, r4, r5, r6, r7, r8⟩ := h
  unfold f_RS_heightAt hgt
  have hb := hidx_b (f := S 2) (x := x) (st - 1) 0
  rcases r1 with rfl | rfl
  · have e := rs4_L bs K S x r6 r4.2 (st - 1) 0 px_fuel 0 (by omega) (by unfold px_fuel; omega)
    rw [nI_0] at e
    simp only [e, Option.bind_some]
    rw [hidx_cg (g := S 2) (st - 1) 0 (fun i hi => (r7 i (by omega)).1)]
    rw [(r7 _ (by omega)).2]
  · have e := rs7_L bs K S x r6 r4.2 (st - 1) 0 px_fuel 0 (by omega) (by unfold px_fuel; omega)
    rw [nI_0] at e
    simp only [e, Option.bind_some]
    rw [hidx_cg (g := S 2) (st - 1) 0 (fun i hi => (r7 i (by omega)).1)]
    rw [(r7 _ (by omega)).2]
theorem rs_ob (bs : Nat) (K S : Kp) {rs st : Nat} (h : Jr K S rs st) : px_ob 3 (gm bs K S) (bs + rs) = some () := by
  rcases h.1 with rfl | rfl
  · exact ob_4 bs K S
  · exact ob_7 bs K S
theorem sb_in (bs : Nat) (K S : Kp) {rs st : Nat} (h : Jr K S rs st) : px_gr 0 2 (gm bs K S) bs = some (bs + rs) := g0_2 bs K S h.2.1 (by have := h.1; omega) (by have := h.1; omega)
theorem mo_heightL (bs : Nat) (K S : Kp) (x : Int32) {st : Nat} (h : S 0 2 = nI st) (hs : 1 ≤ st ∧ st ≤ 5) : ∀ (m k n : Nat), k + (m + 1) = st → m < n → f_MO_height_L11 n (bs + 76) x (nI k) (gm bs K S) = some (nI (hidx (S 2) x m k), gm bs K S) := by
  intro m
  induction m with
  | zero =>
    intro k n hk hm
    obtain ⟨n, rfl⟩ : ∃ n', n = n' + 1 := ⟨n - 1, by omega⟩
    have e2 : nI k + 1 = nI (k + 1) := nI_1 k
    have e3 : nI st ≤ nI (k + 1) := by rw [nI_leI (by omega) (by omega)]; omega
    simp only [f_MO_height_L11, m2, h, Option.bind_some, e2, e3, if_true, hidx]
  | succ m ih =>
    intro k n hk hm
    obtain ⟨n, rfl⟩ : ∃ n', n = n' + 1 := ⟨n - 1, by omega⟩
    have e2 : nI k + 1 = nI (k + 1) := nI_1 k
    have e3 : ¬ nI st ≤ nI (k + 1) := by rw [nI_leI (by omega) (by omega)]; omega
    have i1 := ih (k + 1) n (by omega) (by omega)
    by_cases c : S 2 k < x
    · have c2 : ¬ x ≤ S 2 k := by grind
      simp only [f_MO_height_L11, m2, h, Option.bind_some, e2, e3, if_false, m3, ma2 bs K S (show k < 6 by omega), c2, i1, hidx, c, if_true]
    · have c2 : x ≤ S 2 k := by grind
      simp only [f_MO_height_L11, m2, h, Option.bind_some, e2, e3, if_false, m3, ma2 bs K S (show k < 6 by omega), c2, hidx, c, if_true]
theorem mo_height (bs : Nat) (K S : Kp) (x : Int32) {st : Nat} (h : S 0 2 = nI st) (hs : 1 ≤ st ∧ st ≤ 5) : f_MO_height (bs + 76) x (gm bs K S) = if 1 ≤ x ∧ x ≤ 999 then some (hgt S st x, gm bs K S) else some (-1, gm bs K S) := by
  unfold f_MO_height hgt
  simp only [q_isSpeed]
  have hb := hidx_b (f := S 2) (x := x) (st - 1) 0
  by_cases c : 1 ≤ x ∧ x ≤ 999
  · have e := mo_heightL bs K S x h hs (st - 1) 0 px_fuel (by omega) (by unfold px_fuel; omega)
    rw [nI_0] at e
    simp only [c, and_self, if_true, Option.bind_some, e, m4, ma3 bs K S (show hidx (S 2) x (st - 1) 0 < 6 by omega)]
    rfl
  · simp only [c, if_false, Option.bind_some, if_true]
theorem op_height {bs : Nat} {K S : Kp} (x : Int32) (h : J K S) : ∃ r K' S', f_SB_height bs x (gm bs K S) = some (r, gm bs K' S) ∧ f_MO_height (bs + 76) x (gm bs K' S) = some (r, gm bs K' S') ∧ J K' S' := by
  obtain ⟨tl, rs, st, np, nn, nw, nb, jt, jr, jl, jn, jw, jb, js⟩ := id h
  have e2 := mo_height bs K S x jr.2.2.2.2.1 jr.2.2.2.1
  by_cases c : 1 ≤ x ∧ x ≤ 999
  · refine ⟨hgt S st x, K, S, ?_, ?_, h⟩
    · unfold f_SB_height
      simp only [w_isSpeed, c, and_self, if_true, Option.bind_some, sb_in bs K S jr, rs_ob bs K S jr, rs_heightAt bs K S x jr]
      rfl
    · rw [e2, if_pos c]
  · refine ⟨-1, K, S, ?_, ?_, h⟩
    · unfold f_SB_height
      simp only [w_isSpeed, c, if_false, Option.bind_some, if_true]
    · rw [e2, if_neg c]
/-! width -/
def krn (S : Kp) (np : Nat) (a b : Int32) : Int32 := if pfind (S 7) (S 8) a b np 0 < np then S 9 (pfind (S 7) (S 8) a b np 0) else 0
def bsum (S : Kp) (np i ln : Nat) : Nat → Int32
  | 0 => 0
  | k + 1 => if k + 1 < ln then (bsum S np i ln k + S 6 (S 11 (12 * i + k)).toNatClampNeg) + krn S np (S 11 (12 * i + k)) (S 11 (12 * i + (k + 1))) else bsum S np i ln k + S 6 (S 11 (12 * i + k)).toNatClampNeg
theorem sgn {x : Int32} (h1 : 32 ≤ x) (h2 : x ≤ 126) : ∃ u, 32 ≤ u ∧ u ≤ 126 ∧ x = nI u := by
  obtain ⟨u, hu, rfl⟩ := nIx (show 0 ≤ x by grind)
  rw [li32, nI_leI (by omega) hu] at h1
  rw [li126, nI_leI hu (by omega)] at h2
  exact ⟨u, h1, h2, rfl⟩
theorem le_kernOf (bs : Nat) (K S : Kp) (a b : Int32) {np : Nat} (h : Jl K S np) : f_LE_kernOf (bs + 10) a b (gm bs K S) = some (krn S np a b, gm bs K S) := by
  unfold f_LE_kernOf krn
  have hpb := pfind_b (f := S 7) (g := S 8) (a := a) (b := b) np 0
  obtain ⟨l1, l2, l3, l4, l5⟩ := id h
  simp only [ob_10, Option.bind_some, le_pairOf bs K S a b h, g10_4, l3]
  generalize pfind (S 7) (S 8) a b np 0 = p at *
  by_cases c : p < np
  · have e1 : ¬ nI np ≤ nI p := by rw [nI_leI (by omega) (by omega)]; omega
    simp only [e1, c, if_true, if_false, g10_3, Option.bind_some, a14 bs K S (show p < 60 by omega), (l4 p c).2.2]
  · have e1 : nI np ≤ nI p := by rw [nI_leI (by omega) (by omega)]; omega
    simp only [e1, c, if_true, if_false]
theorem le_startL (bs : Nat) (K S : Kp) {np i ln t : Nat} (h : Jl K S np) (hi : i < 10) (hn : JnOne K S i ln) (ht : t ≤ ln) : ∀ (m k n : Nat), k + m = t → m < n → f_LE_startOf_L5 n (bs + 10) (bs + (32 + 2 * i)) (nI t) (bsum S np i ln k) (nI k) (gm bs K S) = some (bsum S np i ln t, gm bs K S) := by
  obtain ⟨q1, q2, q3, q4, q5, q6⟩ := id hn
  obtain ⟨l1, l2, l3, l4, l5⟩ := id h
  intro m
  induction m with
  | zero =>
    intro k n hk hm
    obtain ⟨n, rfl⟩ : ∃ n', n = n' + 1 := ⟨n - 1, by omega⟩
    obtain rfl : k = t := by omega
    have e1 : nI k ≤ nI k := nI_le (Nat.le_refl k) (by omega)
    simp only [f_LE_startOf_L5, e1, if_true]
  | succ m ih =>
    intro k n hk hm
    obtain ⟨n, rfl⟩ : ∃ n', n = n' + 1 := ⟨n - 1, by omega⟩
    have e1 : ¬ nI t ≤ nI k := by rw [nI_leI (by omega) (by omega)]; omega
    have e2 : nI k + 1 = nI (k + 1) := nI_1 k
    have i1 := ih (k + 1) n (by omega) (by omega)
    obtain ⟨s1, s2, s3⟩ := q5 k (by omega)
    obtain ⟨u, u1, u2, u3⟩ := sgn s2 s3
    have e3 : nI u - 32 = nI (u - 32) := by rw [li32, pk_sub u1]
    have e4 : K 11 (u - 32) = S 6 u := by rw [l5 (u - 32) (by omega), show u - 32 + 32 = u by omega]
    have e5 : (nI u).toNatClampNeg = u := nI_clamp (by omega)
    by_cases c : k + 1 < ln
    · have e6 : ¬ nI ln ≤ nI (k + 1) := by rw [nI_leI (by omega) (by omega)]; omega
      have e7 := (q5 (k + 1) c).1
      simp only [bsum, c, if_true, u3, e5] at i1
      simp only [f_LE_startOf_L5, e1, if_false, Option.bind_some, g10_0, gna_0 bs K S hi, ans bs K S hi (show k < 12 by omega), s1, u3, e3, a11 bs K S (show u - 32 < 95 by omega), e4, gna_1 bs K S hi, q4, e2, e6, ans bs K S hi (show k + 1 < 12 by omega), e7, ob_10, le_kernOf bs K S _ _ h, i1]
    · have e6 : nI ln ≤ nI (k + 1) := by rw [nI_leI (by omega) (by omega)]; omega
      simp only [bsum, c, if_false, u3, e5] at i1
      simp only [f_LE_startOf_L5, e1, if_false, Option.bind_some, g10_0, gna_0 bs K S hi, ans bs K S hi (show k < 12 by omega), s1, u3, e3, a11 bs K S (show u - 32 < 95 by omega), e4, gna_1 bs K S hi, q4, e2, e6, if_true, i1]
theorem le_startOf (bs : Nat) (K S : Kp) {np i ln t : Nat} (h : Jl K S np) (hi : i < 10) (hn : JnOne K S i ln) (ht : t ≤ ln) : f_LE_startOf (bs + 10) (bs + (32 + 2 * i)) (nI t) (gm bs K S) = some (bsum S np i ln t, gm bs K S) := by
  unfold f_LE_startOf
  have := hn.2.1
  have e := le_startL bs K S h hi hn ht t 0 px_fuel (by omega) (by unfold px_fuel; omega)
  rw [nI_0] at e
  simp only [bsum] at e
  simp only [e, Option.bind_some]
theorem le_fieldOf (bs : Nat) (K S : Kp) {np i ln : Nat} (h : Jl K S np) (hi : i < 10) (hn : JnOne K S i ln) : f_LE_fieldOf (bs + 10) (bs + (32 + 2 * i)) (gm bs K S) = some (bsum S np i ln ln, gm bs K S) := by
  unfold f_LE_fieldOf
  simp only [gna_1 bs K S hi, hn.2.2.2.1, ob_10, Option.bind_some, le_startOf bs K S h hi hn (Nat.le_refl ln)]
theorem mo_letter (bs : Nat) (K S : Kp) {i k : Nat} (hi : i < 10) (hk : k < 12) : f_MO_letter (bs + 76) (nI i) (nI k) (gm bs K S) = some (S 11 (12 * i + k), gm bs K S) := by
  unfold f_MO_letter
  have e3 : 12 * nI i + nI k = nI (12 * i + k) := by rw [li12, pk_mul, nI_add]
  simp only [m23, Option.bind_some, e3, ma11 bs K S (show 12 * i + k < 120 by omega)]
theorem mo_beforeL (bs : Nat) (K0 K S : Kp) {np i ln t : Nat} (l2 : S 0 17 = nI np) (l1 : np ≤ 60) (hi : i < 10) (hn : JnOne K0 S i ln) (ht : t ≤ ln) : ∀ (m k n : Nat), k + m = t → m < n → f_MO_before_L5 n (bs + 76) (nI i) (nI t) (bsum S np i ln k) (nI k) (gm bs K S) = some (bsum S np i ln t, gm bs K S) := by
  obtain ⟨q1, q2, q3, q4, q5, q6⟩ := id hn
  intro m
  induction m with
  | zero =>
    intro k n hk hm
    obtain ⟨n, rfl⟩ : ∃ n', n = n' + 1 := ⟨n - 1, by omega⟩
    obtain rfl : k = t := by omega
    have e1 : nI k ≤ nI k := nI_le (Nat.le_refl k) (by omega)
    simp only [f_MO_before_L5, e1, if_true]
  | succ m ih =>
    intro k n hk hm
    obtain ⟨n, rfl⟩ : ∃ n', n = n' + 1 := ⟨n - 1, by omega⟩
    have e1 : ¬ nI t ≤ nI k := by rw [nI_leI (by omega) (by omega)]; omega
    have e2 : nI k + 1 = nI (k + 1) := nI_1 k
    have i1 := ih (k + 1) n (by omega) (by omega)
    obtain ⟨s1, s2, s3⟩ := q5 k (by omega)
    obtain ⟨u, u1, u2, u3⟩ := sgn s2 s3
    have e5 : (nI u).toNatClampNeg = u := nI_clamp (by omega)
    by_cases c : k + 1 < ln
    · have e6 : ¬ nI ln ≤ nI (k + 1) := by rw [nI_leI (by omega) (by omega)]; omega
      have hpb := pfind_b (f := S 7) (g := S 8) (a := nI u) (b := S 11 (12 * i + (k + 1))) np 0
      by_cases c2 : pfind (S 7) (S 8) (nI u) (S 11 (12 * i + (k + 1))) np 0 < np
      · have e7 : ¬ nI np ≤ nI (pfind (S 7) (S 8) (nI u) (S 11 (12 * i + (k + 1))) np 0) := by rw [nI_leI (by omega) (by omega)]; omega
        simp only [bsum, c, if_true, u3, e5, krn, c2] at i1
        simp only [f_MO_before_L5, e1, if_false, Option.bind_some, m16, m_ob, mo_letter bs K S hi (show k < 12 by omega), u3, ma6 bs K S (show u < 128 by omega), m22, ma10 bs K S (show i < 10 by omega), q3, e2, e6, mo_letter bs K S hi (show k + 1 < 12 by omega), mo_pairOf bs K S _ _ l2 l1, m17, l2, e7, m20, ma9 bs K S (show pfind (S 7) (S 8) (nI u) (S 11 (12 * i + (k + 1))) np 0 < 60 by omega), i1]
      · have e7 : nI np ≤ nI (pfind (S 7) (S 8) (nI u) (S 11 (12 * i + (k + 1))) np 0) := by rw [nI_leI (by omega) (by omega)]; omega
        simp only [bsum, c, if_true, u3, e5, krn, c2, if_false] at i1
        simp only [f_MO_before_L5, e1, if_false, Option.bind_some, m16, m_ob, mo_letter bs K S hi (show k < 12 by omega), u3, ma6 bs K S (show u < 128 by omega), m22, ma10 bs K S (show i < 10 by omega), q3, e2, e6, mo_letter bs K S hi (show k + 1 < 12 by omega), mo_pairOf bs K S _ _ l2 l1, m17, l2, e7, if_true, i1]
    · have e6 : nI ln ≤ nI (k + 1) := by rw [nI_leI (by omega) (by omega)]; omega
      simp only [bsum, c, if_false, u3, e5] at i1
      simp only [f_MO_before_L5, e1, if_false, Option.bind_some, m16, m_ob, mo_letter bs K S hi (show k < 12 by omega), u3, ma6 bs K S (show u < 128 by omega), m22, ma10 bs K S (show i < 10 by omega), q3, e2, e6, if_true, i1]
theorem mo_before (bs : Nat) (K0 K S : Kp) {np i ln t : Nat} (l2 : S 0 17 = nI np) (l1 : np ≤ 60) (hi : i < 10) (hn : JnOne K0 S i ln) (ht : t ≤ ln) : f_MO_before (bs + 76) (nI i) (nI t) (gm bs K S) = some (bsum S np i ln t, gm bs K S) := by
  unfold f_MO_before
  have := hn.2.1
  have e := mo_beforeL bs K0 K S l2 l1 hi hn ht t 0 px_fuel (by omega) (by unfold px_fuel; omega)
  rw [nI_0] at e
  simp only [bsum] at e
  simp only [e, Option.bind_some]
theorem mo_width (bs : Nat) (K0 K S : Kp) {np nn i ln st : Nat} (l2 : S 0 17 = nI np) (l1 : np ≤ 60) (n2 : S 0 21 = nI nn) (hnn : nn ≤ 10) (hi : i < nn) (hn : JnOne K0 S i ln) (h : S 0 2 = nI st) (hs : 1 ≤ st ∧ st ≤ 5) {x : Int32} (hx : 1 ≤ x ∧ x ≤ 999) : f_MO_width (bs + 76) (nI i) x (gm bs K S) = some (bsum S np i ln ln * hgt S st x, gm bs K S) := by
  unfold f_MO_width
  have c1 : 0 ≤ nI i ∧ nI i < nI nn := ⟨nI_pos' (by omega), by rw [nI_ltI (by omega) (by omega)]; exact hi⟩
  have e2 := mo_height bs K S x h hs
  rw [if_pos hx] at e2
  simp only [m_ob, q_isName bs K S _ n2, c1, q_isSpeed, hx, and_self, if_true, if_false, Option.bind_some, m22, ma10 bs K S (show i < 10 by omega), hn.2.2.1, mo_before bs K0 K S l2 l1 (show i < 10 by omega) hn (Nat.le_refl ln), e2]
  rfl
theorem op_width {bs : Nat} {K S : Kp} (x y : Int32) (h : J K S) : ∃ r K' S', f_SB_width bs x y (gm bs K S) = some (r, gm bs K' S) ∧ f_MO_width (bs + 76) x y (gm bs K' S) = some (r, gm bs K' S') ∧ J K' S' := by
  obtain ⟨tl, rs, st, np, nn, nw, nb, jt, jr, jl, jn, jw, jb, js⟩ := id h
  obtain ⟨n1, n2, n3, n4, n5⟩ := id jn
  by_cases c1 : 0 ≤ x ∧ x < nI nn
  · obtain ⟨i, hi, rfl⟩ := nIr c1.1 c1.2 (by omega)
    obtain ⟨ln, hn⟩ := n4 i hi
    by_cases c2 : 1 ≤ y ∧ y ≤ 999
    · refine ⟨bsum S np i ln ln * hgt S st y, K, S, ?_, mo_width bs K K S jl.2.1 jl.1 n2 n1 hi hn jr.2.2.2.2.1 jr.2.2.2.1 c2, h⟩
      unfold f_SB_width
      simp only [ob_0, w_isName bs K S _ n3 n1, c1, w_isSpeed, c2, and_self, if_true, if_false, Option.bind_some, g0_4, g0_5, ar15 bs K S (show i < 10 by omega), ob_10, le_fieldOf bs K S jl (show i < 10 by omega) hn, sb_in bs K S jr, rs_ob bs K S jr, rs_heightAt bs K S y jr]
      rfl
    · refine ⟨-1, K, S, ?_, ?_, h⟩
      · unfold f_SB_width
        simp only [ob_0, w_isName bs K S _ n3 n1, c1, w_isSpeed, c2, and_self, if_true, if_false, Option.bind_some]
        rfl
      · unfold f_MO_width
        simp only [m_ob, q_isName bs K S _ n2, c1, q_isSpeed, c2, and_self, if_true, if_false, Option.bind_some]
        rfl
  · refine ⟨-1, K, S, ?_, ?_, h⟩
    · unfold f_SB_width
      simp only [ob_0, w_isName bs K S _ n3 n1, c1, if_false, Option.bind_some, if_true]
    · unfold f_MO_width
      simp only [m_ob, q_isName bs K S _ n2, c1, if_false, Option.bind_some, if_true]
