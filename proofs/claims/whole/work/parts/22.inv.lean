/-! WHAT HOLDS BETWEEN THE CLASS'S CELLS (K) AND THE REFERENCE'S (S) -/
def Jt (K S : Kp) (tl : Nat) : Prop := tl ≤ 100 ∧ S 0 0 = nI tl ∧ K 1 1 = nI tl ∧ ∀ i, i < tl → K 2 i = S 1 i ∧ 32 ≤ S 1 i ∧ S 1 i ≤ 126
def Jr (K S : Kp) (rs st : Nat) : Prop := (rs = 4 ∨ rs = 7) ∧ K 0 2 = nI rs ∧ K 0 3 = nI (11 - rs) ∧ (1 ≤ st ∧ st ≤ 5) ∧ S 0 2 = nI st ∧ K rs 2 = nI st ∧ (∀ i, i < st → K (rs + 1) i = S 2 i ∧ K (rs + 2) i = S 3 i) ∧ K rs 3 = S 0 5 ∧ K rs 4 = S 0 6 ∧ K rs 5 = S 0 7 ∧ (S 0 7 = 110 ∨ S 0 7 = 102 ∨ S 0 7 = 97 ∨ S 0 7 = 116)
def Jl (K S : Kp) (np : Nat) : Prop := np ≤ 60 ∧ S 0 17 = nI np ∧ K 10 4 = nI np ∧ (∀ i, i < np → K 12 i = S 7 i ∧ K 13 i = S 8 i ∧ K 14 i = S 9 i) ∧ ∀ u, u < 95 → K 11 u = S 6 (u + 32)
def JnOne (K S : Kp) (i ln : Nat) : Prop := 1 ≤ ln ∧ ln ≤ 12 ∧ S 10 i = nI ln ∧ K (32 + 2 * i) 1 = nI ln ∧ (∀ j, j < ln → K (33 + 2 * i) j = S 11 (12 * i + j) ∧ 32 ≤ S 11 (12 * i + j) ∧ S 11 (12 * i + j) ≤ 126) ∧ K (32 + 2 * i) 2 = S 12 i ∧ (S 12 i = -1 ∨ ∃ g, g < 10 ∧ S 12 i = nI g)
def Jn (K S : Kp) (nn : Nat) : Prop := nn ≤ 10 ∧ S 0 21 = nI nn ∧ K 0 6 = nI nn ∧ (∀ i, i < nn → ∃ ln, JnOne K S i ln) ∧ ∀ i, nn ≤ i → i < 10 → K (32 + 2 * i) 2 = -1
def JwOne (K S : Kp) (w : Nat) : Prop := K 17 w = S 13 w ∧ K 18 w = S 14 w ∧ K 19 w = S 15 w ∧ (∃ a, a < 10 ∧ S 13 w = nI a) ∧ (∃ a, a < 10 ∧ S 14 w = nI a) ∧ ∃ a, 1 ≤ a ∧ a ≤ 100000 ∧ S 15 w = nI a
def Jw (K S : Kp) (nw : Nat) : Prop := nw ≤ 24 ∧ S 0 25 = nI nw ∧ K 16 5 = nI nw ∧ ∀ w, w < nw → JwOne K S w
def JbOne (K S : Kp) (b nn nw : Nat) : Prop := (∃ w, w < nw ∧ S 16 b = nI w ∧ K (52 + 3 * b) 3 = nI w) ∧ (∃ ln, ln ≤ 5 ∧ S 17 b = nI ln ∧ K (52 + 3 * b) 2 = nI ln ∧ ∀ l, l < ln → (∃ n, n < nn ∧ S 18 (5 * b + l) = nI n ∧ K (53 + 3 * b) l = nI n) ∧ K (54 + 3 * b) l = S 19 (5 * b + l)) ∧ K (52 + 3 * b) 4 = S 20 b
def Jb (K S : Kp) (nb nn nw : Nat) : Prop := nb ≤ 8 ∧ S 0 29 = nI nb ∧ K 0 9 = nI nb ∧ (∀ b, b < nb → JbOne K S b nn nw) ∧ ∀ b, nb ≤ b → b < 8 → K (52 + 3 * b) 2 = 0 ∧ K (52 + 3 * b) 4 = 0
/-- a name is shown on a way: a board there has it -/
def shw (S : Kp) (nb w n : Nat) : Prop := ∃ b, b < nb ∧ S 16 b = nI w ∧ ∃ l, nI l < S 17 b ∧ l < 5 ∧ S 18 (5 * b + l) = nI n
def Js (K S : Kp) (nb : Nat) : Prop := ∀ w, w < 24 → ∀ n, n < 10 → (¬ (K 20 w &&& (1 <<< (nI n &&& 31))) = 0 ↔ shw S nb w n)
def J (K S : Kp) : Prop := ∃ tl rs st np nn nw nb, Jt K S tl ∧ Jr K S rs st ∧ Jl K S np ∧ Jn K S nn ∧ Jw K S nw ∧ Jb K S nb nn nw ∧ Js K S nb
theorem Jt.cg {K S K' S' : Kp} {tl : Nat} (h : Jt K S tl) (a : S' 0 0 = S 0 0) (b : K' 1 = K 1) (c : K' 2 = K 2) (d : S' 1 = S 1) : Jt K' S' tl := by
  unfold Jt at *; rw [a, b, c, d]; exact h
theorem Jr.cg {K S K' S' : Kp} {rs st : Nat} (h : Jr K S rs st) (a2 : K' 0 2 = K 0 2) (a3 : K' 0 3 = K 0 3) (b : ∀ i, 4 ≤ i → i ≤ 9 → K' i = K i) (c2 : S' 0 2 = S 0 2) (c5 : S' 0 5 = S 0 5) (c6 : S' 0 6 = S 0 6) (c7 : S' 0 7 = S 0 7) (d2 : S' 2 = S 2) (d3 : S' 3 = S 3) : Jr K' S' rs st := by
  have hrs := h.1
  unfold Jr at *
  rw [a2, a3, c2, c5, c6, c7, d2, d3, b rs (by omega) (by omega), b (rs + 1) (by omega) (by omega), b (rs + 2) (by omega) (by omega)]
  exact h
theorem Jl.cg {K S K' S' : Kp} {np : Nat} (h : Jl K S np) (a : K' 10 4 = K 10 4) (b : ∀ i, 11 ≤ i → i ≤ 14 → K' i = K i) (c : S' 0 17 = S 0 17) (d : ∀ i, 6 ≤ i → i ≤ 9 → S' i = S i) : Jl K' S' np := by
  unfold Jl at *
  rw [a, c, b 11 (by omega) (by omega), b 12 (by omega) (by omega), b 13 (by omega) (by omega), b 14 (by omega) (by omega), d 6 (by omega) (by omega), d 7 (by omega) (by omega), d 8 (by omega) (by omega), d 9 (by omega) (by omega)]
  exact h
theorem Jn.cg {K S K' S' : Kp} {nn : Nat} (h : Jn K S nn) (a : K' 0 6 = K 0 6) (b : ∀ i, 32 ≤ i → i < 52 → K' i = K i) (c : S' 0 21 = S 0 21) (d : ∀ i, 10 ≤ i → i ≤ 12 → S' i = S i) : Jn K' S' nn := by
  obtain ⟨h1, h2, h3, h4, h5⟩ := h
  refine ⟨h1, by rw [c]; exact h2, by rw [a]; exact h3, fun i hi => ?_, fun i h6 h7 => by rw [b _ (by omega) (by omega)]; exact h5 i h6 h7⟩
  obtain ⟨ln, h⟩ := h4 i hi
  refine ⟨ln, ?_⟩
  unfold JnOne at *
  rw [b (32 + 2 * i) (by omega) (by omega), b (33 + 2 * i) (by omega) (by omega), d 10 (by omega) (by omega), d 11 (by omega) (by omega), d 12 (by omega) (by omega)]
  exact h
theorem Jw.cg {K S K' S' : Kp} {nw : Nat} (h : Jw K S nw) (a : K' 16 5 = K 16 5) (b : ∀ i, 17 ≤ i → i ≤ 19 → K' i = K i) (c : S' 0 25 = S 0 25) (d : ∀ i, 13 ≤ i → i ≤ 15 → S' i = S i) : Jw K' S' nw := by
  obtain ⟨h1, h2, h3, h4⟩ := h
  refine ⟨h1, by rw [c]; exact h2, by rw [a]; exact h3, fun i hi => ?_⟩
  have h := h4 i hi
  unfold JwOne at *
  rw [b 17 (by omega) (by omega), b 18 (by omega) (by omega), b 19 (by omega) (by omega), d 13 (by omega) (by omega), d 14 (by omega) (by omega), d 15 (by omega) (by omega)]
  exact h
theorem Jb.cg {K S K' S' : Kp} {nb nn nw : Nat} (h : Jb K S nb nn nw) (a : K' 0 9 = K 0 9) (b : ∀ i, 52 ≤ i → i < 76 → K' i = K i) (c : S' 0 29 = S 0 29) (d : ∀ i, 16 ≤ i → i ≤ 20 → S' i = S i) : Jb K' S' nb nn nw := by
  obtain ⟨h1, h2, h3, h4, h5⟩ := h
  refine ⟨h1, by rw [c]; exact h2, by rw [a]; exact h3, fun i hi => ?_, fun i h6 h7 => by rw [b _ (by omega) (by omega)]; exact h5 i h6 h7⟩
  have h := h4 i hi
  unfold JbOne at *
  rw [b (52 + 3 * i) (by omega) (by omega), b (53 + 3 * i) (by omega) (by omega), b (54 + 3 * i) (by omega) (by omega), d 16 (by omega) (by omega), d 17 (by omega) (by omega), d 18 (by omega) (by omega), d 19 (by omega) (by omega), d 20 (by omega) (by omega)]
  exact h
theorem Js.cg {K S K' S' : Kp} {nb : Nat} (h : Js K S nb) (a : K' 20 = K 20) (d : ∀ i, 16 ≤ i → i ≤ 18 → S' i = S i) : Js K' S' nb := by
  unfold Js shw at *
  rw [a, d 16 (by omega) (by omega), d 17 (by omega) (by omega), d 18 (by omega) (by omega)]
  exact h
theorem Jb.mono {K S : Kp} {nb nn nw nn' nw' : Nat} (h : Jb K S nb nn nw) (h1 : nn ≤ nn') (h2 : nw ≤ nw') : Jb K S nb nn' nw' := by
  obtain ⟨a, b, c, d, e⟩ := h
  refine ⟨a, b, c, fun i hi => ?_, e⟩
  obtain ⟨⟨w, q1, q2⟩, ⟨ln, q3, q4, q5, q6⟩, q7⟩ := d i hi
  refine ⟨⟨w, by omega, q2⟩, ⟨ln, q3, q4, q5, fun l hl => ?_⟩, q7⟩
  obtain ⟨⟨n, r1, r2⟩, r3⟩ := q6 l hl
  exact ⟨⟨n, by omega, r2⟩, r3⟩
/-- a row that no write touches -/
theorem u_n {k : Kp} {i j a : Nat} {v : Int32} (h : a ≠ i) : up2 k i j v a = k a := up2_n h
theorem nIx {x : Int32} (h : 0 ≤ x) : ∃ j : Nat, j < 2 ^ 31 ∧ x = nI j := nI_of (by grind)
