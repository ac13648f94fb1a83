/-! scratch cells of the class and of the reference -/
def scr (i : Nat) : Prop := i = 3 ∨ i = 21 ∨ (24 ≤ i ∧ i ≤ 31)
def Ky (K K' : Kp) : Prop := ∀ i, ¬ scr i → i ≠ 28 → K' i = K i
def Mz (S S' : Kp) : Prop := (∀ i, 1 ≤ i → i ≤ 20 → i ≠ 4 → i ≠ 5 → S' i = S i) ∧ ∀ c, ¬ (8 ≤ c ∧ c ≤ 15) → c < 38 → S' 0 c = S 0 c
theorem Ky.rf (K : Kp) : Ky K K := fun _ _ _ => rfl
theorem Ky.tr {K K1 K2 : Kp} (a : Ky K K1) (b : Ky K1 K2) : Ky K K2 := fun i h h2 => (b i h h2).trans (a i h h2)
theorem Ky.rw {K K' : Kp} (h : Ky K K') {i : Nat} (hi : scr i) (r : Nat → Int32) : Ky K (rw2 K' i r) := fun j hj h2 => by
  have e : j ≠ i := by rintro rfl; exact hj hi
  rw [rw2_n e]; exact h j hj h2
theorem Ky.up {K K' : Kp} (h : Ky K K') {i : Nat} (hi : scr i) (j : Nat) (v : Int32) : Ky K (up2 K' i j v) := h.rw hi _
theorem Ky.at {K K' : Kp} (h : Ky K K') {i : Nat} (hi : ¬ scr i) (h2 : i ≠ 28) : K' i = K i := h i hi h2
theorem Ky.jt {K K' S : Kp} {tl : Nat} (y : Ky K K') (h : Jt K S tl) : Jt K' S tl := h.cg rfl (y 1 (by unfold scr; omega) (by omega)) (y 2 (by unfold scr; omega) (by omega)) rfl
theorem Ky.jr {K K' S : Kp} {rs st : Nat} (y : Ky K K') (h : Jr K S rs st) : Jr K' S rs st := h.cg (by rw [y 0 (by unfold scr; omega) (by omega)]) (by rw [y 0 (by unfold scr; omega) (by omega)]) (fun i h1 h2 => y i (by unfold scr; omega) (by omega)) rfl rfl rfl rfl rfl rfl
theorem Ky.jl {K K' S : Kp} {np : Nat} (y : Ky K K') (h : Jl K S np) : Jl K' S np := h.cg (by rw [y 10 (by unfold scr; omega) (by omega)]) (fun i h1 h2 => y i (by unfold scr; omega) (by omega)) rfl (fun _ _ _ => rfl)
theorem Ky.jn {K K' S : Kp} {nn : Nat} (y : Ky K K') (h : Jn K S nn) : Jn K' S nn := h.cg (by rw [y 0 (by unfold scr; omega) (by omega)]) (fun i h1 h2 => y i (by unfold scr; omega) (by omega)) rfl (fun _ _ _ => rfl)
theorem Ky.jw {K K' S : Kp} {nw : Nat} (y : Ky K K') (h : Jw K S nw) : Jw K' S nw := h.cg (by rw [y 16 (by unfold scr; omega) (by omega)]) (fun i h1 h2 => y i (by unfold scr; omega) (by omega)) rfl (fun _ _ _ => rfl)
theorem Ky.jb {K K' S : Kp} {nb nn nw : Nat} (y : Ky K K') (h : Jb K S nb nn nw) : Jb K' S nb nn nw := h.cg (by rw [y 0 (by unfold scr; omega) (by omega)]) (fun i h1 h2 => y i (by unfold scr; omega) (by omega)) rfl (fun _ _ _ => rfl)
theorem Ky.js {K K' S : Kp} {nb : Nat} (y : Ky K K') (h : Js K S nb) : Js K' S nb := h.cg (y 20 (by unfold scr; omega) (by omega)) (fun _ _ _ => rfl)
theorem Ky.j1 {K K' S : Kp} {i ln : Nat} (y : Ky K K') (hi : i < 10) (h : JnOne K S i ln) : JnOne K' S i ln := by
  unfold JnOne at *
  rw [y (32 + 2 * i) (by unfold scr; omega) (by omega), y (33 + 2 * i) (by unfold scr; omega) (by omega)]
  exact h
theorem Ky.J {K K' S : Kp} (y : Ky K K') (h : J K S) : J K' S := by
  obtain ⟨tl, rs, st, np, nn, nw, nb, jt, jr, jl, jn, jw, jb, js⟩ := h
  exact ⟨tl, rs, st, np, nn, nw, nb, y.jt jt, y.jr jr, y.jl jl, y.jn jn, y.jw jw, y.jb jb, y.js js⟩
theorem Mz.J {K S S' : Kp} (y : Mz S S') (h : J K S) : J K S' := by
  obtain ⟨tl, rs, st, np, nn, nw, nb, jt, jr, jl, jn, jw, jb, js⟩ := h
  refine ⟨tl, rs, st, np, nn, nw, nb, jt.cg ?_ rfl rfl ?_, jr.cg rfl rfl (fun _ _ _ => rfl) ?_ ?_ ?_ ?_ ?_ ?_, jl.cg rfl (fun _ _ _ => rfl) ?_ ?_, jn.cg rfl (fun _ _ _ => rfl) ?_ ?_, jw.cg rfl (fun _ _ _ => rfl) ?_ ?_, jb.cg rfl (fun _ _ _ => rfl) ?_ ?_, js.cg rfl ?_⟩
  all_goals first | (exact y.2 _ (by omega) (by omega)) | (exact y.1 _ (by omega) (by omega) (by omega) (by omega)) | (intro i h1 h2; exact y.1 i (by omega) (by omega) (by omega) (by omega))
theorem Kx_y (K : Kp) (r q p : Nat → Int32) : Ky K (Kx K r q p) := fun i h h2 => Kx_n (fun z => h (by unfold scr; omega)) (fun z => h (by unfold scr; omega)) (fun z => h (by unfold scr; omega))
theorem Sx_z (S : Kp) (r q p : Nat → Int32) : Mz S (Sx S r q p) := ⟨fun i _ h _ _ => Sx_n h, fun c _ _ => by rw [Sx_n (by omega)]⟩
theorem sb_isLine (bs : Nat) (K S : Kp) {nb nn nw b ln : Nat} (jb : Jb K S nb nn nw) (hb : b < nb) (h : K (52 + 3 * b) 2 = nI ln) (hl : ln ≤ 5) (x : Int32) : f_SB_isLine bs (nI b) x (gm bs K S) = if 0 ≤ x ∧ x < nI ln then some (1, gm bs K S) else some (0, gm bs K S) := by
  have hb8 : b < 8 := by have := jb.1; omega
  have hbb := nIb hl (by omega)
  have c1 : 0 ≤ nI b ∧ nI b < nI nb := ⟨nI_pos' (by omega), by have := jb.1; rw [nI_ltI (by omega) (by omega)]; exact hb⟩
  unfold f_SB_isLine
  simp only [ob_0, w_isBoard bs K S _ jb.2.2.1 jb.1, c1, and_self, if_true, Option.bind_some, show ¬ (1 : Int32) = 0 by decide, if_false, g0_8, ar22 bs K S hb8, gbo_2 bs K S hb8, h, w_isWithin]
  by_cases c : 0 ≤ x ∧ x < nI ln
  · have c2 : 0 ≤ x ∧ x ≤ nI ln - 1 := by rw [← li5] at hbb; grind
    simp [c, c2]
  · have c2 : ¬ (0 ≤ x ∧ x ≤ nI ln - 1) := by rw [← li5] at hbb; grind
    simp [c, c2]
theorem mo_isLine (bs : Nat) (K S : Kp) {nb b ln : Nat} (h1 : S 0 29 = nI nb) (hn : nb ≤ 8) (hb : b < nb) (h : S 17 b = nI ln) (x : Int32) : f_MO_isLine (bs + 76) (nI b) x (gm bs K S) = if 0 ≤ x ∧ x < nI ln then some (1, gm bs K S) else some (0, gm bs K S) := by
  have c1 : 0 ≤ nI b ∧ nI b < nI nb := ⟨nI_pos' (by omega), by rw [nI_ltI (by omega) (by omega)]; exact hb⟩
  unfold f_MO_isLine
  simp only [m_ob, q_isBoard bs K S _ h1, c1, and_self, if_true, Option.bind_some, show ¬ (1 : Int32) = 0 by decide, if_false, m31, ma17 bs K S (show b < 8 by omega), h]
  by_cases d : x < 0
  · have c : ¬ (0 ≤ x ∧ x < nI ln) := by grind
    simp only [c, d, if_true, if_false]
  · by_cases d2 : nI ln ≤ x
    · have c : ¬ (0 ≤ x ∧ x < nI ln) := by grind
      simp only [c, d, d2, if_true, if_false]
    · have c : 0 ≤ x ∧ x < nI ln := by grind
      simp only [c, d, d2, and_self, if_true, if_false]
theorem rs_5 (bs : Nat) (K S : Kp) {rs st : Nat} (h : Jr K S rs st) : px_gi 3 5 (gm bs K S) (bs + rs) = some (S 0 7) := by
  obtain ⟨r1, r2, r3, r4, r5, r6, r7, r8, r9, r10, r11⟩ := h
  rw [← r10]
  rcases r1 with rfl | rfl
  · exact g4_5 bs K S
  · exact g7_5 bs K S
theorem rs_3 (bs : Nat) (K S : Kp) {rs st : Nat} (h : Jr K S rs st) : px_gi 3 3 (gm bs K S) (bs + rs) = some (S 0 5) := by
  obtain ⟨r1, r2, r3, r4, r5, r6, r7, r8, r9, r10, r11⟩ := h
  rw [← r8]
  rcases r1 with rfl | rfl
  · exact g4_3 bs K S
  · exact g7_3 bs K S
theorem rs_4 (bs : Nat) (K S : Kp) {rs st : Nat} (h : Jr K S rs st) : px_gi 3 4 (gm bs K S) (bs + rs) = some (S 0 6) := by
  obtain ⟨r1, r2, r3, r4, r5, r6, r7, r8, r9, r10, r11⟩ := h
  rw [← r9]
  rcases r1 with rfl | rfl
  · exact g4_4 bs K S
  · exact g7_4 bs K S
theorem Jget {K S : Kp} {rs st nn nw nb b : Nat} (jr : Jr K S rs st) (jn : Jn K S nn) (jw : Jw K S nw) (jb : Jb K S nb nn nw) (hb : b < nb) : ∃ ln, Cx K S rs st nn nw nb b ln ∧ Mx K S nn nw nb b ln ∧ (∀ l, l < ln → K (54 + 3 * b) l = S 19 (5 * b + l)) ∧ K (52 + 3 * b) 4 = S 20 b := by
  obtain ⟨ln, h1, h2, h3, h4, h5⟩ := jb.ln1 hb jn.1
  exact ⟨ln, ⟨jr, jn, jw, jb, hb, h1, h2, h3, fun l hl => (h4 l hl).1⟩, ⟨jr.2.2.2.2.2.2.2.2.2.2, jn, jw.wy, jb.bd, hb, h1⟩, fun l hl => (h4 l hl).2, h5⟩
theorem op_row {bs : Nat} {K S : Kp} (x y : Int32) (h : J K S) : ∃ r K' S', f_SB_row bs x y (gm bs K S) = some (r, gm bs K' S) ∧ f_MO_row (bs + 76) x y (gm bs K' S) = some (r, gm bs K' S') ∧ J K' S' := by
  obtain ⟨tl, rs, st, np, nn, nw, nb, jt, jr, jl, jn, jw, jb, js⟩ := id h
  by_cases c1 : 0 ≤ x ∧ x < nI nb
  · obtain ⟨b, hb, rfl⟩ := nIr c1.1 c1.2 (by have := jb.1; omega)
    have hb8 : b < 8 := by have := jb.1; omega
    obtain ⟨ln, cx, mx, _⟩ := Jget jr jn jw jb hb
    have l1 := cx.2.2.2.2.2.1
    have ln5 := l1.2.1
    by_cases c2 : 0 ≤ y ∧ y < nI ln
    · obtain ⟨k, hk, rfl⟩ := nIr c2.1 c2.2 (by omega)
      obtain ⟨r, q, p, a1, a2, a3⟩ := lo_arrange bs K S cx
      obtain ⟨r', q', p', d1, d2, d3⟩ := mo_rankAll bs K (Kx K r q p) S mx
      have sb := srt_b (lt := gobB S nw b) ln k hk
      have k1 : Kx K r q p (53 + 3 * b) (srt (gobB S nw b) ln k) = nI (nmOf S b (srt (gobB S nw b) ln k)) := by rw [Kx_n (by omega) (by omega) (by omega)]; exact cx.2.2.2.2.2.2.2.2 _ sb
      have s1 : Sx S r' q' p' 18 (5 * b + srt (gobB S nw b) ln k) = nI (nmOf S b (srt (gobB S nw b) ln k)) := by rw [Sx_n (by omega)]; exact (l1.2.2.2 _ sb).1
      have e3 : 5 * nI b + nI (srt (gobB S nw b) ln k) = nI (5 * b + srt (gobB S nw b) ln k) := by rw [li5, pk_mul, nI_add]
      refine ⟨nI (nmOf S b (srt (gobB S nw b) ln k)), Kx K r q p, Sx S r' q' p', ?_, ?_, (Sx_z S r' q' p').J ((Kx_y K r q p).J h)⟩
      · unfold f_SB_row f_LO_lineAt
        simp only [ob_0, sb_isLine bs K S jb hb cx.2.2.2.2.2.2.1 ln5, c2, and_self, if_true, Option.bind_some, show ¬ (1 : Int32) = 0 by decide, if_false, g0_10, g0_8, ar22 bs _ S hb8, sb_in bs K S jr, rs_5 bs K S jr, ob_23, a1, gbo_0 bs _ S hb8, g23_2, a24 bs _ S (show k < 5 by omega), Kx_24, a3 k hk, abn bs _ S hb8 (show srt (gobB S nw b) ln k < 5 by omega), k1]
      · unfold f_MO_row
        simp only [m_ob, mo_isLine bs (Kx K r q p) S jb.2.1 jb.1 hb l1.2.2.1, c2, and_self, if_true, Option.bind_some, show ¬ (1 : Int32) = 0 by decide, if_false, d1, m32, m37, ma23 bs _ _ (show k < 5 by omega), Sx_23, d3 k hk, e3, ma18 bs _ _ (show 5 * b + srt (gobB S nw b) ln k < 40 by omega), s1]
    · refine ⟨-1, K, S, ?_, ?_, h⟩
      · unfold f_SB_row
        simp only [ob_0, sb_isLine bs K S jb hb cx.2.2.2.2.2.2.1 ln5, c2, if_true, Option.bind_some, if_false]
      · unfold f_MO_row
        simp only [m_ob, mo_isLine bs K S jb.2.1 jb.1 hb l1.2.2.1, c2, if_true, Option.bind_some, if_false]
  · refine ⟨-1, K, S, ?_, ?_, h⟩
    · unfold f_SB_row f_SB_isLine
      simp only [ob_0, w_isBoard bs K S _ jb.2.2.1 jb.1, c1, if_true, Option.bind_some, if_false]
    · unfold f_MO_row f_MO_isLine
      simp only [m_ob, q_isBoard bs K S _ jb.2.1, c1, if_true, Option.bind_some, if_false]
theorem op_distance {bs : Nat} {K S : Kp} (x y : Int32) (h : J K S) : ∃ r K' S', f_SB_distance bs x y (gm bs K S) = some (r, gm bs K' S) ∧ f_MO_distance (bs + 76) x y (gm bs K' S) = some (r, gm bs K' S') ∧ J K' S' := by
  obtain ⟨tl, rs, st, np, nn, nw, nb, jt, jr, jl, jn, jw, jb, js⟩ := id h
  by_cases c1 : 0 ≤ x ∧ x < nI nb
  · obtain ⟨b, hb, rfl⟩ := nIr c1.1 c1.2 (by have := jb.1; omega)
    have hb8 : b < 8 := by have := jb.1; omega
    obtain ⟨ln, cx, mx, _⟩ := Jget jr jn jw jb hb
    have l1 := cx.2.2.2.2.2.1
    have ln5 := l1.2.1
    by_cases c2 : 0 ≤ y ∧ y < nI ln
    · obtain ⟨k, hk, rfl⟩ := nIr c2.1 c2.2 (by omega)
      obtain ⟨r, q, p, a1, a2, a3⟩ := lo_arrange bs K S cx
      obtain ⟨r', q', p', d1, d2, d3⟩ := mo_rankAll bs K (Kx K r q p) S mx
      have sb := srt_b (lt := gobB S nw b) ln k hk
      refine ⟨dst S nw b (srt (gobB S nw b) ln k), Kx K r q p, Sx S r' q' p', ?_, ?_, (Sx_z S r' q' p').J ((Kx_y K r q p).J h)⟩
      · unfold f_SB_distance f_LO_distanceAt
        simp only [ob_0, sb_isLine bs K S jb hb cx.2.2.2.2.2.2.1 ln5, c2, and_self, if_true, Option.bind_some, show ¬ (1 : Int32) = 0 by decide, if_false, g0_10, g0_8, ar22 bs _ S hb8, sb_in bs K S jr, rs_5 bs K S jr, ob_23, a1, g23_2, g23_3, a24 bs _ S (show k < 5 by omega), Kx_24, a3 k hk, a25 bs _ S (show srt (gobB S nw b) ln k < 5 by omega), Kx_25, a2 _ sb]
      · unfold f_MO_distance
        simp only [m_ob, mo_isLine bs (Kx K r q p) S jb.2.1 jb.1 hb l1.2.2.1, c2, and_self, if_true, Option.bind_some, show ¬ (1 : Int32) = 0 by decide, if_false, d1, m36, m37, ma23 bs _ _ (show k < 5 by omega), Sx_23, d3 k hk, ma22 bs _ _ (show srt (gobB S nw b) ln k < 5 by omega), Sx_22, d2 _ sb]
    · refine ⟨-1, K, S, ?_, ?_, h⟩
      · unfold f_SB_distance
        simp only [ob_0, sb_isLine bs K S jb hb cx.2.2.2.2.2.2.1 ln5, c2, if_true, Option.bind_some, if_false]
      · unfold f_MO_distance
        simp only [m_ob, mo_isLine bs K S jb.2.1 jb.1 hb l1.2.2.1, c2, if_true, Option.bind_some, if_false]
  · refine ⟨-1, K, S, ?_, ?_, h⟩
    · unfold f_SB_distance f_SB_isLine
      simp only [ob_0, w_isBoard bs K S _ jb.2.2.1 jb.1, c1, if_true, Option.bind_some, if_false]
    · unfold f_MO_distance f_MO_isLine
      simp only [m_ob, q_isBoard bs K S _ jb.2.1, c1, if_true, Option.bind_some, if_false]
