/-! THE PURE LAW LOOP -/
theorem px_sc_at {L : Nat} {xs : Nat → Int32} {i : Nat} (h : i < L) (hL : L < 2 ^ 31) : px_sc L xs (nI i) = some (xs i) := by
  have e1 : ¬ nI i < 0 := nI_pos (by omega)
  have e2 : (nI i).toNatClampNeg = i := nI_clamp (by omega)
  unfold px_sc
  rw [e2, if_pos ⟨e1, h⟩]
theorem pure_loop (bs L : Nat) (xs : Nat → Int32) (hL : L ≤ 2560) : ∀ (n i : Nat) (K S : Kp), L ≤ i + 5 * n + 4 → i ≤ 3000 → J K S → f_LW L xs (n + 1) bs (bs + 76) (nI i) (gm bs K S) = some 1 := by
  intro n
  induction n with
  | zero =>
    intro i K S h1 h2 h
    unfold f_LW
    have c : (Int32.ofNat L) - 5 < nI i := by
      have a1 := nIb hL (by omega)
      have a2 : nI L ≤ nI (i + 4) := nI_le (by omega) (by omega)
      have a3 : nI i + 4 = nI (i + 4) := by rw [li4, nI_add]
      have a4 := nIb h2 (by omega)
      rw [← a3] at a2
      rw [show nI 2560 = 2560 from rfl] at a1
      rw [show nI 3000 = 3000 from rfl] at a4
      show nI L - 5 < nI i
      grind
    rw [if_pos c]
  | succ n ih =>
    intro i K S h1 h2 h
    unfold f_LW
    by_cases c : L ≤ i + 4
    · have c' : (Int32.ofNat L) - 5 < nI i := by
        have a1 := nIb hL (by omega)
        have a2 : nI L ≤ nI (i + 4) := nI_le (by omega) (by omega)
        have a3 : nI i + 4 = nI (i + 4) := by rw [li4, nI_add]
        have a4 := nIb h2 (by omega)
        rw [← a3] at a2
        rw [show nI 2560 = 2560 from rfl] at a1
        rw [show nI 3000 = 3000 from rfl] at a4
        show nI L - 5 < nI i
        grind
      rw [if_pos c']
    · have c' : ¬ (Int32.ofNat L) - 5 < nI i := by
        show ¬ nI L - 5 < nI i
        rw [li5, pk_sub (by omega), nI_ltI (by omega) (by omega)]
        omega
      have s0 : px_sc L xs (nI i) = some (xs i) := px_sc_at (by omega) (by omega)
      have s1 : px_sc L xs (nI i + 1) = some (xs (i + 1)) := by rw [li1, nI_add]; exact px_sc_at (by omega) (by omega)
      have s2 : px_sc L xs (nI i + 2) = some (xs (i + 2)) := by rw [li2, nI_add]; exact px_sc_at (by omega) (by omega)
      have s3 : px_sc L xs (nI i + 3) = some (xs (i + 3)) := by rw [li3, nI_add]; exact px_sc_at (by omega) (by omega)
      have s4 : px_sc L xs (nI i + 4) = some (xs (i + 4)) := by rw [li4, nI_add]; exact px_sc_at (by omega) (by omega)
      have e5 : nI i + 5 = nI (i + 5) := by rw [li5, nI_add]
      have nx := fun K S (h : J K S) => ih (i + 5) K S (by omega) (by omega) h
      rw [if_neg c', s0, Option.bind_some]
      by_cases c0 : (xs i &&& 31) = 0
      · obtain ⟨r, K', S', q1, q2, q3⟩ := op_unit (bs := bs) (xs (i + 1)) h
        rw [if_pos c0]
        simp only [s1, Option.bind_some, ob_0, q1, m_ob, q2, if_true, e5]
        exact nx K' S' q3
      rw [if_neg c0]
      by_cases c1 : (xs i &&& 31) = 1
      · obtain ⟨r, K', S', q1, q2, q3⟩ := op_rules (bs := bs) h
        rw [if_pos c1]
        simp only [Option.bind_some, ob_0, q1, m_ob, q2, if_true, e5]
        exact nx K' S' q3
      rw [if_neg c1]
      by_cases c2 : (xs i &&& 31) = 2
      · obtain ⟨r, K', S', q1, q2, q3⟩ := op_name (bs := bs) h
        rw [if_pos c2]
        simp only [Option.bind_some, ob_0, q1, m_ob, q2, if_true, e5]
        exact nx K' S' q3
      rw [if_neg c2]
      by_cases c3 : (xs i &&& 31) = 3
      · obtain ⟨r, K', S', q1, q2, q3⟩ := op_glyph (bs := bs) (xs (i + 1)) (xs (i + 2)) h
        rw [if_pos c3]
        simp only [s1, s2, Option.bind_some, ob_0, q1, m_ob, q2, if_true, e5]
        exact nx K' S' q3
      rw [if_neg c3]
      by_cases c4 : (xs i &&& 31) = 4
      · obtain ⟨r, K', S', q1, q2, q3⟩ := op_kern (bs := bs) (xs (i + 1)) (xs (i + 2)) (xs (i + 3)) h
        rw [if_pos c4]
        simp only [s1, s2, s3, Option.bind_some, ob_0, q1, m_ob, q2, if_true, e5]
        exact nx K' S' q3
      rw [if_neg c4]
      by_cases c5 : (xs i &&& 31) = 5
      · obtain ⟨r, K', S', q1, q2, q3⟩ := op_height (bs := bs) (xs (i + 1)) h
        rw [if_pos c5]
        simp only [s1, Option.bind_some, ob_0, q1, m_ob, q2, if_true, e5]
        exact nx K' S' q3
      rw [if_neg c5]
      by_cases c6 : (xs i &&& 31) = 6
      · obtain ⟨r, K', S', q1, q2, q3⟩ := op_width (bs := bs) (xs (i + 1)) (xs (i + 2)) h
        rw [if_pos c6]
        simp only [s1, s2, Option.bind_some, ob_0, q1, m_ob, q2, if_true, e5]
        exact nx K' S' q3
      rw [if_neg c6]
      by_cases c7 : (xs i &&& 31) = 7
      · obtain ⟨r, K', S', q1, q2, q3⟩ := op_way (bs := bs) (xs (i + 1)) (xs (i + 2)) (xs (i + 3)) h
        rw [if_pos c7]
        simp only [s1, s2, s3, Option.bind_some, ob_0, q1, m_ob, q2, if_true, e5]
        exact nx K' S' q3
      rw [if_neg c7]
      by_cases c8 : (xs i &&& 31) = 8
      · obtain ⟨r, K', S', q1, q2, q3⟩ := op_goal (bs := bs) (xs (i + 1)) (xs (i + 2)) h
        rw [if_pos c8]
        simp only [s1, s2, Option.bind_some, ob_0, q1, m_ob, q2, if_true, e5]
        exact nx K' S' q3
      rw [if_neg c8]
      by_cases c9 : (xs i &&& 31) = 9
      · obtain ⟨r, K', S', q1, q2, q3⟩ := op_board (bs := bs) (xs (i + 1)) h
        rw [if_pos c9]
        simp only [s1, Option.bind_some, ob_0, q1, m_ob, q2, if_true, e5]
        exact nx K' S' q3
      rw [if_neg c9]
      by_cases c10 : (xs i &&& 31) = 10
      · obtain ⟨r, K', S', q1, q2, q3⟩ := op_on (bs := bs) (xs (i + 1)) (xs (i + 2)) (xs (i + 3)) h
        rw [if_pos c10]
        simp only [s1, s2, s3, Option.bind_some, ob_0, q1, m_ob, q2, if_true, e5]
        exact nx K' S' q3
      rw [if_neg c10]
      by_cases c11 : (xs i &&& 31) = 11
      · obtain ⟨r, K', S', q1, q2, q3⟩ := op_wide (bs := bs) (xs (i + 1)) (xs (i + 2)) h
        rw [if_pos c11]
        simp only [s1, s2, Option.bind_some, ob_0, q1, m_ob, q2, if_true, e5]
        exact nx K' S' q3
      rw [if_neg c11]
      by_cases c12 : (xs i &&& 31) = 12
      · obtain ⟨r, K', S', q1, q2, q3⟩ := op_row (bs := bs) (xs (i + 1)) (xs (i + 2)) h
        rw [if_pos c12]
        simp only [s1, s2, Option.bind_some, ob_0, q1, m_ob, q2, if_true, e5]
        exact nx K' S' q3
      rw [if_neg c12]
      by_cases c13 : (xs i &&& 31) = 13
      · obtain ⟨r, K', S', q1, q2, q3⟩ := op_distance (bs := bs) (xs (i + 1)) (xs (i + 2)) h
        rw [if_pos c13]
        simp only [s1, s2, Option.bind_some, ob_0, q1, m_ob, q2, if_true, e5]
        exact nx K' S' q3
      rw [if_neg c13]
      by_cases c14 : (xs i &&& 31) = 14
      · obtain ⟨r, K', S', q1, q2, q3⟩ := op_size (bs := bs) (xs (i + 1)) (xs (i + 2)) (xs (i + 3)) h
        rw [if_pos c14]
        simp only [s1, s2, s3, Option.bind_some, ob_0, q1, m_ob, q2, if_true, e5]
        exact nx K' S' q3
      rw [if_neg c14]
      by_cases c15 : (xs i &&& 31) = 15
      · obtain ⟨r, K', S', q1, q2, q3⟩ := op_drawn (bs := bs) (xs (i + 1)) (xs (i + 2)) (xs (i + 3)) (xs (i + 4)) h
        rw [if_pos c15]
        simp only [s1, s2, s3, s4, Option.bind_some, ob_0, q1, m_ob, q2, if_true, e5]
        exact nx K' S' q3
      rw [if_neg c15]
      by_cases c16 : (xs i &&& 31) = 16
      · obtain ⟨r, K', S', q1, q2, q3⟩ := op_shows (bs := bs) (xs (i + 1)) (xs (i + 2)) h
        rw [if_pos c16]
        simp only [s1, s2, Option.bind_some, ob_0, q1, m_ob, q2, if_true, e5]
        exact nx K' S' q3
      rw [if_neg c16]
      by_cases c17 : (xs i &&& 31) = 17
      · obtain ⟨r, K', S', q1, q2, q3⟩ := op_breaks (bs := bs) (xs (i + 1)) (xs (i + 2)) h
        rw [if_pos c17]
        simp only [s1, s2, Option.bind_some, ob_0, q1, m_ob, q2, if_true, e5]
        exact nx K' S' q3
      rw [if_neg c17]
      by_cases c18 : (xs i &&& 31) = 18
      · obtain ⟨r, K', S', q1, q2, q3⟩ := op_count (bs := bs) (xs (i + 1)) h
        rw [if_pos c18]
        simp only [s1, Option.bind_some, ob_0, q1, m_ob, q2, if_true, e5]
        exact nx K' S' q3
      rw [if_neg c18]
      rw [e5]
      exact nx K S h
