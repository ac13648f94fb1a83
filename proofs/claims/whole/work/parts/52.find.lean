def My (S S' : Kp) : Prop := (∀ i, 1 ≤ i → i ≤ 20 → S' i = S i) ∧ ∀ c, c < 38 → S' 0 c = S 0 c
theorem My.rf (S : Kp) : My S S := ⟨fun _ _ _ => rfl, fun _ _ => rfl⟩
theorem My.tr {S S1 S2 : Kp} (a : My S S1) (b : My S1 S2) : My S S2 := ⟨fun i h1 h2 => (b.1 i h1 h2).trans (a.1 i h1 h2), fun c h => (b.2 c h).trans (a.2 c h)⟩
theorem My.rw {S S' : Kp} (h : My S S') (r : Nat → Int32) : My S (rw2 S' 21 r) := ⟨fun i h1 h2 => by rw [rw2_n (by omega)]; exact h.1 i h1 h2, fun c hc => by rw [rw2_n (by omega)]; exact h.2 c hc⟩
theorem My.up {S S' : Kp} (h : My S S') {j : Nat} (hj : 38 ≤ j) (v : Int32) : My S (up2 S' 0 j v) := ⟨fun i h1 h2 => by rw [up2_n (by omega)]; exact h.1 i h1 h2, fun c hc => by rw [up2_e (by omega)]; exact h.2 c hc⟩
theorem My.z {S S' : Kp} (h : My S S') : Mz S S' := ⟨fun i h1 h2 _ _ => h.1 i h1 h2, fun c _ h2 => h.2 c h2⟩
theorem My.eA {S S' : Kp} (h : My S S') : wA S' = wA S := by funext w; unfold wA; rw [h.1 13 (by omega) (by omega)]
theorem My.eB {S S' : Kp} (h : My S S') : wB S' = wB S := by funext w; unfold wB; rw [h.1 14 (by omega) (by omega)]
theorem My.eL {S S' : Kp} (h : My S S') : wL S' = wL S := by funext w; unfold wL; rw [h.1 15 (by omega) (by omega)]
theorem My.wy {S S' : Kp} (h : My S S') {nw : Nat} (y : Wy S nw) : Wy S' nw := by
  unfold Wy at *
  rw [h.eA, h.eB, h.eL, h.2 25 (by omega), h.1 13 (by omega) (by omega), h.1 14 (by omega) (by omega), h.1 15 (by omega) (by omega)]
  exact y
theorem My.bd {S S' : Kp} (h : My S S') {nb : Nat} (y : Bd S nb) : Bd S' nb := by
  unfold Bd at *
  rw [h.2 29 (by omega), h.1 17 (by omega) (by omega)]
  exact y
theorem My.sh {S S' : Kp} (h : My S S') (nb w n : Nat) : shw S' nb w n = shw S nb w n := by
  unfold shw
  rw [h.1 16 (by omega) (by omega), h.1 17 (by omega) (by omega), h.1 18 (by omega) (by omega)]
theorem My.ok {S S' : Kp} (h : My S S') (nb n : Nat) : okS S' nb n = okS S nb n := by
  funext w
  unfold okS
  rw [h.sh]
theorem brL_pre {S : Kp} {nw nb C i c : Nat} (h : (brL S nw nb C)[i]? = some c) : ∀ k, (brL S nw nb (C + k))[i]? = some c
  | 0 => h
  | k + 1 => by
    have ih := brL_pre h k
    by_cases q : brkP S nw nb (C + k)
    · rw [show C + (k + 1) = (C + k) + 1 by omega, brL_t q, List.getElem?_append_left (List.getElem?_eq_some_iff.mp ih).1]
      exact ih
    · rw [show C + (k + 1) = (C + k) + 1 by omega, brL_f q]
      exact ih
theorem mo_kindL (bs : Nat) (K S : Kp) {nw nb n w : Nat} (wy : Wy S nw) (bd : Bd S nb) (hw : w < nw) (x1 : Int32) : ∀ (m v f : Nat) (S' : Kp), v + m = nw → m < f → My S S' → S' 0 41 = bP (frP S nb (wB S w) n v) → f_MO_find_L97 f (bs + 76) x1 (nI n) (nI w) (nI v) (gm bs K S') = some ((), gm bs K (up2 S' 0 41 (bP (frP S nb (wB S w) n nw)))) := by
  have w1 := wy.1
  intro m
  induction m with
  | zero =>
    intro v f S' hv hm y h
    obtain ⟨f, rfl⟩ : ∃ n', f = n' + 1 := ⟨f - 1, by omega⟩
    obtain rfl : v = nw := by omega
    have e1 : nI v ≤ nI v := nI_le (Nat.le_refl v) (by omega)
    rw [up2_id h]
    simp only [f_MO_find_L97, m25, (y.wy wy).2.1, Option.bind_some, e1, if_true]
  | succ m ih =>
    intro v f S' hv hm y h
    obtain ⟨f, rfl⟩ : ∃ n', f = n' + 1 := ⟨f - 1, by omega⟩
    have e1 : ¬ nI nw ≤ nI v := by rw [nI_leI (by omega) (by omega)]; omega
    have e2 : nI v + 1 = nI (v + 1) := nI_1 v
    obtain ⟨a1, a2, b1, b2, l1, l2⟩ := wy.2.2 v (by omega)
    obtain ⟨a1', a2', b1', b2', _⟩ := wy.2.2 w hw
    have s13 : S' 13 v = nI (wA S v) := by rw [y.1 13 (by omega) (by omega)]; exact a1
    have s14 : S' 14 w = nI (wB S w) := by rw [y.1 14 (by omega) (by omega)]; exact b1'
    have shB := mo_shownB bs K S' (w := v) (n := n) (y.bd bd)
    rw [y.sh] at shB
    by_cases c : wA S v = wB S w
    · have c' : nI (wA S v) = nI (wB S w) := by rw [c]
      by_cases c2 : shw S nb v n
      · have i1 := ih (v + 1) f (up2 S' 0 41 1) (by omega) (by omega) (y.up (by omega) _) (by rw [up2_at, if_pos ⟨rfl, rfl⟩, bP_t ((frP_s S nb (wB S w) n v).mpr (Or.inr ⟨c, c2⟩))])
        have e3 : ∀ b, up2 (up2 S' 0 41 1) 0 41 b = up2 S' 0 41 b := fun b => by
          funext a z; rw [up2_at, up2_at, up2_at]; by_cases q : a = 0 ∧ z = 41 <;> simp [q]
        rw [e3] at i1
        simp only [f_MO_find_L97, m25, (y.wy wy).2.1, Option.bind_some, e1, if_false, m26, ma13 bs K S' (show v < 24 by omega), s13, m27, ma14 bs K S' (show w < 24 by omega), s14, c', if_true, m_ob, shB, bP_t c2, show ¬ (1 : Int32) = 0 by decide, mp41, e2, i1]
      · have hq : frP S nb (wB S w) n (v + 1) ↔ frP S nb (wB S w) n v := by
          rw [frP_s]
          exact ⟨fun z => z.elim id (fun z => absurd z.2 c2), Or.inl⟩
        have i1 := ih (v + 1) f S' (by omega) (by omega) y (by rw [bP_cg hq]; exact h)
        simp only [f_MO_find_L97, m25, (y.wy wy).2.1, Option.bind_some, e1, if_false, m26, ma13 bs K S' (show v < 24 by omega), s13, m27, ma14 bs K S' (show w < 24 by omega), s14, c', if_true, m_ob, shB, bP_f c2, m41, mp41, up2_id (rfl : S' 0 41 = S' 0 41), e2, i1]
    · have c' : ¬ nI (wA S v) = nI (wB S w) := by rw [nI_eq (by omega) (by omega)]; exact c
      have hq : frP S nb (wB S w) n (v + 1) ↔ frP S nb (wB S w) n v := by
        rw [frP_s]
        exact ⟨fun z => z.elim id (fun z => absurd z.1 c), Or.inl⟩
      have i1 := ih (v + 1) f S' (by omega) (by omega) y (by rw [bP_cg hq]; exact h)
      simp only [f_MO_find_L97, m25, (y.wy wy).2.1, Option.bind_some, e1, if_false, m26, ma13 bs K S' (show v < 24 by omega), s13, m27, ma14 bs K S' (show w < 24 by omega), s14, c', m41, mp41, up2_id (rfl : S' 0 41 = S' 0 41), e2, i1]
/-- the break that was sought is found -/
def Fd1 (S S' : Kp) (nw nb : Nat) (C : Nat) (x : Int32) : Prop := ∃ i c, (brL S nw nb C)[i]? = some c ∧ x = nI i ∧ S' 0 40 = nI (c / 24) ∧ S' 0 39 = nI (c % 24) ∧ S' 0 41 = kd S nw nb c
/-- or there is none so far -/
def Fd0 (S S' : Kp) (nw nb : Nat) (C : Nat) (x : Int32) : Prop := S' 0 38 = nI (brL S nw nb C).length ∧ ∀ i, i < (brL S nw nb C).length → x ≠ nI i
theorem mo_findL (bs : Nat) (K S : Kp) {nw nb n t : Nat} (wy : Wy S nw) (bd : Bd S nb) (hn : n < 10) (ht : t < 10) (ht2 : S 12 n = nI t) (x : Int32) : ∀ (m w f : Nat) (S' : Kp), w + m = nw → m < f → My S S' → (∀ v, v < 10 → S' 21 v = encM (bf nw (okS S nb n) (wB S) (wA S) (wL S) (g0 t) 10) v) → Fd0 S S' nw nb (24 * n + w) x →
    ∃ S'', My S S'' ∧ ((f_MO_find_L38 f (bs + 76) x (nI n) (nI w) (gm bs K S') = some (.inl (), gm bs K S'') ∧ Fd0 S S'' nw nb (24 * n + nw) x ∧ S'' 0 40 = S' 0 40) ∨ (f_MO_find_L38 f (bs + 76) x (nI n) (nI w) (gm bs K S') = some (.inr x, gm bs K S'') ∧ Fd1 S S'' nw nb (24 * n + nw) x)) := by
  have w1 := wy.1
  intro m
  induction m with
  | zero =>
    intro w f S' hw hm y hr h
    obtain ⟨f, rfl⟩ : ∃ n', f = n' + 1 := ⟨f - 1, by omega⟩
    obtain rfl : w = nw := by omega
    have e1 : nI w ≤ nI w := nI_le (Nat.le_refl w) (by omega)
    refine ⟨S', y, Or.inl ⟨?_, h, rfl⟩⟩
    simp only [f_MO_find_L38, m25, (y.wy wy).2.1, Option.bind_some, e1, if_true]
  | succ m ih =>
    intro w f S' hw hm y hr h
    obtain ⟨f, rfl⟩ : ∃ n', f = n' + 1 := ⟨f - 1, by omega⟩
    have e1 : ¬ nI nw ≤ nI w := by rw [nI_leI (by omega) (by omega)]; omega
    have e2 : nI w + 1 = nI (w + 1) := nI_1 w
    obtain ⟨a1, a2, b1, b2, l1, l2⟩ := wy.2.2 w (by omega)
    have s14 : S' 14 w = nI (wB S w) := by rw [y.1 14 (by omega) (by omega)]; exact b1
    have shB := mo_shownB bs K S' (w := w) (n := n) (y.bd bd)
    rw [y.sh] at shB
    have d1 : (24 * n + w) / 24 = n := by omega
    have d2 : (24 * n + w) % 24 = w := by omega
    have l40 := brL_40 (S := S) (nw := nw) (nb := nb) (C := 24 * n + w) bd.1 (by omega) w1
    by_cases c : shw S nb w n
    · cases q : bf nw (okS S nb n) (wB S) (wA S) (wL S) (g0 t) 10 (wB S w) with
      | some d =>
        have e3 : encM (bf nw (okS S nb n) (wB S) (wA S) (wL S) (g0 t) 10) (wB S w) = nI d := by simp only [encM, q]
        have hd := bf_len (A := wB S) (B := wA S) ht (fun v hv => (wy.2.2 v hv).2.1) (fun v hv => (wy.2.2 v hv).2.2.2.2.2) q
        have e4 : nI d < 100000000 := by rw [li100000000, nI_ltI (by omega) (by omega)]; omega
        have bp : ¬ brkP S nw nb (24 * n + w) := by
          unfold brkP
          rw [d1, d2]
          rintro ⟨_, _, t', q1, q2, q3⟩
          rw [ht2] at q2
          have := (nI_eq (by omega) (by omega)).mp q2
          subst this
          have := bf_none (L' := wL S) ht (fun v hv => (wy.2.2 v hv).2.1) q3
          rw [q] at this; cases this
        have hE := brL_f bp
        obtain ⟨S'', j1, j2⟩ := ih (w + 1) f S' (by omega) (by omega) y hr (by unfold Fd0 at *; rw [show 24 * n + (w + 1) = 24 * n + w + 1 by omega, hE]; exact h)
        refine ⟨S'', j1, ?_⟩
        have st : f_MO_find_L38 (f + 1) (bs + 76) x (nI n) (nI w) (gm bs K S') = f_MO_find_L38 f (bs + 76) x (nI n) (nI (w + 1)) (gm bs K S') := by
          simp only [f_MO_find_L38, m25, (y.wy wy).2.1, Option.bind_some, e1, if_false, m_ob, shB, bP_t c, show ¬ (1 : Int32) = 0 by decide, m35, m27, ma14 bs K S' (show w < 24 by omega), s14, ma21 bs K S' b2, hr _ b2, e3, e4, if_true, e2]
        rw [st]
        exact j2
      | none =>
        have e3 : encM (bf nw (okS S nb n) (wB S) (wA S) (wL S) (g0 t) 10) (wB S w) = 100000000 := by simp only [encM, q]
        have e4 : ¬ (100000000 : Int32) < 100000000 := by decide
        have bp : brkP S nw nb (24 * n + w) := by
          unfold brkP
          rw [d1, d2]
          exact ⟨by omega, c, t, ht, ht2, bf_none (L' := z0) ht (fun v hv => (wy.2.2 v hv).2.1) q⟩
        have hE := brL_t bp
        obtain ⟨h1, h2⟩ := h
        by_cases cx : nI (brL S nw nb (24 * n + w)).length = x
        · have yk : My S (up2 (up2 (up2 S' 0 40 (nI n)) 0 39 (nI w)) 0 41 0) := ((y.up (by omega) _).up (by omega) _).up (by omega) _
          have kL := mo_kindL bs K S (nw := nw) (nb := nb) (n := n) (w := w) wy bd (by omega) x nw 0 px_fuel (up2 (up2 (up2 S' 0 40 (nI n)) 0 39 (nI w)) 0 41 0) (by omega) (by unfold px_fuel; omega) yk (by rw [up2_at, if_pos ⟨rfl, rfl⟩, bP_f (fun ⟨v, hv, _⟩ => absurd hv (by omega))])
          rw [nI_0] at kL
          refine ⟨up2 (up2 (up2 (up2 S' 0 40 (nI n)) 0 39 (nI w)) 0 41 0) 0 41 (bP (frP S nb (wB S w) n nw)), yk.up (by omega) _, Or.inr ⟨?_, (brL S nw nb (24 * n + w)).length, 24 * n + w, ?_, cx.symm, ?_, ?_, ?_⟩⟩
          · simp only [f_MO_find_L38, m25, (y.wy wy).2.1, Option.bind_some, e1, if_false, m_ob, shB, bP_t c, show ¬ (1 : Int32) = 0 by decide, m35, m27, ma14 bs K S' (show w < 24 by omega), s14, ma21 bs K S' b2, hr _ b2, e3, e4, m38, h1, cx, if_true, mp40, mp39, mp41, kL]
          · have := brL_pre (S := S) (nw := nw) (nb := nb) (C := 24 * n + w + 1) (i := (brL S nw nb (24 * n + w)).length) (c := 24 * n + w) (by rw [hE, List.getElem?_append_right (Nat.le_refl _), Nat.sub_self]; rfl) (nw - (w + 1))
            rw [show 24 * n + w + 1 + (nw - (w + 1)) = 24 * n + nw by omega] at this
            exact this
          · rw [d1]; simp [up2_at]
          · rw [d2]; simp [up2_at]
          · unfold kd; rw [d1, d2]; simp [up2_at]
        · have e5 : nI (brL S nw nb (24 * n + w)).length + 1 = nI ((brL S nw nb (24 * n + w)).length + 1) := nI_1 _
          obtain ⟨S'', j1, j2⟩ := ih (w + 1) f (up2 S' 0 38 (nI ((brL S nw nb (24 * n + w)).length + 1))) (by omega) (by omega) (y.up (by omega) _) (fun v hv => by rw [up2_n (by omega)]; exact hr v hv) (by
            rw [show 24 * n + (w + 1) = 24 * n + w + 1 by omega]
            refine ⟨?_, fun i hi => ?_⟩
            · rw [hE, List.length_append]; simp [up2_at]
            · rw [hE, List.length_append] at hi
              simp only [List.length_cons, List.length_nil] at hi
              by_cases ci : i = (brL S nw nb (24 * n + w)).length
              · subst ci; exact fun z => cx z.symm
              · exact h2 i (by omega))
          refine ⟨S'', j1, ?_⟩
          have st : f_MO_find_L38 (f + 1) (bs + 76) x (nI n) (nI w) (gm bs K S') = f_MO_find_L38 f (bs + 76) x (nI n) (nI (w + 1)) (gm bs K (up2 S' 0 38 (nI ((brL S nw nb (24 * n + w)).length + 1)))) := by
            simp only [f_MO_find_L38, m25, (y.wy wy).2.1, Option.bind_some, e1, if_false, m_ob, shB, bP_t c, show ¬ (1 : Int32) = 0 by decide, m35, m27, ma14 bs K S' (show w < 24 by omega), s14, ma21 bs K S' b2, hr _ b2, e3, e4, m38, h1, cx, e5, mp38, e2]
          rw [st]
          have e40 : up2 S' 0 38 (nI ((brL S nw nb (24 * n + w)).length + 1)) 0 40 = S' 0 40 := up2_e (show ¬ (0 = 0 ∧ 40 = 38) by omega)
          rw [e40] at j2
          exact j2
    · have bp : ¬ brkP S nw nb (24 * n + w) := by
        unfold brkP
        rw [d1, d2]
        rintro ⟨_, q, _⟩
        exact c q
      have hE := brL_f bp
      obtain ⟨S'', j1, j2⟩ := ih (w + 1) f S' (by omega) (by omega) y hr (by unfold Fd0 at *; rw [show 24 * n + (w + 1) = 24 * n + w + 1 by omega, hE]; exact h)
      refine ⟨S'', j1, ?_⟩
      have st : f_MO_find_L38 (f + 1) (bs + 76) x (nI n) (nI w) (gm bs K S') = f_MO_find_L38 f (bs + 76) x (nI n) (nI (w + 1)) (gm bs K S') := by
        simp only [f_MO_find_L38, m25, (y.wy wy).2.1, Option.bind_some, e1, if_false, m_ob, shB, bP_f c, if_true, e2]
      rw [st]
      exact j2
theorem mo_findN (bs : Nat) (K0 K S : Kp) {nn nw nb : Nat} (jn : Jn K0 S nn) (wy : Wy S nw) (bd : Bd S nb) (x : Int32) : ∀ (m n f : Nat) (S' : Kp), n + m = nn → m < f → My S S' → Fd0 S S' nw nb (24 * n) x →
    ∃ S'', My S S'' ∧ ((f_MO_find_L7 f (bs + 76) x (nI n) (gm bs K S') = some (.inl (), gm bs K S'') ∧ Fd0 S S'' nw nb (24 * nn) x ∧ S'' 0 40 = S' 0 40) ∨ (f_MO_find_L7 f (bs + 76) x (nI n) (gm bs K S') = some (.inr x, gm bs K S'') ∧ Fd1 S S'' nw nb (24 * nn) x)) := by
  have n10 := jn.1
  have w1 := wy.1
  intro m
  induction m with
  | zero =>
    intro n f S' hn hm y h
    obtain ⟨f, rfl⟩ : ∃ n', f = n' + 1 := ⟨f - 1, by omega⟩
    obtain rfl : n = nn := by omega
    have e1 : nI n ≤ nI n := nI_le (Nat.le_refl n) (by omega)
    have s21 : S' 0 21 = nI n := by rw [y.2 21 (by omega)]; exact jn.2.1
    refine ⟨S', y, Or.inl ⟨?_, h, rfl⟩⟩
    simp only [f_MO_find_L7, m21, s21, Option.bind_some, e1, if_true]
  | succ m ih =>
    intro n f S' hn hm y h
    obtain ⟨f, rfl⟩ : ∃ n', f = n' + 1 := ⟨f - 1, by omega⟩
    have e1 : ¬ nI nn ≤ nI n := by rw [nI_leI (by omega) (by omega)]; omega
    have e2 : nI n + 1 = nI (n + 1) := nI_1 n
    have s21 : S' 0 21 = nI nn := by rw [y.2 21 (by omega)]; exact jn.2.1
    have s12 : S' 12 n = S 12 n := by rw [y.1 12 (by omega) (by omega)]
    obtain ⟨len, z⟩ := jn.2.2.2.1 n (by omega)
    by_cases c : S 12 n = -1
    · obtain ⟨S'', j1, j2⟩ := ih (n + 1) f S' (by omega) (by omega) y (by
        unfold Fd0 at *
        rw [show 24 * (n + 1) = 24 * n + 24 by omega, brL_none c 24 (by omega)]; exact h)
      refine ⟨S'', j1, ?_⟩
      have st : f_MO_find_L7 (f + 1) (bs + 76) x (nI n) (gm bs K S') = f_MO_find_L7 f (bs + 76) x (nI (n + 1)) (gm bs K S') := by
        simp only [f_MO_find_L7, m21, s21, Option.bind_some, e1, if_false, m24, ma12 bs K S' (show n < 10 by omega), s12, c, if_true, e2]
      rw [st]
      exact j2
    · obtain ⟨t, ht, ht2⟩ := z.2.2.2.2.2.2.resolve_left c
      have d1 : ¬ nI t = -1 := nI_m1 (by omega)
      obtain ⟨r, m1, m2⟩ := mo_measure bs K S' (t := t) (x := nI n) (ok := okS S nb n) (y.wy wy) (y.bd bd) (Or.inr ⟨n, by omega, rfl, (y.ok nb n).symm⟩) ht
      rw [y.eA, y.eB, y.eL] at m2
      obtain ⟨S1, k1, k2⟩ := mo_findL bs K S (nw := nw) (nb := nb) (n := n) wy bd (by omega) ht ht2 x nw 0 px_fuel (rw2 S' 21 r) (by omega) (by unfold px_fuel; omega) (y.rw r) (fun v hv => by rw [rw2_s]; exact m2 v hv) (by unfold Fd0 at *; rw [rw2_n (by omega)]; exact h)
      rw [nI_0] at k2
      have sk := brL_skip (S := S) (nw := nw) (nb := nb) (n := n) (24 - nw) (by omega)
      rw [show 24 * n + (nw + (24 - nw)) = 24 * (n + 1) by omega] at sk
      rcases k2 with ⟨k3, k4, k5⟩ | ⟨k3, k4⟩
      · obtain ⟨S'', j1, j2⟩ := ih (n + 1) f S1 (by omega) (by omega) k1 (by unfold Fd0 at *; rw [sk]; exact k4)
        refine ⟨S'', j1, ?_⟩
        have st : f_MO_find_L7 (f + 1) (bs + 76) x (nI n) (gm bs K S') = f_MO_find_L7 f (bs + 76) x (nI (n + 1)) (gm bs K S1) := by
          simp only [f_MO_find_L7, m21, s21, Option.bind_some, e1, if_false, m24, ma12 bs K S' (show n < 10 by omega), s12, ht2, d1, m_ob, m1, k3, e2]
        rw [st]
        rw [rw2_n (by omega)] at k5
        rw [k5] at j2
        exact j2
      · refine ⟨S1, k1, Or.inr ⟨?_, ?_⟩⟩
        · simp only [f_MO_find_L7, m21, s21, Option.bind_some, e1, if_false, m24, ma12 bs K S' (show n < 10 by omega), s12, ht2, d1, m_ob, m1, k3]
        · obtain ⟨i, c', g1, g2⟩ := k4
          have := brL_pre g1 (24 * nn - (24 * n + nw))
          rw [show 24 * n + nw + (24 * nn - (24 * n + nw)) = 24 * nn by omega] at this
          exact ⟨i, c', this, g2⟩
theorem mo_find (bs : Nat) (K0 K S S' : Kp) {nn nw nb : Nat} (jn : Jn K0 S nn) (wy : Wy S nw) (bd : Bd S nb) (x : Int32) (y : My S S') : ∃ S'', My S S'' ∧ ((f_MO_find (bs + 76) x (gm bs K S') = some (nI (brL S nw nb (24 * nn)).length, gm bs K S'') ∧ (∀ i, i < (brL S nw nb (24 * nn)).length → x ≠ nI i) ∧ S'' 0 40 = S' 0 40) ∨ (f_MO_find (bs + 76) x (gm bs K S') = some (x, gm bs K S'') ∧ Fd1 S S'' nw nb (24 * nn) x)) := by
  obtain ⟨S'', k1, k2⟩ := mo_findN bs K0 K S jn wy bd x nn 0 px_fuel (up2 S' 0 38 0) (by omega) (by have := jn.1; unfold px_fuel; omega) (y.up (by omega) _) ⟨by simp [up2_at, brL, li0], fun i hi => by simp [brL] at hi⟩
  rw [nI_0] at k2
  refine ⟨S'', k1, ?_⟩
  rcases k2 with ⟨k3, k4, k5⟩ | ⟨k3, k4⟩
  · left
    refine ⟨?_, k4.2, by rw [k5]; exact up2_e (show ¬ (0 = 0 ∧ 40 = 38) by omega)⟩
    unfold f_MO_find
    simp only [mp38, Option.bind_some, k3, m38, k4.1]
  · right
    refine ⟨?_, k4⟩
    unfold f_MO_find
    simp only [mp38, Option.bind_some, k3]
theorem op_breaks {bs : Nat} {K S : Kp} (x w : Int32) (h : J K S) : ∃ r K' S', f_SB_breaks bs x w (gm bs K S) = some (r, gm bs K' S) ∧ f_MO_breaks (bs + 76) x w (gm bs K' S) = some (r, gm bs K' S') ∧ J K' S' := by
  obtain ⟨tl, rs, st, np, nn, nw, nb, jt, jr, jl, jn, jw, jb, js⟩ := id h
  obtain ⟨K', g1, g2, g3, g4⟩ := bl_gather bs K S ⟨jn, jw, jb, js⟩
  have l40 := brL_40 (S := S) (nw := nw) (nb := nb) (C := 24 * nn) jb.1 (by have := jn.1; omega) jw.1
  generalize hN : (brL S nw nb (24 * nn)).length = N at g3 l40
  have cls : ∀ r, f_BL_part (bs + 28) x w (gm bs K' S) = some (r, gm bs K' S) → f_SB_breaks bs x w (gm bs K S) = some (r, gm bs K' S) := by
    intro r hr
    unfold f_SB_breaks
    simp only [g0_12, g0_6, jn.2.2.1, Option.bind_some, ob_28, g1, hr]
  have hbb := nIb l40 (by omega)
  have prt : f_BL_part (bs + 28) x w (gm bs K' S) = if 0 ≤ x ∧ x < nI N then (if w = 0 then (px_ai 0 (gm bs K' S) (bs + 29) x).bind fun v => some (v, gm bs K' S) else if w = 1 then (px_ai 0 (gm bs K' S) (bs + 30) x).bind fun v => some (v, gm bs K' S) else if w = 2 then (px_ai 0 (gm bs K' S) (bs + 31) x).bind fun v => some (v, gm bs K' S) else some (-1, gm bs K' S)) else some (-1, gm bs K' S) := by
    unfold f_BL_part
    simp only [g28_5, g3, Option.bind_some, w_isWithin, g28_2, g28_3, g28_4]
    by_cases c : 0 ≤ x ∧ x < nI N
    · have c2 : 0 ≤ x ∧ x ≤ nI N - 1 := by rw [← li40] at hbb; grind
      simp only [c, c2, and_self, if_true, Option.bind_some, show ¬ (1 : Int32) = 0 by decide, if_false, g28_2, g28_3, g28_4]
    · have c2 : ¬ (0 ≤ x ∧ x ≤ nI N - 1) := by rw [← li40] at hbb; grind
      simp only [c, c2, if_true, Option.bind_some, if_false]
  by_cases cw : 0 ≤ w ∧ w ≤ 2
  · have cw1 : ¬ w < 0 := by grind
    by_cases cx : x < 0
    · refine ⟨-1, K', S, cls _ ?_, ?_, g2.J h⟩
      · rw [prt, if_neg (by grind)]
      · unfold f_MO_breaks
        simp only [cx, if_true]
    · obtain ⟨S'', k1, k2⟩ := mo_find bs K K' S (up2 S 0 40 (-1)) jn jw.wy jb.bd x ((My.rf S).up (by omega) _)
      rw [hN] at k2
      have jj := k1.z.J (g2.J h)
      rcases k2 with ⟨k3, k4, k5⟩ | ⟨k3, i, c, q1, q2, q3, q4, q5⟩
      · have e40 : S'' 0 40 = -1 := by rw [k5]; simp [up2_at]
        have nin : ¬ (0 ≤ x ∧ x < nI N) := by
          rintro ⟨h1, h2⟩
          obtain ⟨j, hj, hj2⟩ := nIr h1 h2 (by omega)
          exact k4 j hj hj2
        refine ⟨-1, K', S'', cls _ ?_, ?_, jj⟩
        · rw [prt, if_neg nin]
        · unfold f_MO_breaks
          simp only [cx, cw1, cw.2, if_true, if_false, mp40, Option.bind_some, m_ob, k3, m40, e40]
      · have hi : i < N := by rw [← hN]; exact (List.getElem?_eq_some_iff.mp q1).1
        obtain ⟨r1, r2, r3⟩ := g4 i c q1
        have hc := (brL_mem (List.mem_of_getElem? q1)).1
        have c10 : c / 24 < 10 := by have := jn.1; omega
        have nin : (0 : Int32) ≤ nI i ∧ nI i < nI N := ⟨nI_pos' (by omega), by rw [nI_ltI (by omega) (by omega)]; exact hi⟩
        have e40 : ¬ S'' 0 40 = -1 := by rw [q3]; exact nI_m1 (by omega)
        subst q2
        by_cases w0 : w = 0
        · subst w0
          refine ⟨nI (c / 24), K', S'', cls _ ?_, ?_, jj⟩
          · rw [prt, if_pos nin, if_pos rfl, a29 bs K' S (by omega), r1]; rfl
          · unfold f_MO_breaks
            simp only [cx, cw1, cw.2, if_true, if_false, mp40, Option.bind_some, m_ob, k3, m40, e40, q3]
            rw [if_neg (by rw [← q3]; exact e40)]
        · by_cases w1 : w = 1
          · subst w1
            refine ⟨nI (c % 24), K', S'', cls _ ?_, ?_, jj⟩
            · rw [prt, if_pos nin, if_neg (by decide), if_pos rfl, a30 bs K' S (by omega), r2]; rfl
            · unfold f_MO_breaks
              simp only [cx, cw1, cw.2, if_true, if_false, mp40, Option.bind_some, m_ob, k3, m40, e40, m39, q4, show ¬ (1 : Int32) = 0 by decide]
          · have w2 : w = 2 := by grind
            subst w2
            refine ⟨kd S nw nb c, K', S'', cls _ ?_, ?_, jj⟩
            · rw [prt, if_pos nin, if_neg (by decide), if_neg (by decide), if_pos rfl, a31 bs K' S (by omega), r3]; rfl
            · unfold f_MO_breaks
              simp only [cx, cw1, cw.2, if_true, if_false, mp40, Option.bind_some, m_ob, k3, m40, e40, m41, q5, show ¬ (2 : Int32) = 0 by decide, show ¬ (2 : Int32) = 1 by decide]
  · refine ⟨-1, K', S, cls _ ?_, ?_, g2.J h⟩
    · rw [prt]
      by_cases c : 0 ≤ x ∧ x < nI N
      · rw [if_pos c, if_neg (by rintro rfl; exact cw (by decide)), if_neg (by rintro rfl; exact cw (by decide)), if_neg (by rintro rfl; exact cw (by decide))]
      · rw [if_neg c]
    · unfold f_MO_breaks
      by_cases cx : x < 0
      · simp only [cx, if_true]
      · by_cases c1 : w < 0
        · simp only [cx, c1, if_true, if_false]
        · have c2 : ¬ w ≤ 2 := by grind
          simp only [cx, c1, c2, if_false]
theorem op_count {bs : Nat} {K S : Kp} (x : Int32) (h : J K S) : ∃ r K' S', f_SB_count bs x (gm bs K S) = some (r, gm bs K' S) ∧ f_MO_count (bs + 76) x (gm bs K' S) = some (r, gm bs K' S') ∧ J K' S' := by
  obtain ⟨tl, rs, st, np, nn, nw, nb, jt, jr, jl, jn, jw, jb, js⟩ := id h
  unfold f_SB_count f_MO_count
  by_cases c0 : x = 0
  · exact ⟨nI nn, K, S, by simp only [c0, if_true, g0_6, jn.2.2.1, Option.bind_some], by simp only [c0, if_true, m21, jn.2.1, Option.bind_some], h⟩
  · by_cases c1 : x = 1
    · exact ⟨nI nw, K, S, by simp only [c0, c1, if_true, if_false, show ¬ (1 : Int32) = 0 by decide, g0_7, g16_5, jw.2.2.1, Option.bind_some], by simp only [c0, c1, if_true, if_false, show ¬ (1 : Int32) = 0 by decide, m25, jw.2.1, Option.bind_some], h⟩
    · by_cases c2 : x = 2
      · exact ⟨nI nb, K, S, by simp only [c0, c1, c2, if_true, if_false, show ¬ (2 : Int32) = 0 by decide, show ¬ (2 : Int32) = 1 by decide, g0_9, jb.2.2.1, Option.bind_some], by simp only [c0, c1, c2, if_true, if_false, show ¬ (2 : Int32) = 0 by decide, show ¬ (2 : Int32) = 1 by decide, m29, jb.2.1, Option.bind_some], h⟩
      · by_cases c3 : x = 3
        · exact ⟨nI np, K, S, by simp only [c3, if_true, if_false, show ¬ (3 : Int32) = 0 by decide, show ¬ (3 : Int32) = 1 by decide, show ¬ (3 : Int32) = 2 by decide, g0_4, g10_4, jl.2.2.1, Option.bind_some], by simp only [c3, if_true, if_false, show ¬ (3 : Int32) = 0 by decide, show ¬ (3 : Int32) = 1 by decide, show ¬ (3 : Int32) = 2 by decide, m17, jl.2.1, Option.bind_some], h⟩
        · by_cases c4 : x = 4
          · obtain ⟨K', g1, g2, g3, g4⟩ := bl_gather bs K S ⟨jn, jw, jb, js⟩
            obtain ⟨S'', k1, k2⟩ := mo_find bs K K' S S jn jw.wy jb.bd (-1) (My.rf S)
            rcases k2 with ⟨k3, k4, k5⟩ | ⟨k3, i, c, q1, q2, q3, q4, q5⟩
            · refine ⟨nI (brL S nw nb (24 * nn)).length, K', S'', ?_, ?_, k1.z.J (g2.J h)⟩
              · simp only [c4, if_true, if_false, show ¬ (4 : Int32) = 0 by decide, show ¬ (4 : Int32) = 1 by decide, show ¬ (4 : Int32) = 2 by decide, show ¬ (4 : Int32) = 3 by decide, g0_12, g0_6, jn.2.2.1, Option.bind_some, ob_28, g1, g28_5, g3]
              · simp only [c4, if_true, if_false, show ¬ (4 : Int32) = 0 by decide, show ¬ (4 : Int32) = 1 by decide, show ¬ (4 : Int32) = 2 by decide, show ¬ (4 : Int32) = 3 by decide, m_ob, Option.bind_some, k3]
            · have l40 := brL_40 (S := S) (nw := nw) (nb := nb) (C := 24 * nn) jb.1 (by have := jn.1; omega) jw.1
              have hi := (List.getElem?_eq_some_iff.mp q1).1
              exact absurd q2.symm (nI_m1 (by omega))
          · by_cases c5 : x = 5
            · exact ⟨nI tl, K, S, by simp only [c5, if_true, if_false, show ¬ (5 : Int32) = 0 by decide, show ¬ (5 : Int32) = 1 by decide, show ¬ (5 : Int32) = 2 by decide, show ¬ (5 : Int32) = 3 by decide, show ¬ (5 : Int32) = 4 by decide, g0_0, g1_1, jt.2.2.1, Option.bind_some], by simp only [c5, if_true, if_false, show ¬ (5 : Int32) = 0 by decide, show ¬ (5 : Int32) = 1 by decide, show ¬ (5 : Int32) = 2 by decide, show ¬ (5 : Int32) = 3 by decide, show ¬ (5 : Int32) = 4 by decide, m0, jt.2.1, Option.bind_some], h⟩
            · exact ⟨-1, K, S, by simp only [c0, c1, c2, c3, c4, c5, if_false], by simp only [c0, c1, c2, c3, c4, c5, if_false], h⟩
