def encM (g : Nat → Option Nat) (v : Nat) : Int32 := match g v with
  | none => 100000000
  | some d => nI d
noncomputable def okS (S : Kp) (nb n : Nat) : Nat → Bool := fun w => @decide (¬ bP (shw S nb w n) = 0) (Classical.propDecidable _)
/-- which ways count: all, or those that show a name -/
def okK (S : Kp) (nb : Nat) (x : Int32) (ok : Nat → Bool) : Prop := (x = -1 ∧ ok = okT) ∨ ∃ n, n < 10 ∧ x = nI n ∧ ok = okS S nb n
def Bd (S : Kp) (nb : Nat) : Prop := nb ≤ 8 ∧ S 0 29 = nI nb ∧ ∀ b, b < nb → ∃ ln, ln ≤ 5 ∧ S 17 b = nI ln
theorem Jb.bd {K S : Kp} {nb nn nw : Nat} (h : Jb K S nb nn nw) : Bd S nb := ⟨h.1, h.2.1, h.lns⟩
theorem shw_rw {S : Kp} {i : Nat} {r : Nat → Int32} (hi : 20 < i) (nb w n : Nat) : shw (rw2 S i r) nb w n = shw S nb w n := by
  unfold shw
  rw [rw2_n (by omega), rw2_n (by omega), rw2_n (by omega)]
theorem Bd.rw {S : Kp} {nb i : Nat} (h : Bd S nb) (r : Nat → Int32) (hi : 20 < i) : Bd (rw2 S i r) nb := by
  unfold Bd at *
  rw [rw2_n (by omega), rw2_n (by omega)]
  exact h
theorem mo_shownB (bs : Nat) (K S : Kp) {w n nb : Nat} (h : Bd S nb) : f_MO_isShown (bs + 76) (nI w) (nI n) (gm bs K S) = some (bP (shw S nb w n), gm bs K S) := mo_isShown bs K S h.2.1 h.1 h.2.2
theorem mo_relax (bs : Nat) (K S : Kp) {nw w nb : Nat} {x : Int32} {ok : Nat → Bool} (wy : Wy S nw) (bd : Bd S nb) (hok : okK S nb x ok) (hw : w < nw) (r : Nat → Int32) (g : Nat → Option Nat) (hr : ∀ v, v < 10 → r v = encM g v) (hg : ∀ v d, g v = some d → d ≤ 50000000) (n : Nat) (x3 : Int32) :
    ∃ r', f_MO_measure_L42 (n + 1) (bs + 76) x x3 (nI w) (gm bs K (rw2 S 21 r)) = f_MO_measure_L42 n (bs + 76) x x3 (nI (w + 1)) (gm bs K (rw2 S 21 r')) ∧ ∀ v, v < 10 → r' v = encM (rlx ok (wB S) (wA S) (wL S) w g) v := by
  obtain ⟨w1, w2, w3⟩ := id wy
  obtain ⟨a1, a2, b1, b2, l1, l2⟩ := w3 w hw
  have hw24 : w < 24 := by omega
  have f0 : rw2 S 21 r 0 25 = nI nw := by rw [rw2_n (by omega)]; exact w2
  have f1 : rw2 S 21 r 13 w = nI (wA S w) := by rw [rw2_n (by omega), ← a1]
  have f2 : rw2 S 21 r 14 w = nI (wB S w) := by rw [rw2_n (by omega), ← b1]
  have f3 : rw2 S 21 r 15 w = nI (wL S w) := by rw [rw2_n (by omega), ← l1]
  have e1 : ¬ nI nw ≤ nI w := by rw [nI_leI (by omega) (by omega)]; omega
  have e2 : nI w + 1 = nI (w + 1) := nI_1 w
  -- the comparison
  have cmp : ∃ r', (if encM g (wA S w) ≤ encM g (wB S w) + nI (wL S w) then r else upd r (wA S w) (encM g (wB S w) + nI (wL S w))) = r' ∧ ∀ v, v < 10 → r' v = encM (rlx okT (wB S) (wA S) (wL S) w g) v := by
    refine ⟨_, rfl, ?_⟩
    cases h1 : g (wB S w) with
    | none =>
      have hle : encM g (wA S w) ≤ encM g (wB S w) + nI (wL S w) := by
        have q1 : encM g (wB S w) = nI 100000000 := by simp only [encM, h1]; rfl
        rw [q1, nI_add]
        cases h2 : g (wA S w) with
        | none =>
          have q2 : encM g (wA S w) = nI 100000000 := by simp only [encM, h2]; rfl
          rw [q2, nI_leI (by omega) (by omega)]; omega
        | some b =>
          have q2 : encM g (wA S w) = nI b := by simp only [encM, h2]
          have := hg _ _ h2
          rw [q2, nI_leI (by omega) (by omega)]; omega
      rw [if_pos hle]
      intro v hv; rw [hr v hv]; simp only [encM, rlx, okT, h1]
    | some a =>
      have ha := hg _ _ h1
      have q1 : encM g (wB S w) = nI a := by simp only [encM, h1]
      rw [q1, nI_add]
      have key : ∀ v, v < 10 → upd r (wA S w) (nI (a + wL S w)) v = encM (fun v => if v = wA S w then some (a + wL S w) else g v) v := by
        intro v hv
        by_cases c : v = wA S w
        · subst c; rw [upd_s]; simp only [encM, if_true]
        · rw [upd_n c, hr v hv]; simp only [encM, c, if_false]
      cases h2 : g (wA S w) with
      | none =>
        have q2 : encM g (wA S w) = nI 100000000 := by simp only [encM, h2]; rfl
        have hle : ¬ encM g (wA S w) ≤ nI (a + wL S w) := by rw [q2, nI_leI (by omega) (by omega)]; omega
        rw [if_neg hle]
        intro v hv; rw [key v hv]; simp only [encM, rlx, okT, h1, h2]
      | some b =>
        have hb := hg _ _ h2
        have q2 : encM g (wA S w) = nI b := by simp only [encM, h2]
        by_cases c : a + wL S w < b
        · have hle : ¬ encM g (wA S w) ≤ nI (a + wL S w) := by rw [q2, nI_leI (by omega) (by omega)]; omega
          rw [if_neg hle]
          intro v hv; rw [key v hv]; simp only [encM, rlx, okT, h1, h2, c, if_true]
        · have hle : encM g (wA S w) ≤ nI (a + wL S w) := by rw [q2, nI_leI (by omega) (by omega)]; omega
          rw [if_pos hle]
          intro v hv; rw [hr v hv]; simp only [encM, rlx, okT, h1, h2, c, if_false]
  obtain ⟨r', c1, c2⟩ := cmp
  have hon : ∀ ok', ok' w = true → rlx ok' (wB S) (wA S) (wL S) w g = rlx okT (wB S) (wA S) (wL S) w g := fun ok' h => by
    unfold rlx okT; rw [h]
  have hoff : ∀ ok', ok' w = false → rlx ok' (wB S) (wA S) (wL S) w g = g := fun ok' h => by
    unfold rlx; rw [h]
  rcases hok with ⟨rfl, rfl⟩ | ⟨n0, hn0, rfl, rfl⟩
  · refine ⟨r', ?_, c2⟩
    by_cases c : encM g (wA S w) ≤ encM g (wB S w) + nI (wL S w)
    · rw [if_pos c] at c1; subst c1
      simp only [f_MO_measure_L42, m25, f0, Option.bind_some, e1, if_false, m35, m27, ma14 bs K _ hw24, f2, ma21 bs K _ b2, rw2_s, hr _ b2, m28, ma15 bs K _ hw24, f3, if_true, m26, ma13 bs K _ hw24, f1, ma21 bs K _ a2, hr _ a2, c, e2]
    · rw [if_neg c] at c1; subst c1
      simp only [f_MO_measure_L42, m25, f0, Option.bind_some, e1, if_false, m35, m27, ma14 bs K _ hw24, f2, ma21 bs K _ b2, rw2_s, hr _ b2, m28, ma15 bs K _ hw24, f3, if_true, m26, ma13 bs K _ hw24, f1, ma21 bs K _ a2, hr _ a2, c, e2, ms21 bs K _ _ a2, up2_rw]
  · have d1 : ¬ nI n0 = -1 := nI_m1 (by omega)
    by_cases cs : bP (shw S nb w n0) = 0
    · refine ⟨r, ?_, fun v hv => by rw [hr v hv, hoff (okS S nb n0) (by simp [okS, cs])]⟩
      simp only [f_MO_measure_L42, m25, f0, Option.bind_some, e1, if_false, m35, m27, ma14 bs K _ hw24, f2, ma21 bs K _ b2, rw2_s, hr _ b2, m28, ma15 bs K _ hw24, f3, d1, m_ob, mo_shownB bs K _ (bd.rw r (show 20 < 21 by omega)), shw_rw (show 20 < 21 by omega), cs, if_true, e2]
    · refine ⟨r', ?_, fun v hv => by rw [c2 v hv, hon (okS S nb n0) (by simp [okS, cs])]⟩
      by_cases c : encM g (wA S w) ≤ encM g (wB S w) + nI (wL S w)
      · rw [if_pos c] at c1; subst c1
        simp only [f_MO_measure_L42, m25, f0, Option.bind_some, e1, if_false, m35, m27, ma14 bs K _ hw24, f2, ma21 bs K _ b2, rw2_s, hr _ b2, m28, ma15 bs K _ hw24, f3, if_true, m26, ma13 bs K _ hw24, f1, ma21 bs K _ a2, hr _ a2, d1, m_ob, mo_shownB bs K _ (bd.rw r (show 20 < 21 by omega)), shw_rw (show 20 < 21 by omega), cs, c, e2]
      · rw [if_neg c] at c1; subst c1
        simp only [f_MO_measure_L42, m25, f0, Option.bind_some, e1, if_false, m35, m27, ma14 bs K _ hw24, f2, ma21 bs K _ b2, rw2_s, hr _ b2, m28, ma15 bs K _ hw24, f3, if_true, m26, ma13 bs K _ hw24, f1, ma21 bs K _ a2, hr _ a2, d1, m_ob, mo_shownB bs K _ (bd.rw r (show 20 < 21 by omega)), shw_rw (show 20 < 21 by omega), cs, c, e2, ms21 bs K _ _ a2, up2_rw]
theorem mo_round (bs : Nat) (K S : Kp) {nw nb s k : Nat} {x : Int32} {ok : Nat → Bool} (wy : Wy S nw) (bd : Bd S nb) (hok : okK S nb x ok) (hk : k ≤ 10) (x3 : Int32) : ∀ (m j n : Nat) (r : Nat → Int32), j + m = nw → m < n → (∀ v, v < 10 → r v = encM (rnd ok (wB S) (wA S) (wL S) j (bf nw ok (wB S) (wA S) (wL S) (g0 s) k)) v) →
    ∃ r', f_MO_measure_L42 n (bs + 76) x x3 (nI j) (gm bs K (rw2 S 21 r)) = some ((), gm bs K (rw2 S 21 r')) ∧ ∀ v, v < 10 → r' v = encM (bf nw ok (wB S) (wA S) (wL S) (g0 s) (k + 1)) v := by
  intro m
  induction m with
  | zero =>
    intro j n r hj hm hr
    obtain ⟨n, rfl⟩ : ∃ n', n = n' + 1 := ⟨n - 1, by omega⟩
    obtain rfl : j = nw := by omega
    have := wy.1
    have e1 : nI j ≤ nI j := nI_le (Nat.le_refl j) (by omega)
    have f0 : rw2 S 21 r 0 25 = nI j := by rw [rw2_n (by omega)]; exact wy.2.1
    refine ⟨r, ?_, hr⟩
    simp only [f_MO_measure_L42, m25, f0, Option.bind_some, e1, if_true]
  | succ m ih =>
    intro j n r hj hm hr
    obtain ⟨n, rfl⟩ : ∃ n', n = n' + 1 := ⟨n - 1, by omega⟩
    obtain ⟨r1, h1, h2⟩ := mo_relax bs K S wy bd hok (show j < nw by omega) r _ hr (bnd wy.1 hk (show j ≤ nw by omega) (fun w hw => (wy.2.2 w hw).2.2.2.2.2)) n x3
    obtain ⟨r', i1, i2⟩ := ih (j + 1) n r1 (by omega) (by omega) h2
    exact ⟨r', h1.trans i1, i2⟩
theorem mo_rounds (bs : Nat) (K S : Kp) {nw nb s : Nat} {x : Int32} {ok : Nat → Bool} (wy : Wy S nw) (bd : Bd S nb) (hok : okK S nb x ok) : ∀ (m k n : Nat) (r : Nat → Int32), k + m = 10 → m < n → (∀ v, v < 10 → r v = encM (bf nw ok (wB S) (wA S) (wL S) (g0 s) k) v) →
    ∃ r', f_MO_measure_L33 n (bs + 76) x (nI k) (gm bs K (rw2 S 21 r)) = some ((), gm bs K (rw2 S 21 r')) ∧ ∀ v, v < 10 → r' v = encM (bf nw ok (wB S) (wA S) (wL S) (g0 s) 10) v := by
  intro m
  induction m with
  | zero =>
    intro k n r hj hm hr
    obtain ⟨n, rfl⟩ : ∃ n', n = n' + 1 := ⟨n - 1, by omega⟩
    obtain rfl : k = 10 := by omega
    refine ⟨r, ?_, hr⟩
    have e1 : 10 ≤ nI 10 := by decide
    simp only [f_MO_measure_L33, e1, if_true]
  | succ m ih =>
    intro k n r hj hm hr
    obtain ⟨n, rfl⟩ : ∃ n', n = n' + 1 := ⟨n - 1, by omega⟩
    have e1 : ¬ 10 ≤ nI k := by rw [li10, nI_leI (by omega) (by omega)]; omega
    have e2 : nI k + 1 = nI (k + 1) := nI_1 k
    obtain ⟨r1, h1, h2⟩ := mo_round bs K S (s := s) wy bd hok (show k ≤ 10 by omega) (nI k) nw 0 px_fuel r (by omega) (by have := wy.1; unfold px_fuel; omega) hr
    rw [nI_0] at h1
    obtain ⟨r', i1, i2⟩ := ih (k + 1) n r1 (by omega) (by omega) h2
    refine ⟨r', ?_, i2⟩
    simp only [f_MO_measure_L33, e1, if_false, Option.bind_some, h1, e2, i1]
theorem mo_fill (bs : Nat) (K S : Kp) {t : Nat} (ht : t < 10) (x : Int32) : ∀ (m k n : Nat) (r : Nat → Int32), k + m = 10 → m < n → ∃ r', f_MO_measure_L2 n (bs + 76) (nI t) x (nI k) (gm bs K (rw2 S 21 r)) = some ((), gm bs K (rw2 S 21 r')) ∧ ∀ v, (k ≤ v ∧ v < 10 → r' v = encM (g0 t) v) ∧ (v < k → r' v = r v) := by
  intro m
  induction m with
  | zero =>
    intro k n r hj hm
    obtain ⟨n, rfl⟩ : ∃ n', n = n' + 1 := ⟨n - 1, by omega⟩
    obtain rfl : k = 10 := by omega
    refine ⟨r, ?_, fun v => ⟨fun h => by omega, fun _ => rfl⟩⟩
    have e1 : 10 ≤ nI 10 := by decide
    simp only [f_MO_measure_L2, e1, if_true]
  | succ m ih =>
    intro k n r hj hm
    obtain ⟨n, rfl⟩ : ∃ n', n = n' + 1 := ⟨n - 1, by omega⟩
    have e1 : ¬ 10 ≤ nI k := by rw [li10, nI_leI (by omega) (by omega)]; omega
    have e2 : nI k + 1 = nI (k + 1) := nI_1 k
    obtain ⟨r', i1, i2⟩ := ih (k + 1) n (upd r k (encM (g0 t) k)) (by omega) (by omega)
    refine ⟨r', ?_, fun v => ⟨fun h => ?_, fun h => ?_⟩⟩
    · by_cases c : k = t
      · subst c
        have q : encM (g0 k) k = 0 := by simp [encM, g0, li0]
        rw [q] at i1
        simp only [f_MO_measure_L2, e1, if_true, if_false, m35, Option.bind_some, ms21 bs K _ _ (show k < 10 by omega), up2_rw, e2, i1]
      · have c2 : ¬ nI k = nI t := by rw [nI_eq (by omega) (by omega)]; exact c
        have q : encM (g0 t) k = 100000000 := by simp [encM, g0, c]
        rw [q] at i1
        simp only [f_MO_measure_L2, e1, c2, if_false, m35, Option.bind_some, ms21 bs K _ _ (show k < 10 by omega), up2_rw, e2, i1]
    · by_cases c : v = k
      · subst c; rw [(i2 v).2 (by omega), upd_s]
      · exact (i2 v).1 (by omega)
    · rw [(i2 v).2 (by omega), upd_n (by omega)]
theorem mo_measure (bs : Nat) (K S : Kp) {nw nb t : Nat} {x : Int32} {ok : Nat → Bool} (wy : Wy S nw) (bd : Bd S nb) (hok : okK S nb x ok) (ht : t < 10) : ∃ r', f_MO_measure (bs + 76) (nI t) x (gm bs K S) = some (gm bs K (rw2 S 21 r')) ∧ ∀ v, v < 10 → r' v = encM (bf nw ok (wB S) (wA S) (wL S) (g0 t) 10) v := by
  obtain ⟨r1, h1, h2⟩ := mo_fill bs K S ht x 10 0 px_fuel (S 21) (by omega) (by unfold px_fuel; omega)
  rw [rw2_self, nI_0] at h1
  obtain ⟨r2, h3, h4⟩ := mo_rounds bs K S (s := t) wy bd hok 10 0 px_fuel r1 (by omega) (by unfold px_fuel; omega) (fun v hv => (h2 v).1 (by omega))
  rw [nI_0] at h3
  refine ⟨r2, ?_, h4⟩
  unfold f_MO_measure
  simp only [h1, Option.bind_some, h3]
