/-! breaks, by their code 24 * name + way -/
def brkP (S : Kp) (nw nb c : Nat) : Prop := c % 24 < nw ∧ shw S nb (c % 24) (c / 24) ∧ ∃ t, t < 10 ∧ S 12 (c / 24) = nI t ∧ bf nw (okS S nb (c / 24)) (wB S) (wA S) z0 (g0 t) 10 (wB S (c % 24)) = none
noncomputable def brkB (S : Kp) (nw nb c : Nat) : Bool := @decide (brkP S nw nb c) (Classical.propDecidable _)
noncomputable def brL (S : Kp) (nw nb C : Nat) : List Nat := (List.range C).filter (brkB S nw nb)
noncomputable def kd (S : Kp) (nw nb c : Nat) : Int32 := bP (frP S nb (wB S (c % 24)) (c / 24) nw)
theorem brkB_iff {S : Kp} {nw nb c : Nat} : brkB S nw nb c = true ↔ brkP S nw nb c := by unfold brkB; simp
theorem brL_t {S : Kp} {nw nb C : Nat} (h : brkP S nw nb C) : brL S nw nb (C + 1) = brL S nw nb C ++ [C] := by
  unfold brL
  rw [List.range_succ, List.filter_append]
  simp [brkB_iff.mpr h]
theorem brL_f {S : Kp} {nw nb C : Nat} (h : ¬ brkP S nw nb C) : brL S nw nb (C + 1) = brL S nw nb C := by
  unfold brL
  rw [List.range_succ, List.filter_append]
  have : brkB S nw nb C = false := by
    cases q : brkB S nw nb C with
    | false => rfl
    | true => exact absurd (brkB_iff.mp q) h
  simp [this]
theorem brL_skip {S : Kp} {nw nb n : Nat} : ∀ (k : Nat), nw + k ≤ 24 → brL S nw nb (24 * n + (nw + k)) = brL S nw nb (24 * n + nw)
  | 0, _ => rfl
  | k + 1, h => by
    rw [show 24 * n + (nw + (k + 1)) = (24 * n + (nw + k)) + 1 by omega, brL_f, brL_skip k (by omega)]
    intro z
    have := z.1
    omega
theorem brL_mem {S : Kp} {nw nb C c : Nat} (h : c ∈ brL S nw nb C) : c < C ∧ brkP S nw nb c := by
  unfold brL at h
  have := List.mem_filter.mp h
  exact ⟨List.mem_range.mp this.1, brkB_iff.mp this.2⟩
theorem brL_inj {S : Kp} {nw nb C i j : Nat} (h : i < j) (hj : j < (brL S nw nb C).length) : (brL S nw nb C)[i]'(by omega) < (brL S nw nb C)[j] := by
  have hp : (brL S nw nb C).Pairwise (· < ·) := by
    unfold brL
    exact List.Pairwise.filter _ List.pairwise_lt_range
  exact List.pairwise_iff_getElem.mp hp i j (by omega) hj h
/-- each line of a board makes one break at most: there are 40 at most -/
theorem brL_40 {S : Kp} {nw nb C : Nat} (hb : nb ≤ 8) (hn : C ≤ 240) (hw : nw ≤ 24) : (brL S nw nb C).length ≤ 40 := by
  refine Classical.byContradiction fun z => ?_
  have z : 41 ≤ (brL S nw nb C).length := by omega
  have wit : ∀ i, i < (brL S nw nb C).length → ∃ e, e < 40 ∧ ∃ b l, e = 5 * b + l ∧ l < 5 ∧ ∃ c, (brL S nw nb C)[i]? = some c ∧ S 16 b = nI (c % 24) ∧ S 18 (5 * b + l) = nI (c / 24) ∧ c < 240 := by
    intro i hi
    obtain ⟨h1, h2, h3⟩ := brL_mem (List.getElem_mem hi)
    obtain ⟨⟨b, g1, g2, l, g3, g4, g5⟩, _⟩ := h3
    exact ⟨5 * b + l, by omega, b, l, rfl, g4, _, List.getElem?_eq_getElem hi, g2, g5, by omega⟩
  have p : ∀ i, ∃ e, i < (brL S nw nb C).length → (e < 40 ∧ ∃ b l, e = 5 * b + l ∧ l < 5 ∧ ∃ c, (brL S nw nb C)[i]? = some c ∧ S 16 b = nI (c % 24) ∧ S 18 (5 * b + l) = nI (c / 24) ∧ c < 240) := fun i => by
    by_cases c : i < (brL S nw nb C).length
    · obtain ⟨e, h⟩ := wit i c
      exact ⟨e, fun _ => h⟩
    · exact ⟨0, fun h => absurd h c⟩
  obtain ⟨i, j, h1, h2, h3⟩ := pigeon 40 (fun i => Classical.choose (p i)) (fun i hi => ((Classical.choose_spec (p i)) (by omega)).1)
  obtain ⟨_, b, l, a1, a2, c, a3, a4, a5, a6⟩ := (Classical.choose_spec (p i)) (by omega)
  obtain ⟨_, b', l', a1', a2', c', a3', a4', a5', a6'⟩ := (Classical.choose_spec (p j)) (by omega)
  have e1 : b = b' := by omega
  have e2 : l = l' := by omega
  subst e1; subst e2
  rw [a4] at a4'
  rw [a5] at a5'
  have q1 := (nI_eq (show c % 24 < 2 ^ 31 by omega) (show c' % 24 < 2 ^ 31 by omega)).mp a4'
  have q2 := (nI_eq (show c / 24 < 2 ^ 31 by omega) (show c' / 24 < 2 ^ 31 by omega)).mp a5'
  have q3 : c = c' := by omega
  have lt := brL_inj (S := S) (nw := nw) (nb := nb) (C := C) h1 (by omega)
  have g1 : (brL S nw nb C)[i]'(by omega) = c := Option.some.inj ((List.getElem?_eq_getElem (by omega)).symm.trans a3)
  have g2 : (brL S nw nb C)[j]'(by omega) = c' := Option.some.inj ((List.getElem?_eq_getElem (by omega)).symm.trans a3')
  rw [g1, g2] at lt
  omega
/-- the class's list holds the breaks of the codes below C -/
def Hx (K S : Kp) (nw nb C : Nat) : Prop := K 28 5 = nI (brL S nw nb C).length ∧ ∀ i c, (brL S nw nb C)[i]? = some c → K 29 i = nI (c / 24) ∧ K 30 i = nI (c % 24) ∧ K 31 i = kd S nw nb c
theorem Hx.eqL {K S : Kp} {nw nb C C' : Nat} (h : Hx K S nw nb C) (e : brL S nw nb C' = brL S nw nb C) : Hx K S nw nb C' := by
  unfold Hx at *
  rw [e]; exact h
theorem bl_add (bs : Nat) (K S : Kp) {nw nb C : Nat} {v : Int32} (hb : nb ≤ 8) (hC : C < 240) (hw : nw ≤ 24) (h : Hx K S nw nb C) (hp : brkP S nw nb C) (hv : v = kd S nw nb C) : ∃ K', f_BL_add (bs + 28) (nI (C / 24)) (nI (C % 24)) v (gm bs K S) = some (gm bs K' S) ∧ Ky K K' ∧ Hx K' S nw nb (C + 1) := by
  have l40 := brL_40 (S := S) (nw := nw) (nb := nb) (C := C + 1) hb (by omega) hw
  rw [brL_t hp, List.length_append] at l40
  simp only [List.length_cons, List.length_nil] at l40
  obtain ⟨h1, h2⟩ := h
  generalize hn : (brL S nw nb C).length = ln at h1 l40
  have e1 : ¬ 40 ≤ nI ln := by rw [li40, nI_leI (by omega) (by omega)]; omega
  have e2 : nI ln + 1 = nI (ln + 1) := nI_1 ln
  have x1 : up2 K 29 ln (nI (C / 24)) 28 5 = nI ln := by rw [up2_n (by omega)]; exact h1
  have x2 : up2 (up2 K 29 ln (nI (C / 24))) 30 ln (nI (C % 24)) 28 5 = nI ln := by rw [up2_n (by omega)]; exact x1
  have x3 : up2 (up2 (up2 K 29 ln (nI (C / 24))) 30 ln (nI (C % 24))) 31 ln v 28 5 = nI ln := by rw [up2_n (by omega)]; exact x2
  refine ⟨up2 (up2 (up2 (up2 K 29 ln (nI (C / 24))) 30 ln (nI (C % 24))) 31 ln v) 28 5 (nI (ln + 1)), ?_, ((((Ky.rf K).up (by unfold scr; omega) _ _).up (by unfold scr; omega) _ _).up (by unfold scr; omega) _ _).up (by unfold scr; omega) _ _, ?_, ?_⟩
  · unfold f_BL_add
    simp only [g28_5, h1, Option.bind_some, e1, if_false, g28_2, s29 bs _ S _ (show ln < 40 by omega), g28_3, x1, s30 bs _ S _ (show ln < 40 by omega), g28_4, x2, s31 bs _ S _ (show ln < 40 by omega), x3, e2, p28_5]
  · rw [brL_t hp, List.length_append, hn]
    simp [up2_at]
  · intro i c hc
    rw [brL_t hp] at hc
    by_cases ci : i < ln
    · rw [List.getElem?_append_left (by omega)] at hc
      obtain ⟨q1, q2, q3⟩ := h2 i c hc
      refine ⟨?_, ?_, ?_⟩
      · rw [up2_n (by omega), up2_n (by omega), up2_n (by omega), up2_e (by omega)]; exact q1
      · rw [up2_n (by omega), up2_n (by omega), up2_e (by omega), up2_n (by omega)]; exact q2
      · rw [up2_n (by omega), up2_e (by omega), up2_n (by omega), up2_n (by omega)]; exact q3
    · rw [List.getElem?_append_right (by omega), hn] at hc
      have hi : i - ln < 1 := (List.getElem?_eq_some_iff.mp hc).1
      obtain rfl : i = ln := by omega
      rw [Nat.sub_self] at hc
      cases hc
      refine ⟨?_, ?_, ?_⟩
      · rw [up2_n (by omega), up2_n (by omega), up2_n (by omega)]; simp [up2_at]
      · rw [up2_n (by omega), up2_n (by omega)]; simp [up2_at]
      · rw [up2_n (by omega)]; simp [up2_at, hv]
theorem bl_ofL (bs : Nat) (S : Kp) {nn nw nb n t : Nat} (hn : n < 10) (ht : t < 10) (ht2 : S 12 n = nI t) {x : Int32} (hx : Mk x (bf nw (okS S nb n) (wB S) (wA S) z0 (g0 t) 10)) : ∀ (m w f : Nat) (K : Kp), w + m = nw → m < f → Bx K S nn nw nb → Hx K S nw nb (24 * n + w) → ∃ K', f_BL_gatherOf_L13 f (bs + 28) (nI n) x (nI w) (gm bs K S) = some ((), gm bs K' S) ∧ Ky K K' ∧ Hx K' S nw nb (24 * n + nw) := by
  intro m
  induction m with
  | zero =>
    intro w f K hw hm h hh
    obtain ⟨f, rfl⟩ : ∃ n', f = n' + 1 := ⟨f - 1, by omega⟩
    obtain rfl : w = nw := by omega
    have := h.2.1.1
    have e1 : nI w ≤ nI w := nI_le (Nat.le_refl w) (by omega)
    refine ⟨K, ?_, Ky.rf K, hh⟩
    simp only [f_BL_gatherOf_L13, g28_1, g16_5, h.2.1.2.2.1, Option.bind_some, e1, if_true]
  | succ m ih =>
    intro w f K hw hm h hh
    obtain ⟨f, rfl⟩ : ∃ n', f = n' + 1 := ⟨f - 1, by omega⟩
    have w1 := h.2.1.1
    have nb8 := h.2.2.1.1
    have e1 : ¬ nI nw ≤ nI w := by rw [nI_leI (by omega) (by omega)]; omega
    have e2 : nI w + 1 = nI (w + 1) := nI_1 w
    have w24 : w < 24 := by omega
    obtain ⟨a1, a2, b1, b2, l1, l2⟩ := h.2.1.wy.2.2 w (by omega)
    obtain ⟨k1, k2, k3, _⟩ := h.2.1.2.2.2 w (by omega)
    have d1 : (24 * n + w) / 24 = n := by omega
    have d2 : (24 * n + w) % 24 = w := by omega
    have sh := ro_isShown bs K S (n := n) h.2.2.2 w24 hn
    by_cases c : shw S nb w n
    · by_cases c2 : bf nw (okS S nb n) (wB S) (wA S) z0 (g0 t) 10 (wB S w) = none
      · have c3 := (hx.off b2).mpr c2
        have bp : brkP S nw nb (24 * n + w) := by
          unfold brkP
          rw [d1, d2]
          exact ⟨by omega, c, t, ht, ht2, c2⟩
        have fr := ro_from bs K S h hn b2
        have kk : kd S nw nb (24 * n + w) = bP (frP S nb (wB S w) n nw) := by unfold kd; rw [d1, d2]
        obtain ⟨K1, g1, g2, g3⟩ := bl_add bs K S (v := bP (frP S nb (wB S w) n nw)) nb8 (by omega) w1 hh bp kk.symm
        rw [d1, d2] at g1
        obtain ⟨K', i1, i2, i3⟩ := ih (w + 1) f K1 (by omega) (by omega) (h.ky g2) g3
        refine ⟨K', ?_, g2.tr i2, i3⟩
        rcases bP_01 (frP S nb (wB S w) n nw) with q | q
        · rw [q] at fr g1
          simp only [f_BL_gatherOf_L13, g28_1, g16_5, h.2.1.2.2.1, Option.bind_some, e1, if_false, g16_1, a18 bs K S w24, k2, b1, ob_16, sh, bP_t c, show ¬ (1 : Int32) = 0 by decide, c3, if_true, fr, ob_28, g1, e2, i1]
        · rw [q] at fr g1
          simp only [f_BL_gatherOf_L13, g28_1, g16_5, h.2.1.2.2.1, Option.bind_some, e1, if_false, g16_1, a18 bs K S w24, k2, b1, ob_16, sh, bP_t c, show ¬ (1 : Int32) = 0 by decide, c3, if_true, fr, ob_28, g1, e2, i1]
      · have c3 : ¬ (x &&& ((1 : Int32) <<< (nI (wB S w) &&& 31))) = 0 := fun z => c2 ((hx.off b2).mp z)
        have bp : ¬ brkP S nw nb (24 * n + w) := by
          unfold brkP
          rw [d1, d2]
          rintro ⟨_, _, t', q1, q2, q3⟩
          rw [ht2] at q2
          have := (nI_eq (by omega) (by omega)).mp q2
          subst this
          exact c2 q3
        obtain ⟨K', i1, i2, i3⟩ := ih (w + 1) f K (by omega) (by omega) h (hh.eqL (brL_f bp))
        refine ⟨K', ?_, i2, i3⟩
        simp only [f_BL_gatherOf_L13, g28_1, g16_5, h.2.1.2.2.1, Option.bind_some, e1, if_false, g16_1, a18 bs K S w24, k2, b1, ob_16, sh, bP_t c, show ¬ (1 : Int32) = 0 by decide, c3, e2, i1]
    · have bp : ¬ brkP S nw nb (24 * n + w) := by
        unfold brkP
        rw [d1, d2]
        rintro ⟨_, q, _⟩
        exact c q
      obtain ⟨K', i1, i2, i3⟩ := ih (w + 1) f K (by omega) (by omega) h (hh.eqL (brL_f bp))
      refine ⟨K', ?_, i2, i3⟩
      simp only [f_BL_gatherOf_L13, g28_1, g16_5, h.2.1.2.2.1, Option.bind_some, e1, if_false, g16_1, a18 bs K S w24, k2, b1, ob_16, sh, bP_f c, if_true, e2, i1]
theorem brL_none {S : Kp} {nw nb n : Nat} (h : S 12 n = -1) : ∀ k, k ≤ 24 → brL S nw nb (24 * n + k) = brL S nw nb (24 * n)
  | 0, _ => rfl
  | k + 1, hk => by
    rw [show 24 * n + (k + 1) = (24 * n + k) + 1 by omega, brL_f, brL_none h k (by omega)]
    rintro ⟨_, _, t, q1, q2, _⟩
    rw [show (24 * n + k) / 24 = n by omega, h] at q2
    exact absurd q2.symm (nI_m1 (by omega))
theorem bl_gatherL (bs : Nat) (S : Kp) {nn nw nb : Nat} : ∀ (m n f : Nat) (K : Kp), n + m = nn → m < f → Bx K S nn nw nb → Hx K S nw nb (24 * n) → ∃ K', f_BL_gather_L7 f (bs + 28) (nI nn) (nI n) (gm bs K S) = some ((), gm bs K' S) ∧ Ky K K' ∧ Hx K' S nw nb (24 * nn) := by
  intro m
  induction m with
  | zero =>
    intro n f K hn hm h hh
    obtain ⟨f, rfl⟩ : ∃ n', f = n' + 1 := ⟨f - 1, by omega⟩
    obtain rfl : n = nn := by omega
    have := h.1.1
    have e1 : nI n ≤ nI n := nI_le (Nat.le_refl n) (by omega)
    refine ⟨K, ?_, Ky.rf K, hh⟩
    simp only [f_BL_gather_L7, e1, if_true]
  | succ m ih =>
    intro n f K hn hm h hh
    obtain ⟨f, rfl⟩ : ∃ n', f = n' + 1 := ⟨f - 1, by omega⟩
    have n10 := h.1.1
    have w1 := h.2.1.1
    have e1 : ¬ nI nn ≤ nI n := by rw [nI_leI (by omega) (by omega)]; omega
    have e2 : nI n + 1 = nI (n + 1) := nI_1 n
    obtain ⟨len, z⟩ := h.1.2.2.2.1 n (by omega)
    have kg := z.2.2.2.2.2.1
    by_cases c : S 12 n = -1
    · obtain ⟨K', i1, i2, i3⟩ := ih (n + 1) f K (by omega) (by omega) h (hh.eqL (by rw [show 24 * (n + 1) = 24 * n + 24 by omega, brL_none c 24 (by omega)]))
      refine ⟨K', ?_, i2, i3⟩
      simp only [f_BL_gather_L7, e1, if_false, g28_0, Option.bind_some, ar15 bs K S (show n < 10 by omega), gna_2 bs K S (show n < 10 by omega), kg, c, if_true, e2, i1]
    · obtain ⟨t, ht, ht2⟩ := z.2.2.2.2.2.2.resolve_left c
      have d1 : ¬ nI t = -1 := nI_m1 (by omega)
      obtain ⟨x, q1, q2⟩ := ro_led bs K S (t := t) h (show n < 10 by omega) ht
      obtain ⟨K1, g1, g2, g3⟩ := bl_ofL bs S (nn := nn) (show n < 10 by omega) ht ht2 q2 nw 0 px_fuel K (by omega) (by unfold px_fuel; omega) h hh
      rw [nI_0] at g1
      have sk := brL_skip (S := S) (nw := nw) (nb := nb) (n := n) (24 - nw) (by omega)
      rw [show 24 * n + (nw + (24 - nw)) = 24 * (n + 1) by omega] at sk
      obtain ⟨K', i1, i2, i3⟩ := ih (n + 1) f K1 (by omega) (by omega) (h.ky g2) (g3.eqL sk)
      refine ⟨K', ?_, g2.tr i2, i3⟩
      simp only [f_BL_gather_L7, f_BL_gatherOf, e1, if_false, g28_0, Option.bind_some, ar15 bs K S (show n < 10 by omega), gna_2 bs K S (show n < 10 by omega), kg, ht2, d1, ob_28, g28_1, ob_16, q1, g1, e2, i1]
theorem bl_gather (bs : Nat) (K S : Kp) {nn nw nb : Nat} (h : Bx K S nn nw nb) : ∃ K', f_BL_gather (bs + 28) (nI nn) (gm bs K S) = some (gm bs K' S) ∧ Ky K K' ∧ Hx K' S nw nb (24 * nn) := by
  have y := (Ky.rf K).up (i := 28) (by unfold scr; omega) 5 0
  obtain ⟨K', i1, i2, i3⟩ := bl_gatherL bs S (nn := nn) (nw := nw) (nb := nb) nn 0 px_fuel (up2 K 28 5 0) (by omega) (by have := h.1.1; unfold px_fuel; omega) (h.ky y) ⟨by simp [up2_at, brL, li0], fun i c hc => by simp [brL] at hc⟩
  rw [nI_0] at i1
  refine ⟨K', ?_, y.tr i2, i3⟩
  unfold f_BL_gather
  simp only [p28_5, Option.bind_some, i1]
