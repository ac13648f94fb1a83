theorem up2_rw (K : Kp) (i j : Nat) (r : Nat → Int32) (v : Int32) : up2 (rw2 K i r) i j v = rw2 K i (upd r j v) := by
  funext a b
  unfold up2
  by_cases c : a = i
  · subst c; rw [rw2_s, rw2_s, rw2_s]
  · rw [rw2_n c, rw2_n c, rw2_n c]
theorem rw2_rw (K : Kp) (i : Nat) (r r' : Nat → Int32) : rw2 (rw2 K i r) i r' = rw2 K i r' := by
  funext a b
  by_cases c : a = i
  · subst c; rw [rw2_s, rw2_s]
  · rw [rw2_n c, rw2_n c, rw2_n c]
theorem rw2_self (K : Kp) (i : Nat) : rw2 K i (K i) = K := by
  funext a b
  by_cases c : a = i
  · subst c; rw [rw2_s]
  · rw [rw2_n c]
theorem upd_s (r : Nat → Int32) (j : Nat) (v : Int32) : upd r j v j = v := by simp [upd]
theorem upd_n {r : Nat → Int32} {j a : Nat} {v : Int32} (h : a ≠ j) : upd r j v a = r a := by simp [upd, h]
def wA (S : Kp) (w : Nat) : Nat := (S 13 w).toNatClampNeg
def wB (S : Kp) (w : Nat) : Nat := (S 14 w).toNatClampNeg
def wL (S : Kp) (w : Nat) : Nat := (S 15 w).toNatClampNeg
/-- what the reference's ways are, alone -/
def Wy (S : Kp) (nw : Nat) : Prop := nw ≤ 24 ∧ S 0 25 = nI nw ∧ ∀ w, w < nw → S 13 w = nI (wA S w) ∧ wA S w < 10 ∧ S 14 w = nI (wB S w) ∧ wB S w < 10 ∧ S 15 w = nI (wL S w) ∧ wL S w ≤ 100000
theorem Jw.wy {K S : Kp} {nw : Nat} (h : Jw K S nw) : Wy S nw := by
  obtain ⟨h1, h2, h3, h4⟩ := h
  refine ⟨h1, h2, fun w hw => ?_⟩
  obtain ⟨_, _, _, ⟨a, a1, a2⟩, ⟨b, b1, b2⟩, ⟨d, d1, d2, d3⟩⟩ := h4 w hw
  unfold wA wB wL
  rw [a2, b2, d3, nI_clamp (by omega), nI_clamp (by omega), nI_clamp (by omega)]
  exact ⟨rfl, a1, rfl, b1, rfl, d2⟩
def okT : Nat → Bool := fun _ => true
def encC (g : Nat → Option Nat) (v : Nat) : Int32 := match g v with
  | none => -1
  | some d => nI d
theorem nI_m1 {d : Nat} (h : d < 2 ^ 31) : ¬ nI d = -1 := by
  intro q
  have := congrArg Int32.toInt q
  rw [nI_toInt h] at this
  have e : (-1 : Int32).toInt = -1 := rfl
  rw [e] at this
  omega
theorem ro_short (bs : Nat) (K S : Kp) {nw w : Nat} (jw : Jw K S nw) (hw : w < nw) (r : Nat → Int32) (g : Nat → Option Nat) (hr : ∀ v, v < 10 → r v = encC g v) (hg : ∀ v d, g v = some d → d ≤ 100000000) :
    ∃ c r', f_RO_shortenBy (bs + 16) (nI w) (gm bs (rw2 K 21 r) S) = some (c, gm bs (rw2 K 21 r') S) ∧ (∀ v, v < 10 → r' v = encC (rlx okT (wA S) (wB S) (wL S) w g) v) ∧ ((c = 0 ∧ rlx okT (wA S) (wB S) (wL S) w g = g) ∨ c = 1) := by
  obtain ⟨w1, w2, w3, w4⟩ := id jw
  obtain ⟨k1, k2, k3, _⟩ := w4 w hw
  obtain ⟨a1, a2, b1, b2, l1, l2⟩ := jw.wy.2.2 w hw
  have hw24 : w < 24 := by omega
  have f1 : rw2 K 21 r 17 w = nI (wA S w) := by rw [rw2_n (by omega), k1, a1]
  have f2 : rw2 K 21 r 18 w = nI (wB S w) := by rw [rw2_n (by omega), k2, b1]
  have f3 : rw2 K 21 r 19 w = nI (wL S w) := by rw [rw2_n (by omega), k3, l1]
  unfold f_RO_shortenBy
  simp only [g16_4, g16_0, g16_1, g16_2, Option.bind_some, a17 bs _ S hw24, a18 bs _ S hw24, a19 bs _ S hw24, f1, f2, f3, a21 bs _ S a2, a21 bs _ S b2, rw2_s, hr _ a2, hr _ b2, s21 bs _ S _ b2, up2_rw]
  cases h1 : g (wA S w) with
  | none =>
    refine ⟨0, r, ?_, ?_, Or.inl ⟨rfl, ?_⟩⟩
    · simp only [encC, h1, if_true]
    · intro v hv; rw [hr v hv]; simp only [encC, rlx, okT, h1]
    · simp only [rlx, okT, h1]
  | some a =>
    have ha := hg _ _ h1
    have e1 : ¬ nI a = -1 := nI_m1 (by omega)
    have e2 : nI a + nI (wL S w) = nI (a + wL S w) := nI_add a (wL S w)
    have key : ∀ v, v < 10 → upd r (wB S w) (nI (a + wL S w)) v = encC (fun v => if v = wB S w then some (a + wL S w) else g v) v := by
      intro v hv
      by_cases c : v = wB S w
      · subst c; rw [upd_s]; simp only [encC, if_true]
      · rw [upd_n c, hr v hv]; simp only [encC, c, if_false]
    cases h2 : g (wB S w) with
    | none =>
      refine ⟨1, upd r (wB S w) (nI (a + wL S w)), ?_, ?_, Or.inr rfl⟩
      · simp only [encC, h1, h2, e1, e2, if_true, if_false]
      · intro v hv; rw [key v hv]; simp only [encC, rlx, okT, h1, h2]
    | some b =>
      have hb := hg _ _ h2
      have e3 : ¬ nI b = -1 := nI_m1 (by omega)
      by_cases c : a + wL S w < b
      · have e4 : nI (a + wL S w) < nI b := by rw [nI_ltI (by omega) (by omega)]; exact c
        refine ⟨1, upd r (wB S w) (nI (a + wL S w)), ?_, ?_, Or.inr rfl⟩
        · simp only [encC, h1, h2, e1, e2, e3, e4, if_true, if_false]
        · intro v hv; rw [key v hv]; simp only [encC, rlx, okT, h1, h2, c, if_true]
      · have e4 : ¬ nI (a + wL S w) < nI b := by rw [nI_ltI (by omega) (by omega)]; exact c
        refine ⟨0, r, ?_, ?_, Or.inl ⟨rfl, ?_⟩⟩
        · simp only [encC, h1, h2, e1, e2, e3, e4, if_false]
        · intro v hv; rw [hr v hv]; simp only [encC, rlx, okT, h1, h2, c, if_false]
        · simp only [rlx, okT, h1, h2, c, if_false]
theorem bnd {m : Nat} {ok : Nat → Bool} {A B L : Nat → Nat} {s k j : Nat} (hm : m ≤ 24) (hk : k ≤ 10) (hj : j ≤ m) (hL : ∀ w, w < m → L w ≤ 100000) : ∀ v d, rnd ok A B L j (bf m ok A B L (g0 s) k) v = some d → d ≤ 50000000 := by
  intro v d h
  obtain ⟨n, h1, h2⟩ := rnd_sd (bf_sd s k) j hj v d h
  have h3 := wk_len hL n h2
  have h4 : k * m ≤ 10 * 24 := Nat.mul_le_mul hk hm
  omega
theorem ro_round (bs : Nat) (K S : Kp) {nw s k : Nat} (jw : Jw K S nw) (hk : k ≤ 10) (x3 : Int32) : ∀ (m j n : Nat) (x2 : Int32) (r : Nat → Int32), j + m = nw → m < n → (∀ v, v < 10 → r v = encC (rnd okT (wA S) (wB S) (wL S) j (bf nw okT (wA S) (wB S) (wL S) (g0 s) k)) v) →
    ∃ c r', f_RO_measureFrom_L47 n (bs + 16) x3 x2 (nI j) (gm bs (rw2 K 21 r) S) = some (c, gm bs (rw2 K 21 r') S) ∧ (∀ v, v < 10 → r' v = encC (bf nw okT (wA S) (wB S) (wL S) (g0 s) (k + 1)) v) ∧ (c = 0 → x2 = 0 ∧ bf nw okT (wA S) (wB S) (wL S) (g0 s) (k + 1) = rnd okT (wA S) (wB S) (wL S) j (bf nw okT (wA S) (wB S) (wL S) (g0 s) k)) := by
  obtain ⟨w1, w2, w3, w4⟩ := id jw
  have f0 : ∀ r, rw2 K 21 r 16 5 = nI nw := fun r => by rw [rw2_n (by omega)]; exact w3
  intro m
  induction m with
  | zero =>
    intro j n x2 r hj hm hr
    obtain ⟨n, rfl⟩ : ∃ n', n = n' + 1 := ⟨n - 1, by omega⟩
    obtain rfl : j = nw := by omega
    have e1 : nI j ≤ nI j := nI_le (Nat.le_refl j) (by omega)
    refine ⟨x2, r, ?_, hr, fun h => ⟨h, rfl⟩⟩
    simp only [f_RO_measureFrom_L47, g16_5, f0, Option.bind_some, e1, if_true]
  | succ m ih =>
    intro j n x2 r hj hm hr
    obtain ⟨n, rfl⟩ : ∃ n', n = n' + 1 := ⟨n - 1, by omega⟩
    have e1 : ¬ nI nw ≤ nI j := by rw [nI_leI (by omega) (by omega)]; omega
    have e2 : nI j + 1 = nI (j + 1) := nI_1 j
    obtain ⟨c, r1, h1, h2, h3⟩ := ro_short bs K S jw (show j < nw by omega) r _ hr (fun v d h => by have := bnd w1 hk (show j ≤ nw by omega) (fun w hw => (jw.wy.2.2 w hw).2.2.2.2.2) v d h; omega)
    rcases h3 with ⟨rfl, h3⟩ | rfl
    · obtain ⟨c', r', i1, i2, i3⟩ := ih (j + 1) n x2 r1 (by omega) (by omega) h2
      refine ⟨c', r', ?_, i2, fun h => ?_⟩
      · simp only [f_RO_measureFrom_L47, g16_5, f0, Option.bind_some, e1, if_false, ob_16, h1, if_true, e2, i1]
      · obtain ⟨z1, z2⟩ := i3 h
        exact ⟨z1, z2.trans h3⟩
    · obtain ⟨c', r', i1, i2, i3⟩ := ih (j + 1) n 1 r1 (by omega) (by omega) h2
      refine ⟨c', r', ?_, i2, fun h => ?_⟩
      · simp only [f_RO_measureFrom_L47, g16_5, f0, Option.bind_some, e1, if_false, ob_16, h1, show ¬ (1 : Int32) = 0 by decide, e2, i1]
      · exact absurd (i3 h).1 (by decide)
theorem ro_rounds (bs : Nat) (K S : Kp) {nw s : Nat} (jw : Jw K S nw) : ∀ (m k n : Nat) (x2 : Int32) (r : Nat → Int32), k + m = 10 → m < n → (∀ v, v < 10 → r v = encC (bf nw okT (wA S) (wB S) (wL S) (g0 s) k) v) → (x2 = 0 → bf nw okT (wA S) (wB S) (wL S) (g0 s) 10 = bf nw okT (wA S) (wB S) (wL S) (g0 s) k) →
    ∃ r', f_RO_measureFrom_L32 n (bs + 16) x2 (nI k) (gm bs (rw2 K 21 r) S) = some ((), gm bs (rw2 K 21 r') S) ∧ ∀ v, v < 10 → r' v = encC (bf nw okT (wA S) (wB S) (wL S) (g0 s) 10) v := by
  intro m
  induction m with
  | zero =>
    intro k n x2 r hj hm hr hx
    obtain ⟨n, rfl⟩ : ∃ n', n = n' + 1 := ⟨n - 1, by omega⟩
    obtain rfl : k = 10 := by omega
    refine ⟨r, ?_, hr⟩
    have e1 : 10 ≤ nI 10 := by decide
    simp only [f_RO_measureFrom_L32, e1, if_true]
  | succ m ih =>
    intro k n x2 r hj hm hr hx
    obtain ⟨n, rfl⟩ : ∃ n', n = n' + 1 := ⟨n - 1, by omega⟩
    have e1 : ¬ 10 ≤ nI k := by rw [li10, nI_leI (by omega) (by omega)]; omega
    have e2 : nI k + 1 = nI (k + 1) := nI_1 k
    by_cases c : x2 = 0
    · refine ⟨r, ?_, fun v hv => by rw [hr v hv, hx c]⟩
      simp only [f_RO_measureFrom_L32, e1, c, if_true, if_false]
    · obtain ⟨c', r1, h1, h2, h3⟩ := ro_round bs K S (s := s) jw (show k ≤ 10 by omega) (nI k) nw 0 px_fuel 0 r (by omega) (by have := jw.1; unfold px_fuel; omega) hr
      rw [nI_0] at h1
      obtain ⟨r', i1, i2⟩ := ih (k + 1) n c' r1 (by omega) (by omega) h2 (fun h => by
        have h4 : rnd okT (wA S) (wB S) (wL S) nw (bf nw okT (wA S) (wB S) (wL S) (g0 s) k) = bf nw okT (wA S) (wB S) (wL S) (g0 s) k := (h3 h).2
        have h5 := bf_stop h4 (10 - k)
        rw [show k + (10 - k) = 10 by omega] at h5
        rw [h5]
        exact ((h3 h).2).symm)
      refine ⟨r', ?_, i2⟩
      simp only [f_RO_measureFrom_L32, e1, c, if_false, Option.bind_some, h1, e2, i1]
theorem ro_fill (bs : Nat) (K S : Kp) (x : Int32) : ∀ (m k n : Nat) (r : Nat → Int32), k + m = 10 → m < n → ∃ r', f_RO_measureFrom_L2 n (bs + 16) x (nI k) (gm bs (rw2 K 21 r) S) = some ((), gm bs (rw2 K 21 r') S) ∧ ∀ v, (k ≤ v ∧ v < 10 → r' v = -1) ∧ (v < k → r' v = r v) := by
  intro m
  induction m with
  | zero =>
    intro k n r hj hm
    obtain ⟨n, rfl⟩ : ∃ n', n = n' + 1 := ⟨n - 1, by omega⟩
    obtain rfl : k = 10 := by omega
    refine ⟨r, ?_, fun v => ⟨fun h => by omega, fun _ => rfl⟩⟩
    have e1 : 10 ≤ nI 10 := by decide
    simp only [f_RO_measureFrom_L2, e1, if_true]
  | succ m ih =>
    intro k n r hj hm
    obtain ⟨n, rfl⟩ : ∃ n', n = n' + 1 := ⟨n - 1, by omega⟩
    have e1 : ¬ 10 ≤ nI k := by rw [li10, nI_leI (by omega) (by omega)]; omega
    have e2 : nI k + 1 = nI (k + 1) := nI_1 k
    obtain ⟨r', i1, i2⟩ := ih (k + 1) n (upd r k (-1)) (by omega) (by omega)
    refine ⟨r', ?_, fun v => ⟨fun h => ?_, fun h => ?_⟩⟩
    · simp only [f_RO_measureFrom_L2, e1, if_false, g16_4, Option.bind_some, s21 bs _ S _ (show k < 10 by omega), up2_rw, e2, i1]
    · by_cases c : v = k
      · subst c; rw [(i2 v).2 (by omega), upd_s]
      · exact (i2 v).1 (by omega)
    · rw [(i2 v).2 (by omega), upd_n (by omega)]
theorem ro_measureFrom (bs : Nat) (K S : Kp) {nw s : Nat} (jw : Jw K S nw) (hs : s < 10) : ∃ r', f_RO_measureFrom (bs + 16) (nI s) (gm bs K S) = some (gm bs (rw2 K 21 r') S) ∧ ∀ v, v < 10 → r' v = encC (bf nw okT (wA S) (wB S) (wL S) (g0 s) 10) v := by
  obtain ⟨r1, h1, h2⟩ := ro_fill bs K S (nI s) 10 0 px_fuel (K 21) (by omega) (by unfold px_fuel; omega)
  rw [rw2_self, nI_0] at h1
  obtain ⟨r2, h3, h4⟩ := ro_rounds bs K S (s := s) jw 10 0 px_fuel 1 (upd r1 s 0) (by omega) (by unfold px_fuel; omega) (fun v hv => by
    by_cases c : v = s
    · subst c; rw [upd_s]; simp [encC, bf, g0, li0]
    · rw [upd_n c, (h2 v).1 (by omega)]; simp [encC, bf, g0, c]) (fun h => absurd h (by decide))
  rw [nI_0] at h3
  refine ⟨r2, ?_, h4⟩
  unfold f_RO_measureFrom
  simp only [h1, Option.bind_some, g16_4, s21 bs _ S _ hs, up2_rw, h3]
