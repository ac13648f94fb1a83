/-! reach: the same rounds with lengths 0 -/
def z0 : Nat → Nat := fun _ => 0
theorem wk_any {m : Nat} {ok : Nat → Bool} {A B L L' : Nat → Nat} {s : Nat} : ∀ (n : Nat) {v d : Nat}, wk m ok A B L s n v d → ∃ d', wk m ok A B L' s n v d'
  | 0, v, d, h => ⟨0, h.1, rfl⟩
  | n + 1, v, d, h => by
    obtain ⟨w, h1, h2, h3, e, h4, h5⟩ := h
    obtain ⟨d', h6⟩ := wk_any (L' := L') n h4
    exact ⟨d' + L' w, w, h1, h2, h3, d', h6, rfl⟩
theorem bf_none {m : Nat} {ok : Nat → Bool} {A B L L' : Nat → Nat} {s u : Nat} (hs : s < 10) (hB : ∀ w, w < m → B w < 10) (h : bf m ok A B L (g0 s) 10 u = none) : bf m ok A B L' (g0 s) 10 u = none := by
  cases q : bf m ok A B L' (g0 s) 10 u with
  | none => rfl
  | some d =>
    obtain ⟨n, _, h1⟩ := bf_sd s 10 u d q
    obtain ⟨d', h2⟩ := wk_any (L' := L) n h1
    obtain ⟨e, h3, _⟩ := bf_all hs hB h2
    rw [h3] at h
    cases h
/-- a mask of nodes -/
def Mk (x : Int32) (g : Nat → Option Nat) : Prop := (∀ u, u < 10 → (¬ (x &&& ((1 : Int32) <<< (nI u &&& 31))) = 0 ↔ g u = some 0)) ∧ ∀ u, g u = none ∨ (g u = some 0 ∧ u < 10)
theorem Mk.eq {x : Int32} {g h : Nat → Option Nat} (a : Mk x g) (b : Mk x h) : g = h := by
  funext u
  rcases a.2 u with p | ⟨p, hu⟩
  · rcases b.2 u with q | ⟨q, hu⟩
    · rw [p, q]
    · have := (a.1 u hu).mp ((b.1 u hu).mpr q)
      rw [p] at this; cases this
  · have := (b.1 u hu).mp ((a.1 u hu).mpr p)
    rw [p, this]
theorem Mk.off {x : Int32} {g : Nat → Option Nat} (a : Mk x g) {u : Nat} (hu : u < 10) : (x &&& ((1 : Int32) <<< (nI u &&& 31))) = 0 ↔ g u = none := by
  constructor
  · intro h
    rcases a.2 u with p | ⟨p, _⟩
    · exact p
    · exact absurd h ((a.1 u hu).mpr p)
  · intro h
    exact Classical.byContradiction fun z => by
      have := (a.1 u hu).mp z
      rw [h] at this; cases this
theorem Mk.add {x : Int32} {g : Nat → Option Nat} {ok : Nat → Bool} {A B : Nat → Nat} {w : Nat} (a : Mk x g) (ho : ok w = true) (hA : A w < 10) (hB : B w < 10) : Mk (if (x &&& ((1 : Int32) <<< (nI (A w) &&& 31))) = 0 then x else x ||| ((1 : Int32) <<< (nI (B w) &&& 31))) (rlx ok A B z0 w g) := by
  rcases a.2 (A w) with p | ⟨p, _⟩
  · rw [if_pos ((a.off hA).mpr p)]
    have e : rlx ok A B z0 w g = g := by unfold rlx; rw [ho, p]
    rw [e]; exact a
  · rw [if_neg (fun z => by rw [(a.off hA).mp z] at p; cases p)]
    have key : rlx ok A B z0 w g = fun v => if v = B w then some 0 else g v := by
      rcases a.2 (B w) with q | ⟨q, _⟩
      · unfold rlx; simp only [ho, p, q, z0]
      · unfold rlx
        simp only [ho, p, q]
        rw [if_neg (by simp [z0])]
        funext v
        by_cases c : v = B w
        · subst c; rw [if_pos rfl]; exact q
        · rw [if_neg c]
    rw [key]
    refine ⟨fun u hu => ?_, fun u => ?_⟩
    · rw [bit_add hB hu]
      by_cases c : u = B w
      · subst c; simp
      · simp only [c, if_false]
        rw [a.1 u hu]
        constructor
        · rintro (z | z)
          · exact z
          · exact absurd z.symm c
        · exact Or.inl
    · by_cases c : u = B w
      · subst c; simp [hB]
      · simp only [c, if_false]; exact a.2 u
theorem Mk.keep {x : Int32} {g : Nat → Option Nat} {ok : Nat → Bool} {A B : Nat → Nat} {w : Nat} (a : Mk x g) (ho : ok w = false) : Mk x (rlx ok A B z0 w g) := by
  have e : rlx ok A B z0 w g = g := by unfold rlx; rw [ho]
  rw [e]; exact a
theorem bit_self : ∀ t, t < 10 → ∀ u, u < 10 → (¬ (((1 : Int32) <<< (nI t &&& 31)) &&& ((1 : Int32) <<< (nI u &&& 31))) = 0 ↔ t = u) := fun t ht u hu => by
  rw [bit_ne t ht u hu]; simp
theorem Mk.start {t : Nat} (ht : t < 10) : Mk ((1 : Int32) <<< (nI t &&& 31)) (g0 t) := by
  refine ⟨fun u hu => ?_, fun u => ?_⟩
  · rw [bit_self t ht u hu]
    unfold g0
    by_cases c : u = t
    · subst c; simp
    · simp [c]; exact fun z => c z.symm
  · unfold g0
    by_cases c : u = t
    · subst c; simp [ht]
    · simp [c]
/-- what the class's breaks need -/
def Bx (K S : Kp) (nn nw nb : Nat) : Prop := Jn K S nn ∧ Jw K S nw ∧ Jb K S nb nn nw ∧ Js K S nb
theorem Bx.ky {K K' S : Kp} {nn nw nb : Nat} (h : Bx K S nn nw nb) (y : Ky K K') : Bx K' S nn nw nb := ⟨y.jn h.1, y.jw h.2.1, y.jb h.2.2.1, y.js h.2.2.2⟩
theorem okS_t {S : Kp} {nb n w : Nat} (h : shw S nb w n) : okS S nb n w = true := by simp [okS, bP_t h]
theorem okS_f {S : Kp} {nb n w : Nat} (h : ¬ shw S nb w n) : okS S nb n w = false := by simp [okS, bP_f h]
theorem ro_ledL (bs : Nat) (K S : Kp) {nn nw nb n k t : Nat} (h : Bx K S nn nw nb) (hn : n < 10) (x4 x5 : Int32) : ∀ (m j f : Nat) (x : Int32), j + m = nw → m < f → Mk x (rnd (okS S nb n) (wB S) (wA S) z0 j (bf nw (okS S nb n) (wB S) (wA S) z0 (g0 t) k)) → ∃ x', f_RO_nodesLedTo_L29 f (bs + 16) (nI n) x4 x5 x (nI j) (gm bs K S) = some (x', gm bs K S) ∧ Mk x' (bf nw (okS S nb n) (wB S) (wA S) z0 (g0 t) (k + 1)) := by
  obtain ⟨jn, jw, jb, js⟩ := h
  have w1 := jw.1
  intro m
  induction m with
  | zero =>
    intro j f x hj hm hx
    obtain ⟨f, rfl⟩ : ∃ n', f = n' + 1 := ⟨f - 1, by omega⟩
    obtain rfl : j = nw := by omega
    have e1 : nI j ≤ nI j := nI_le (Nat.le_refl j) (by omega)
    refine ⟨x, ?_, hx⟩
    simp only [f_RO_nodesLedTo_L29, g16_5, jw.2.2.1, Option.bind_some, e1, if_true]
  | succ m ih =>
    intro j f x hj hm hx
    obtain ⟨f, rfl⟩ : ∃ n', f = n' + 1 := ⟨f - 1, by omega⟩
    have e1 : ¬ nI nw ≤ nI j := by rw [nI_leI (by omega) (by omega)]; omega
    have e2 : nI j + 1 = nI (j + 1) := nI_1 j
    have j24 : j < 24 := by omega
    obtain ⟨a1, a2, b1, b2, l1, l2⟩ := jw.wy.2.2 j (by omega)
    obtain ⟨k1, k2, k3, _⟩ := jw.2.2.2 j (by omega)
    by_cases c : shw S nb j n
    · have hx1 := hx.add (w := j) (okS_t c) b2 a2
      by_cases c2 : (x &&& ((1 : Int32) <<< (nI (wB S j) &&& 31))) = 0
      · rw [if_pos c2] at hx1
        obtain ⟨x', i1, i2⟩ := ih (j + 1) f x (by omega) (by omega) hx1
        refine ⟨x', ?_, i2⟩
        simp only [f_RO_nodesLedTo_L29, g16_5, jw.2.2.1, Option.bind_some, e1, if_false, ob_16, ro_isShown bs K S js j24 hn, bP_t c, show ¬ (1 : Int32) = 0 by decide, g16_1, a18 bs K S j24, k2, b1, c2, if_true, e2, i1]
      · rw [if_neg c2] at hx1
        obtain ⟨x', i1, i2⟩ := ih (j + 1) f _ (by omega) (by omega) hx1
        refine ⟨x', ?_, i2⟩
        simp only [f_RO_nodesLedTo_L29, g16_5, jw.2.2.1, Option.bind_some, e1, if_false, ob_16, ro_isShown bs K S js j24 hn, bP_t c, show ¬ (1 : Int32) = 0 by decide, g16_1, a18 bs K S j24, k2, b1, c2, g16_0, a17 bs K S j24, k1, a1, e2, i1]
    · obtain ⟨x', i1, i2⟩ := ih (j + 1) f x (by omega) (by omega) (hx.keep (okS_f c))
      refine ⟨x', ?_, i2⟩
      simp only [f_RO_nodesLedTo_L29, g16_5, jw.2.2.1, Option.bind_some, e1, if_false, ob_16, ro_isShown bs K S js j24 hn, bP_f c, if_true, e2, i1]
theorem ro_ledR (bs : Nat) (K S : Kp) {nn nw nb n t : Nat} (h : Bx K S nn nw nb) (hn : n < 10) : ∀ (m k f : Nat) (x y : Int32), k + m = 10 → m < f → Mk x (bf nw (okS S nb n) (wB S) (wA S) z0 (g0 t) k) → (x = y → bf nw (okS S nb n) (wB S) (wA S) z0 (g0 t) 10 = bf nw (okS S nb n) (wB S) (wA S) z0 (g0 t) k) → ∃ x', f_RO_nodesLedTo_L10 f (bs + 16) (nI n) x y (nI k) (gm bs K S) = some (x', gm bs K S) ∧ Mk x' (bf nw (okS S nb n) (wB S) (wA S) z0 (g0 t) 10) := by
  intro m
  induction m with
  | zero =>
    intro k f x y hk hm hx hy
    obtain ⟨f, rfl⟩ : ∃ n', f = n' + 1 := ⟨f - 1, by omega⟩
    obtain rfl : k = 10 := by omega
    refine ⟨x, ?_, hx⟩
    have e1 : 10 ≤ nI 10 := by decide
    simp only [f_RO_nodesLedTo_L10, e1, if_true]
  | succ m ih =>
    intro k f x y hk hm hx hy
    obtain ⟨f, rfl⟩ : ∃ n', f = n' + 1 := ⟨f - 1, by omega⟩
    have e1 : ¬ 10 ≤ nI k := by rw [li10, nI_leI (by omega) (by omega)]; omega
    have e2 : nI k + 1 = nI (k + 1) := nI_1 k
    by_cases c : x = y
    · refine ⟨x, ?_, by rw [hy c]; exact hx⟩
      simp only [f_RO_nodesLedTo_L10, e1, c, if_true, if_false]
    · obtain ⟨x1, h1, h2⟩ := ro_ledL bs K S (k := k) (t := t) h hn x (nI k) nw 0 px_fuel x (by omega) (by have := h.2.1.1; unfold px_fuel; omega) hx
      rw [nI_0] at h1
      obtain ⟨x', i1, i2⟩ := ih (k + 1) f x1 x (by omega) (by omega) h2 (fun e => by
        subst e
        have e3 := Mk.eq h2 hx
        have h4 : rnd (okS S nb n) (wB S) (wA S) z0 nw (bf nw (okS S nb n) (wB S) (wA S) z0 (g0 t) k) = bf nw (okS S nb n) (wB S) (wA S) z0 (g0 t) k := e3
        have h5 := bf_stop h4 (10 - k)
        rw [show k + (10 - k) = 10 by omega] at h5
        rw [h5]
        exact e3.symm)
      refine ⟨x', ?_, i2⟩
      simp only [f_RO_nodesLedTo_L10, e1, c, if_false, Option.bind_some, h1, e2, i1]
theorem ro_led (bs : Nat) (K S : Kp) {nn nw nb n t : Nat} (h : Bx K S nn nw nb) (hn : n < 10) (ht : t < 10) : ∃ x', f_RO_nodesLedTo (bs + 16) (nI t) (nI n) (gm bs K S) = some (x', gm bs K S) ∧ Mk x' (bf nw (okS S nb n) (wB S) (wA S) z0 (g0 t) 10) := by
  obtain ⟨x', h1, h2⟩ := ro_ledR bs K S (t := t) h hn 10 0 px_fuel ((1 : Int32) <<< (nI t &&& 31)) 0 (by omega) (by unfold px_fuel; omega) (Mk.start ht) (fun e => by
    have := (Mk.start ht).1 t ht
    rw [e] at this
    have h3 := this.mpr (by simp [g0])
    exact absurd (by simp) h3)
  rw [nI_0] at h1
  refine ⟨x', ?_, h2⟩
  unfold f_RO_nodesLedTo
  simp only [h1, Option.bind_some]
/-- a way that begins at a node shows a name -/
def frP (S : Kp) (nb u n : Nat) (k : Nat) : Prop := ∃ v, v < k ∧ wA S v = u ∧ shw S nb v n
theorem frP_s (S : Kp) (nb u n k : Nat) : frP S nb u n (k + 1) ↔ frP S nb u n k ∨ (wA S k = u ∧ shw S nb k n) := by
  constructor
  · rintro ⟨v, h1, h2⟩
    by_cases c : v = k
    · subst c; exact Or.inr h2
    · exact Or.inl ⟨v, by omega, h2⟩
  · rintro (⟨v, h1, h2⟩ | h)
    · exact ⟨v, by omega, h2⟩
    · exact ⟨k, by omega, h⟩
theorem ro_fromL (bs : Nat) (K S : Kp) {nn nw nb n u : Nat} (h : Bx K S nn nw nb) (hn : n < 10) (hu : u < 10) : ∀ (m k f : Nat), k + m = nw → m < f → ¬ frP S nb u n k → f_RO_isShownFrom_L2 f (bs + 16) (nI u) (nI n) (nI k) (gm bs K S) = some (if bP (frP S nb u n nw) = 0 then .inl () else .inr 1, gm bs K S) := by
  obtain ⟨jn, jw, jb, js⟩ := h
  have w1 := jw.1
  intro m
  induction m with
  | zero =>
    intro k f hk hm hh
    obtain ⟨f, rfl⟩ : ∃ n', f = n' + 1 := ⟨f - 1, by omega⟩
    obtain rfl : k = nw := by omega
    have e1 : nI k ≤ nI k := nI_le (Nat.le_refl k) (by omega)
    simp only [f_RO_isShownFrom_L2, g16_5, jw.2.2.1, Option.bind_some, e1, if_true, bP_f hh]
  | succ m ih =>
    intro k f hk hm hh
    obtain ⟨f, rfl⟩ : ∃ n', f = n' + 1 := ⟨f - 1, by omega⟩
    have e1 : ¬ nI nw ≤ nI k := by rw [nI_leI (by omega) (by omega)]; omega
    have e2 : nI k + 1 = nI (k + 1) := nI_1 k
    have k24 : k < 24 := by omega
    obtain ⟨a1, a2, b1, b2, l1, l2⟩ := jw.wy.2.2 k (by omega)
    obtain ⟨k1, k2, k3, _⟩ := jw.2.2.2 k (by omega)
    by_cases c : wA S k = u
    · have c' : nI (wA S k) = nI u := by rw [c]
      by_cases c2 : shw S nb k n
      · simp only [f_RO_isShownFrom_L2, g16_5, jw.2.2.1, Option.bind_some, e1, if_false, g16_0, a17 bs K S k24, k1, a1, c', if_true, ob_16, ro_isShown bs K S js k24 hn, bP_t c2, show ¬ (1 : Int32) = 0 by decide, bP_t (show frP S nb u n nw from ⟨k, by omega, c, c2⟩)]
      · have i1 := ih (k + 1) f (by omega) (by omega) (fun z => ((frP_s S nb u n k).mp z).elim hh (fun z => c2 z.2))
        simp only [f_RO_isShownFrom_L2, g16_5, jw.2.2.1, Option.bind_some, e1, if_false, g16_0, a17 bs K S k24, k1, a1, c', if_true, ob_16, ro_isShown bs K S js k24 hn, bP_f c2, e2, i1]
    · have c' : ¬ nI (wA S k) = nI u := by rw [nI_eq (by omega) (by omega)]; exact c
      have i1 := ih (k + 1) f (by omega) (by omega) (fun z => ((frP_s S nb u n k).mp z).elim hh (fun z => c z.1))
      simp only [f_RO_isShownFrom_L2, g16_5, jw.2.2.1, Option.bind_some, e1, if_false, g16_0, a17 bs K S k24, k1, a1, c', e2, i1]
theorem ro_from (bs : Nat) (K S : Kp) {nn nw nb n u : Nat} (h : Bx K S nn nw nb) (hn : n < 10) (hu : u < 10) : f_RO_isShownFrom (bs + 16) (nI u) (nI n) (gm bs K S) = some (bP (frP S nb u n nw), gm bs K S) := by
  unfold f_RO_isShownFrom
  have e := ro_fromL bs K S h hn hu nw 0 px_fuel (by omega) (by have := h.2.1.1; unfold px_fuel; omega) (fun ⟨v, h1, _⟩ => absurd h1 (by omega))
  rw [nI_0] at e
  simp only [e, Option.bind_some]
  rcases bP_01 (frP S nb u n nw) with c | c
  · rw [c]; rfl
  · rw [c]; rfl
