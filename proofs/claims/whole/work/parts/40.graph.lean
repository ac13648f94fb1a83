/-! WALKS: n ways one behind another from s to v, d long in all -/
def wk (m : Nat) (ok : Nat → Bool) (A B L : Nat → Nat) (s : Nat) : Nat → Nat → Nat → Prop
  | 0, v, d => s = v ∧ d = 0
  | n + 1, v, d => ∃ w, w < m ∧ ok w = true ∧ B w = v ∧ ∃ e, wk m ok A B L s n (A w) e ∧ d = e + L w
section GR
variable {m : Nat} {ok : Nat → Bool} {A B L : Nat → Nat}
theorem wk_cons {s : Nat} : ∀ (n : Nat) {w v e : Nat}, w < m → ok w = true → A w = s → wk m ok A B L (B w) n v e → wk m ok A B L s (n + 1) v (L w + e)
  | 0, w, v, e, h1, h2, h3, h4 => by
    obtain ⟨h5, h6⟩ := h4
    exact ⟨w, h1, h2, h5, 0, ⟨h3.symm, rfl⟩, by omega⟩
  | n + 1, w, v, e, h1, h2, h3, h4 => by
    obtain ⟨w', g1, g2, g3, e', g4, g5⟩ := h4
    exact ⟨w', g1, g2, g3, L w + e', wk_cons n h1 h2 h3 g4, by omega⟩
theorem wk_rev : ∀ (n : Nat) {s v d : Nat}, wk m ok A B L s n v d → wk m ok B A L v n s d
  | 0, s, v, d, h => ⟨h.1.symm, h.2⟩
  | n + 1, s, v, d, h => by
    obtain ⟨w, h1, h2, h3, e, h4, h5⟩ := h
    have := wk_cons (A := B) (B := A) (L := L) (s := v) n h1 h2 h3 (wk_rev n h4)
    rw [h5, Nat.add_comm e (L w)]
    exact this
theorem wk_len (hL : ∀ w, w < m → L w ≤ 100000) {s : Nat} : ∀ (n : Nat) {v d : Nat}, wk m ok A B L s n v d → d ≤ n * 100000
  | 0, v, d, h => by rw [h.2]; omega
  | n + 1, v, d, h => by
    obtain ⟨w, h1, h2, h3, e, h4, h5⟩ := h
    have := wk_len hL n h4
    have := hL w h1
    omega
/-- the nodes of a walk, and how far each is -/
theorem wk_seq {s : Nat} : ∀ (n : Nat) {v d : Nat}, wk m ok A B L s n v d → ∃ p q : Nat → Nat, p n = v ∧ q n = d ∧ (∀ i, i ≤ n → wk m ok A B L s i (p i) (q i)) ∧ ∀ i, i < n → ∃ w, w < m ∧ ok w = true ∧ A w = p i ∧ B w = p (i + 1) ∧ q (i + 1) = q i + L w
  | 0, v, d, h => ⟨fun _ => v, fun _ => d, rfl, rfl, fun i hi => by obtain rfl : i = 0 := by omega
                                                                    exact h, fun i hi => absurd hi (by omega)⟩
  | n + 1, v, d, h => by
    obtain ⟨w, h1, h2, h3, e, h4, h5⟩ := id h
    obtain ⟨p, q, g1, g2, g3, g4⟩ := wk_seq n h4
    refine ⟨fun i => if i ≤ n then p i else v, fun i => if i ≤ n then q i else d, if_neg (by omega), if_neg (by omega), fun i hi => ?_, fun i hi => ?_⟩
    · by_cases c : i ≤ n
      · simp only [c, if_true]; exact g3 i c
      · obtain rfl : i = n + 1 := by omega
        simp only [c, if_false]; exact h
    · by_cases c : i + 1 ≤ n
      · simp only [c, show i ≤ n by omega, if_true]; exact g4 i (by omega)
      · obtain rfl : i = n := by omega
        simp only [c, Nat.le_refl, if_true, if_false]
        exact ⟨w, h1, h2, g1.symm, h3, by omega⟩
theorem pigeon : ∀ (m : Nat) (p : Nat → Nat), (∀ i, i ≤ m → p i < m) → ∃ i j, i < j ∧ j ≤ m ∧ p i = p j
  | 0, p, h => absurd (h 0 (Nat.le_refl 0)) (by omega)
  | m + 1, p, h => by
    by_cases c : ∃ i, i < m + 1 ∧ p i = p (m + 1)
    · obtain ⟨i, h1, h2⟩ := c
      exact ⟨i, m + 1, h1, Nat.le_refl _, h2⟩
    · have c' : ∀ i, i < m + 1 → p i ≠ p (m + 1) := fun i hi z => c ⟨i, hi, z⟩
      obtain ⟨i, j, h1, h2, h3⟩ := pigeon m (fun i => if p (m + 1) < p i then p i - 1 else p i) (fun i hi => by
        have h1 := h i (by omega)
        have h2 := h (m + 1) (Nat.le_refl _)
        have h3 := c' i (by omega)
        by_cases c2 : p (m + 1) < p i
        · simp only [c2, if_true]; omega
        · simp only [c2, if_false]; omega)
      have a1 := c' i (by omega)
      have a2 := c' j (by omega)
      refine ⟨i, j, h1, by omega, ?_⟩
      by_cases c1 : p (m + 1) < p i <;> by_cases c2 : p (m + 1) < p j <;> simp only [c1, c2, if_true, if_false] at h3 <;> omega
theorem wk_tail {s : Nat} {p q : Nat → Nat} {n : Nat} (g : ∀ i, i < n → ∃ w, w < m ∧ ok w = true ∧ A w = p i ∧ B w = p (i + 1) ∧ q (i + 1) = q i + L w) {a j : Nat} {e : Nat} (h : wk m ok A B L s a (p j) e) : ∀ (k : Nat), j + k ≤ n → ∃ e', wk m ok A B L s (a + k) (p (j + k)) e' ∧ e' + q j = e + q (j + k)
  | 0, _ => ⟨e, h, rfl⟩
  | k + 1, hk => by
    obtain ⟨e', h1, h2⟩ := wk_tail g h k (by omega)
    obtain ⟨w, g1, g2, g3, g4, g5⟩ := g (j + k) (by omega)
    refine ⟨e' + L w, ⟨w, g1, g2, g4, e', by rw [g3]; exact h1, rfl⟩, ?_⟩
    show e' + L w + q j = e + q (j + k + 1)
    omega
theorem wk_mono {s : Nat} {p q : Nat → Nat} {n : Nat} (g : ∀ i, i < n → ∃ w, w < m ∧ ok w = true ∧ A w = p i ∧ B w = p (i + 1) ∧ q (i + 1) = q i + L w) : ∀ (k i : Nat), i + k ≤ n → q i ≤ q (i + k)
  | 0, i, _ => Nat.le_refl _
  | k + 1, i, h => by
    have := wk_mono (s := s) g k i (by omega)
    obtain ⟨w, g1, g2, g3, g4, g5⟩ := g (i + k) (by omega)
    show q i ≤ q (i + k + 1)
    omega
theorem wk_short {s : Nat} (hs : s < 10) (hB : ∀ w, w < m → B w < 10) : ∀ (N n : Nat) {v d : Nat}, n ≤ N → wk m ok A B L s n v d → ∃ n' d', n' ≤ 9 ∧ d' ≤ d ∧ wk m ok A B L s n' v d'
  | 0, n, v, d, hn, h => ⟨n, d, by omega, Nat.le_refl d, h⟩
  | N + 1, n, v, d, hn, h => by
    by_cases c : n ≤ 9
    · exact ⟨n, d, c, Nat.le_refl d, h⟩
    · obtain ⟨p, q, g1, g2, g3, g4⟩ := wk_seq n h
      have hp : ∀ i, i ≤ 10 → p i < 10 := by
        intro i hi
        cases i with
        | zero => rw [← (g3 0 (by omega)).1]; exact hs
        | succ i =>
          obtain ⟨w, a1, a2, a3, a4, a5⟩ := g4 i (by omega)
          rw [← a4]; exact hB w a1
      obtain ⟨i, j, h1, h2, h3⟩ := pigeon 10 p hp
      obtain ⟨e', k1, k2⟩ := wk_tail (s := s) g4 (j := j) (by rw [← h3]; exact g3 i (by omega)) (n - j) (by omega)
      have k3 := wk_mono (s := s) g4 (j - i) i (by omega)
      rw [show j + (n - j) = n by omega] at k1 k2
      rw [show i + (j - i) = j by omega] at k3
      rw [g1] at k1
      obtain ⟨n', d', r1, r2, r3⟩ := wk_short hs hB N (i + (n - j)) (by omega) k1
      exact ⟨n', d', r1, by omega, r3⟩
/-! ROUNDS: each way in turn shortens what it can -/
def rlx (ok : Nat → Bool) (A B L : Nat → Nat) (w : Nat) (g : Nat → Option Nat) : Nat → Option Nat := match ok w, g (A w), g (B w) with
  | true, some a, none => fun v => if v = B w then some (a + L w) else g v
  | true, some a, some b => if a + L w < b then (fun v => if v = B w then some (a + L w) else g v) else g
  | _, _, _ => g
def rnd (ok : Nat → Bool) (A B L : Nat → Nat) : Nat → (Nat → Option Nat) → Nat → Option Nat
  | 0, g => g
  | j + 1, g => rlx ok A B L j (rnd ok A B L j g)
def bf (m : Nat) (ok : Nat → Bool) (A B L : Nat → Nat) (g : Nat → Option Nat) : Nat → Nat → Option Nat
  | 0 => g
  | k + 1 => rnd ok A B L m (bf m ok A B L g k)
def dn (h g : Nat → Option Nat) : Prop := ∀ v d, g v = some d → ∃ e, h v = some e ∧ e ≤ d
theorem dn_rf (g : Nat → Option Nat) : dn g g := fun _ d h => ⟨d, h, Nat.le_refl d⟩
theorem dn_tr {f g h : Nat → Option Nat} (a : dn f g) (b : dn g h) : dn f h := fun v d hd => by
  obtain ⟨e, e1, e2⟩ := b v d hd
  obtain ⟨e', e3, e4⟩ := a v e e1
  exact ⟨e', e3, by omega⟩
theorem rlx_dn (w : Nat) (g : Nat → Option Nat) : dn (rlx ok A B L w g) g := by
  unfold rlx
  split
  · rename_i a h1 h2 h3
    intro v d hd
    by_cases c : v = B w
    · subst c; rw [h3] at hd; cases hd
    · exact ⟨d, by simp only [c, if_false]; exact hd, Nat.le_refl d⟩
  · rename_i a b h1 h2 h3
    by_cases c : a + L w < b
    · simp only [c, if_true]
      intro v d hd
      by_cases c2 : v = B w
      · subst c2; rw [h3] at hd; cases hd
        exact ⟨a + L w, by simp, by omega⟩
      · exact ⟨d, by simp only [c2, if_false]; exact hd, Nat.le_refl d⟩
    · simp only [c, if_false]; exact dn_rf g
  · exact dn_rf g
theorem rlx_hit {w : Nat} {g : Nat → Option Nat} {a : Nat} (h1 : ok w = true) (h2 : g (A w) = some a) : ∃ e, rlx ok A B L w g (B w) = some e ∧ e ≤ a + L w := by
  cases h3 : g (B w) with
  | none => exact ⟨a + L w, by simp only [rlx, h1, h2, h3, if_true], Nat.le_refl _⟩
  | some b =>
    by_cases c : a + L w < b
    · exact ⟨a + L w, by simp only [rlx, h1, h2, h3, c, if_true], Nat.le_refl _⟩
    · exact ⟨b, by simp only [rlx, h1, h2, h3, c, if_false], by omega⟩
theorem rnd_dn (g : Nat → Option Nat) : ∀ j, dn (rnd ok A B L j g) g
  | 0 => dn_rf g
  | j + 1 => dn_tr (rlx_dn j _) (rnd_dn g j)
def sd (m : Nat) (ok : Nat → Bool) (A B L : Nat → Nat) (s N : Nat) (g : Nat → Option Nat) : Prop := ∀ v d, g v = some d → ∃ n, n ≤ N ∧ wk m ok A B L s n v d
def cp (m : Nat) (ok : Nat → Bool) (A B L : Nat → Nat) (s k : Nat) (g : Nat → Option Nat) : Prop := ∀ n, n ≤ k → ∀ v d, wk m ok A B L s n v d → ∃ e, g v = some e ∧ e ≤ d
theorem cp_dn {s k : Nat} {g h : Nat → Option Nat} (c : cp m ok A B L s k g) (d : dn h g) : cp m ok A B L s k h := fun n hn v x hx => by
  obtain ⟨e, e1, e2⟩ := c n hn v x hx
  obtain ⟨e', e3, e4⟩ := d v e e1
  exact ⟨e', e3, by omega⟩
theorem rlx_sd {s N w : Nat} {g : Nat → Option Nat} (hw : w < m) (h : sd m ok A B L s N g) : sd m ok A B L s (N + 1) (rlx ok A B L w g) := by
  have h' : sd m ok A B L s (N + 1) g := fun v d hd => by
    obtain ⟨n, h1, h2⟩ := h v d hd
    exact ⟨n, by omega, h2⟩
  have key : ∀ a, ok w = true → g (A w) = some a → sd m ok A B L s (N + 1) (fun v => if v = B w then some (a + L w) else g v) := by
    intro a h1 h2 v d hd
    by_cases c : v = B w
    · subst c
      simp only [if_true] at hd
      cases hd
      obtain ⟨n, h3, h4⟩ := h (A w) a h2
      exact ⟨n + 1, by omega, w, hw, h1, rfl, a, h4, rfl⟩
    · simp only [c, if_false] at hd
      exact h' v d hd
  unfold rlx
  split
  · rename_i a h1 h2 h3
    exact key a h1 h2
  · rename_i a b h1 h2 h3
    by_cases c : a + L w < b
    · simp only [c, if_true]; exact key a h1 h2
    · simp only [c, if_false]; exact h'
  · exact h'
theorem rnd_sd {s N : Nat} {g : Nat → Option Nat} (h : sd m ok A B L s N g) : ∀ j, j ≤ m → sd m ok A B L s (N + j) (rnd ok A B L j g)
  | 0, _ => h
  | j + 1, hj => rlx_sd (by omega) (rnd_sd h j (by omega))
theorem rnd_cp {s k : Nat} {g : Nat → Option Nat} (c : cp m ok A B L s k g) : cp m ok A B L s (k + 1) (rnd ok A B L m g) := by
  have key : ∀ j, j ≤ m → ∀ w, w < j → ok w = true → ∀ n, n ≤ k → ∀ d, wk m ok A B L s n (A w) d → ∃ e, rnd ok A B L j g (B w) = some e ∧ e ≤ d + L w := by
    intro j
    induction j with
    | zero => intro _ w hw; omega
    | succ j ih =>
      intro hj w hw ho n hn d hd
      by_cases c2 : w = j
      · subst c2
        obtain ⟨a, a1, a2⟩ := cp_dn c (rnd_dn g w) n hn (A w) d hd
        obtain ⟨e, e1, e2⟩ := rlx_hit (B := B) (L := L) ho a1
        exact ⟨e, e1, by omega⟩
      · obtain ⟨e, e1, e2⟩ := ih (by omega) w (by omega) ho n hn d hd
        obtain ⟨e', e3, e4⟩ := rlx_dn (ok := ok) (A := A) (B := B) (L := L) j (rnd ok A B L j g) (B w) e e1
        exact ⟨e', e3, by omega⟩
  intro n hn v d hd
  by_cases c2 : n ≤ k
  · exact cp_dn c (rnd_dn g m) n c2 v d hd
  · obtain rfl : n = k + 1 := by omega
    obtain ⟨w, h1, h2, h3, e, h4, h5⟩ := hd
    obtain ⟨e', e1, e2⟩ := key m (Nat.le_refl m) w h1 h2 k (Nat.le_refl k) e h4
    rw [h3] at e1
    exact ⟨e', e1, by omega⟩
def g0 (s : Nat) : Nat → Option Nat := fun v => if v = s then some 0 else none
theorem bf_sd (s : Nat) : ∀ k, sd m ok A B L s (k * m) (bf m ok A B L (g0 s) k)
  | 0 => fun v d hd => by
    by_cases c : v = s
    · subst c
      simp only [bf, g0, if_true] at hd
      cases hd
      exact ⟨0, by omega, rfl, rfl⟩
    · simp [bf, g0, c] at hd
  | k + 1 => by
    have := rnd_sd (bf_sd s k) m (Nat.le_refl m)
    rw [Nat.succ_mul]
    exact this
theorem bf_cp (s : Nat) : ∀ k, cp m ok A B L s k (bf m ok A B L (g0 s) k)
  | 0 => fun n hn v d hd => by
    obtain rfl : n = 0 := by omega
    obtain ⟨h1, h2⟩ := hd
    exact ⟨0, by simp [bf, g0, h1], by omega⟩
  | k + 1 => rnd_cp (bf_cp s k)
/-- ten rounds are enough -/
theorem bf_all {s : Nat} (hs : s < 10) (hB : ∀ w, w < m → B w < 10) {n v d : Nat} (h : wk m ok A B L s n v d) : ∃ e, bf m ok A B L (g0 s) 10 v = some e ∧ e ≤ d := by
  obtain ⟨n', d', h1, h2, h3⟩ := wk_short hs hB n n (Nat.le_refl n) h
  obtain ⟨e, e1, e2⟩ := bf_cp (m := m) (ok := ok) (A := A) (B := B) (L := L) s 10 n' (by omega) v d' h3
  exact ⟨e, e1, by omega⟩
/-- forward from s, or back from t: the same number -/
theorem bf_two {s t : Nat} (hs : s < 10) (ht : t < 10) (hA : ∀ w, w < m → A w < 10) (hB : ∀ w, w < m → B w < 10) : bf m ok A B L (g0 s) 10 t = bf m ok B A L (g0 t) 10 s := by
  cases h1 : bf m ok A B L (g0 s) 10 t with
  | none =>
    cases h2 : bf m ok B A L (g0 t) 10 s with
    | none => rfl
    | some b =>
      obtain ⟨n, _, h3⟩ := bf_sd t 10 s b h2
      obtain ⟨e, h4, _⟩ := bf_all hs hB (wk_rev n h3)
      rw [h4] at h1; cases h1
  | some a =>
    obtain ⟨n, _, h3⟩ := bf_sd s 10 t a h1
    obtain ⟨e, h4, h5⟩ := bf_all ht hA (wk_rev n h3)
    rw [h4]
    obtain ⟨n', _, h6⟩ := bf_sd t 10 s e h4
    obtain ⟨e', h7, h8⟩ := bf_all hs hB (wk_rev n' h6)
    rw [h7] at h1
    cases h1
    exact congrArg some (by omega)
theorem bf_len {s : Nat} (hs : s < 10) (hB : ∀ w, w < m → B w < 10) (hL : ∀ w, w < m → L w ≤ 100000) {v d : Nat} (h : bf m ok A B L (g0 s) 10 v = some d) : d ≤ 900000 := by
  obtain ⟨n, _, h3⟩ := bf_sd s 10 v d h
  obtain ⟨n', d', h4, h5, h6⟩ := wk_short hs hB n n (Nat.le_refl n) h3
  obtain ⟨e, h7, h8⟩ := bf_all hs hB h6
  have := wk_len hL n' h6
  rw [h7] at h
  cases h
  omega
/-- a round that changes nothing: so will the next -/
theorem bf_stop {g : Nat → Option Nat} {k : Nat} (h : rnd ok A B L m (bf m ok A B L g k) = bf m ok A B L g k) : ∀ j, bf m ok A B L g (k + j) = bf m ok A B L g k
  | 0 => rfl
  | j + 1 => by
    show rnd ok A B L m (bf m ok A B L g (k + j)) = _
    rw [bf_stop h j]
    exact h
end GR
