/-! THE CONSTRUCTORS: a memory of n cells -/
theorem bs_ {α β : Type} {x : Option α} {a : α} {f : α → Option β} {r : Option β} (h : x = some a) (k : f a = r) : x.bind f = r := by rw [h]; exact k
def uE (c : Nat → px_E) (i : Nat) (x : px_E) : Nat → px_E := fun j => if j = i then x else c j
theorem uE_s (c : Nat → px_E) (i : Nat) (x : px_E) : uE c i x i = x := by simp [uE]
theorem uE_n {c : Nat → px_E} {i j : Nat} {x : px_E} (h : j ≠ i) : uE c i x j = c j := by simp [uE, h]
def fM (bs n : Nat) (c : Nat → px_E) : px_M := (fun q => if q < bs then none else if q < bs + n then some (c (q - bs)) else none, bs + n)
theorem fM_at {bs n i : Nat} {c : Nat → px_E} (h : i < n) : (fM bs n c).1 (bs + i) = some (c i) := by
  have e1 : ¬ bs + i < bs := by omega
  have e2 : bs + i < bs + n := by omega
  have e3 : bs + i - bs = i := by omega
  simp only [fM, if_neg e1, if_pos e2, e3]
theorem fM_ext {bs n : Nat} {c c' : Nat → px_E} (h : ∀ i, i < n → c i = c' i) : fM bs n c = fM bs n c' := by
  unfold fM
  refine Prod.ext ?_ rfl
  funext q
  dsimp only
  by_cases e1 : q < bs
  · simp only [if_pos e1]
  · by_cases e2 : q < bs + n
    · simp only [if_neg e1, if_pos e2, h (q - bs) (by omega)]
    · simp only [if_neg e1, if_neg e2]
theorem fM_push (bs n : Nat) (c : Nat → px_E) (x : px_E) : px_push (fM bs n c) x = fM bs (n + 1) (uE c n x) := by
  unfold px_push fM
  refine Prod.ext ?_ rfl
  funext q
  dsimp only
  by_cases e1 : q < bs
  · have e2 : ¬ q = bs + n := by omega
    simp only [if_pos e1, if_neg e2]
  · by_cases e2 : q = bs + n
    · subst e2
      have e3 : bs + n < bs + (n + 1) := by omega
      have e4 : bs + n - bs = n := by omega
      simp only [if_true, if_neg e1, if_pos e3, e4, uE_s]
    · by_cases e3 : q < bs + n
      · have e4 : q < bs + (n + 1) := by omega
        simp only [if_neg e1, if_neg e2, if_pos e3, if_pos e4, uE_n (show q - bs ≠ n by omega)]
      · have e4 : ¬ q < bs + (n + 1) := by omega
        simp only [if_neg e1, if_neg e2, if_neg e3, if_neg e4]
theorem fM_set {bs n i : Nat} {c : Nat → px_E} (h : i < n) (x : px_E) : px_set (fM bs n c) (bs + i) x = fM bs n (uE c i x) := by
  unfold px_set fM
  refine Prod.ext ?_ rfl
  funext q
  dsimp only
  by_cases e2 : q = bs + i
  · subst e2
    have e1 : ¬ bs + i < bs := by omega
    have e3 : bs + i < bs + n := by omega
    have e4 : bs + i - bs = i := by omega
    simp only [if_true, if_neg e1, if_pos e3, e4, uE_s]
  · by_cases e1 : q < bs
    · simp only [if_pos e1, if_neg e2]
    · by_cases e3 : q < bs + n
      · simp only [if_neg e1, if_neg e2, if_pos e3, uE_n (show q - bs ≠ i by omega)]
      · simp only [if_neg e1, if_neg e2, if_neg e3]
theorem fM_pt {bs n i ci k : Nat} {c : Nat → px_E} {fs : List Value} {v : Value} (hi : i < n) (hc : c i = .inr (ci, fs)) (hk : k < fs.length) : px_pt ci k (fM bs n c) (bs + i) v = some (fM bs n (uE c i (.inr (ci, fs.set k v)))) := by
  rw [px_pt_of ((fM_at hi).trans (congrArg some hc)) hk, fM_set hi]
theorem fM_gr {bs n i ci k x : Nat} {c : Nat → px_E} {fs : List Value} (hi : i < n) (hc : c i = .inr (ci, fs)) (hv : fs[k]? = some (.ref x)) : px_gr ci k (fM bs n c) (bs + i) = some x := px_gr_of ((fM_at hi).trans (congrArg some hc)) hv
theorem fM_gi {bs n i ci k : Nat} {x : Int32} {c : Nat → px_E} {fs : List Value} (hi : i < n) (hc : c i = .inr (ci, fs)) (hv : fs[k]? = some (.int x)) : px_gi ci k (fM bs n c) (bs + i) = some x := px_gi_of ((fM_at hi).trans (congrArg some hc)) hv
theorem fM_ob {bs n i ci : Nat} {c : Nat → px_E} {fs : List Value} (hi : i < n) (hc : c i = .inr (ci, fs)) : px_ob ci (fM bs n c) (bs + i) = some () := px_ob_of ((fM_at hi).trans (congrArg some hc))
theorem fM_si {bs n i t m : Nat} {c : Nat → px_E} {f : Nat → Int32} {x v : Int32} (hi : i < n) (hc : c i = .inl (t, m, .inl f)) (h0 : ¬ x < 0) (hm : x.toNatClampNeg < m) : px_si t (fM bs n c) (bs + i) x v = some (fM bs n (uE c i (.inl (t, m, .inl (upd f x.toNatClampNeg v))))) := by
  rw [px_si_of ((fM_at hi).trans (congrArg some hc)) h0 hm, fM_set hi]
theorem fM_al {bs n i t m : Nat} {c : Nat → px_E} {f : _} (hi : i < n) (hc : c i = .inl (t, m, f)) : px_al t (fM bs n c) (bs + i) = some (Int32.ofNat m) := by
  simp only [px_al, fM_at hi, hc, if_true]
theorem fM_sr {bs n i j t ci m : Nat} {c : Nat → px_E} {f : Nat → Option Nat} {fs : List Value} {x : Int32} (hi : i < n) (hj : j < n) (hc : c i = .inl (t, m, .inr (.inr (.inr (.inr f))))) (hv : c j = .inr (ci, fs)) (h0 : ¬ x < 0) (hm : x.toNatClampNeg < m) : px_sr t ci (fM bs n c) (bs + i) x (bs + j) = some (fM bs n (uE c i (.inl (t, m, .inr (.inr (.inr (.inr (va_up f x.toNatClampNeg (some (bs + j)))))))))) := by
  simp only [px_sr, fM_at hi, fM_at hj, hc, hv, h0, hm, not_false_eq_true, and_self, if_true, fM_set hi]
theorem bE {α : Type} {x : Option α} {a : α} {f : α → Option px_M} {bs n : Nat} {P : (Nat → px_E) → Prop} (h : x = some a) (k : ∃ c', f a = some (fM bs n c') ∧ P c') : ∃ c', x.bind f = some (fM bs n c') ∧ P c' := by rw [h]; exact k
abbrev ze : Nat → Int32 := fun _ => 0
theorem i_TX (bs n : Nat) (c : Nat → px_E) (h : c n = .inr (1, [.null, .int 0])) : ∃ c', f_TX_init (bs + n) (fM bs (n + 1) c) = some (fM bs (n + 2) c') ∧ (∀ i, i < n → c' i = c i) ∧ c' n = .inr (1, [.ref (bs + (n + 1)), .int 0]) ∧ c' (n + 1) = .inl (0, 100, .inl ze) := by
  unfold f_TX_init
  refine bE (congrArg some (fM_push ..)) ?_
  refine bE (fM_pt (i := n) (by omega) ((uE_n (by omega)).trans h) (Nat.le_of_ble_eq_true rfl)) ?_
  refine ⟨_, rfl, fun i hi => ?_, ?_, ?_⟩
  · rw [uE_n (by omega), uE_n (by omega)]
  · rw [uE_s]; rfl
  · rw [uE_n (by omega), uE_s]
theorem i_RR (bs n o : Nat) (c : Nat → px_E) (h : c n = .inr (2, [.null, .null, .int 0, .int 0, .int 0, .int 0])) : ∃ c', f_RR_init (bs + n) o (fM bs (n + 1) c) = some (fM bs (n + 1) c') ∧ (∀ i, i < n → c' i = c i) ∧ c' n = .inr (2, [.ref o, .null, .int 0, .int 0, .int 0, .int 0]) := by
  unfold f_RR_init
  refine bE (fM_pt (i := n) (by omega) h (Nat.le_of_ble_eq_true rfl)) ?_
  refine ⟨_, rfl, fun i hi => ?_, ?_⟩
  · rw [uE_n (by omega)]
  · rw [uE_s]; rfl
theorem i_add (bs n : Nat) (c : Nat → px_E) (f g : Nat → Int32) (x y z : Int32) (h : c n = .inr (3, [.ref (bs + (n + 1)), .ref (bs + (n + 2)), .int 0, .int x, .int y, .int z])) (h1 : c (n + 1) = .inl (0, 5, .inl f)) (h2 : c (n + 2) = .inl (0, 5, .inl g)) : ∃ c', f_RS_addStep (bs + n) 50 100 (fM bs (n + 3) c) = some (fM bs (n + 3) c') ∧ (∀ i, i < n → c' i = c i) ∧ c' n = .inr (3, [.ref (bs + (n + 1)), .ref (bs + (n + 2)), .int 1, .int x, .int y, .int z]) ∧ c' (n + 1) = .inl (0, 5, .inl (upd f 0 50)) ∧ c' (n + 2) = .inl (0, 5, .inl (upd g 0 100)) := by
  unfold f_RS_addStep
  refine bE (fM_gi (i := n) (by omega) h rfl) ?_
  rw [if_neg (by decide)]
  refine bE (fM_gr (i := n) (by omega) h rfl) ?_
  refine bE (fM_gi (i := n) (by omega) h rfl) ?_
  refine bE (fM_si (i := n + 1) (by omega) h1 (by decide) (by decide)) ?_
  refine bE (fM_gr (i := n) (by omega) ((uE_n (by omega)).trans h) rfl) ?_
  refine bE (fM_gi (i := n) (by omega) ((uE_n (by omega)).trans h) rfl) ?_
  refine bE (fM_si (i := n + 2) (by omega) ((uE_n (by omega)).trans h2) (by decide) (by decide)) ?_
  refine bE (fM_gi (i := n) (by omega) ((uE_n (by omega)).trans ((uE_n (by omega)).trans h)) rfl) ?_
  refine bE (fM_pt (i := n) (by omega) ((uE_n (by omega)).trans ((uE_n (by omega)).trans h)) (Nat.le_of_ble_eq_true rfl)) ?_
  refine ⟨_, rfl, fun i hi => ?_, ?_, ?_, ?_⟩
  · rw [uE_n (by omega), uE_n (by omega), uE_n (by omega)]
  · rw [uE_s]; rfl
  · rw [uE_n (by omega), uE_n (by omega), uE_s]; rfl
  · rw [uE_n (by omega), uE_s]; rfl
theorem i_SA (bs n : Nat) (c : Nat → px_E) (h : c n = .inr (3, [.ref (bs + (n + 1)), .ref (bs + (n + 2)), .int 0, .int 0, .int 0, .int 0])) (h1 : c (n + 1) = .inl (0, 5, .inl ze)) (h2 : c (n + 2) = .inl (0, 5, .inl ze)) : ∃ c', f_RS_setAsAtFirst (bs + n) (fM bs (n + 3) c) = some (fM bs (n + 3) c') ∧ (∀ i, i < n → c' i = c i) ∧ c' n = .inr (3, [.ref (bs + (n + 1)), .ref (bs + (n + 2)), .int 1, .int 0, .int 0, .int 116]) ∧ c' (n + 1) = .inl (0, 5, .inl (upd ze 0 50)) ∧ c' (n + 2) = .inl (0, 5, .inl (upd ze 0 100)) := by
  unfold f_RS_setAsAtFirst
  refine bE (fM_pt (i := n) (by omega) h (Nat.le_of_ble_eq_true rfl)) ?_
  refine bE (fM_ob (i := n) (by omega) (uE_s ..)) ?_
  obtain ⟨c1, k1, k2, k3, k4, k5⟩ := i_add bs n (uE c n (.inr (3, [.ref (bs + (n + 1)), .ref (bs + (n + 2)), .int 0, .int 0, .int 0, .int 0]))) ze ze 0 0 0 (uE_s ..) ((uE_n (by omega)).trans h1) ((uE_n (by omega)).trans h2)
  refine bE k1 ?_
  refine bE (fM_pt (i := n) (by omega) k3 (Nat.le_of_ble_eq_true rfl)) ?_
  refine bE (fM_pt (i := n) (by omega) (uE_s ..) (Nat.le_of_ble_eq_true rfl)) ?_
  refine bE (fM_pt (i := n) (by omega) (uE_s ..) (Nat.le_of_ble_eq_true rfl)) ?_
  refine ⟨_, rfl, fun i hi => ?_, ?_, ?_, ?_⟩
  · rw [uE_n (by omega), uE_n (by omega), uE_n (by omega), k2 i hi, uE_n (by omega)]
  · rw [uE_s]; rfl
  · rw [uE_n (by omega), uE_n (by omega), uE_n (by omega), k4]
  · rw [uE_n (by omega), uE_n (by omega), uE_n (by omega), k5]
theorem i_RS (bs n : Nat) (c : Nat → px_E) (h : c n = .inr (3, [.null, .null, .int 0, .int 0, .int 0, .int 0])) : ∃ c', f_RS_init (bs + n) (fM bs (n + 1) c) = some (fM bs (n + 3) c') ∧ (∀ i, i < n → c' i = c i) ∧ c' n = .inr (3, [.ref (bs + (n + 1)), .ref (bs + (n + 2)), .int 1, .int 0, .int 0, .int 116]) ∧ c' (n + 1) = .inl (0, 5, .inl (upd ze 0 50)) ∧ c' (n + 2) = .inl (0, 5, .inl (upd ze 0 100)) := by
  unfold f_RS_init
  refine bE (congrArg some (fM_push ..)) ?_
  refine bE (fM_pt (i := n) (by omega) ((uE_n (by omega)).trans h) (Nat.le_of_ble_eq_true rfl)) ?_
  refine bE (congrArg some (fM_push ..)) ?_
  refine bE (fM_pt (i := n) (by omega) ((uE_n (by omega)).trans (uE_s ..)) (Nat.le_of_ble_eq_true rfl)) ?_
  refine bE (fM_ob (i := n) (by omega) (uE_s ..)) ?_
  obtain ⟨c1, k1, k2, k3, k4, k5⟩ := i_SA bs n (uE (uE (uE (uE c (n + 1) (.inl (0, 5, .inl ze))) n (.inr (3, [.ref (bs + (n + 1)), .null, .int 0, .int 0, .int 0, .int 0]))) (n + 2) (.inl (0, 5, .inl ze))) n (.inr (3, [.ref (bs + (n + 1)), .ref (bs + (n + 2)), .int 0, .int 0, .int 0, .int 0]))) (uE_s ..) (by rw [uE_n (by omega), uE_n (by omega), uE_n (by omega), uE_s]) (by rw [uE_n (by omega), uE_s])
  refine bE k1 ?_
  refine ⟨c1, rfl, fun i hi => ?_, k3, k4, k5⟩
  rw [k2 i hi, uE_n (by omega), uE_n (by omega), uE_n (by omega), uE_n (by omega)]
def w8 (i : Nat) (n : Nat) (f : Nat → Int32) : Nat → Int32 := fun j => if i ≤ j ∧ j < n then 8 else f j
theorem w8_e (n : Nat) (f : Nat → Int32) : w8 n n f = f := by funext j; unfold w8; rw [if_neg (by omega)]
theorem w8_s {i n : Nat} (f : Nat → Int32) (h : i < n) : w8 (i + 1) n (upd f i 8) = w8 i n f := by
  funext j
  unfold w8
  by_cases c : j = i
  · subst c
    rw [if_neg (by omega), if_pos (by omega)]
    exact pk_us
  · by_cases c2 : i + 1 ≤ j ∧ j < n
    · rw [if_pos c2, if_pos (by omega)]
    · rw [if_neg c2, if_neg (by omega), pk_un c]
theorem i_LEL (bs n N : Nat) (hN : n + 1 < N) {fs : List Value} (hf : fs[0]? = some (.ref (bs + (n + 1)))) : ∀ (m i fu : Nat) (c : Nat → px_E) (f : Nat → Int32), i + m = 95 → m < fu → c n = .inr (4, fs) → c (n + 1) = .inl (0, 95, .inl f) → ∃ c', f_LE_init_L38 fu (bs + n) (nI i) (fM bs N c) = some ((), fM bs N c') ∧ (∀ j, j ≠ n + 1 → c' j = c j) ∧ c' (n + 1) = .inl (0, 95, .inl (w8 i 95 f)) := by
  intro m
  induction m with
  | zero =>
    intro i fu c f hi hm h1 h2
    obtain ⟨fu, rfl⟩ : ∃ n', fu = n' + 1 := ⟨fu - 1, by omega⟩
    obtain rfl : i = 95 := by omega
    refine ⟨c, ?_, fun _ _ => rfl, by rw [w8_e]; exact h2⟩
    unfold f_LE_init_L38
    refine bs_ (fM_gr (i := n) (by omega) h1 hf) ?_
    refine bs_ (fM_al (i := n + 1) hN h2) ?_
    rw [if_pos (by decide)]
  | succ m ih =>
    intro i fu c f hi hm h1 h2
    obtain ⟨fu, rfl⟩ : ∃ n', fu = n' + 1 := ⟨fu - 1, by omega⟩
    have e : (nI i).toNatClampNeg = i := nI_clamp (by omega)
    have k := fM_si (bs := bs) (n := N) (i := n + 1) (x := nI i) (v := 8) hN h2 (nI_pos (by omega)) (by omega)
    rw [e] at k
    obtain ⟨c', k1, k2, k3⟩ := ih (i + 1) fu (uE c (n + 1) (.inl (0, 95, .inl (upd f i 8)))) (upd f i 8) (by omega) (by omega) ((uE_n (by omega)).trans h1) (uE_s ..)
    refine ⟨c', ?_, fun j hj => by rw [k2 j hj, uE_n hj], by rw [k3, w8_s f (by omega)]⟩
    unfold f_LE_init_L38
    refine bs_ (fM_gr (i := n) (by omega) h1 hf) ?_
    refine bs_ (fM_al (i := n + 1) hN h2) ?_
    rw [if_neg (by show ¬ nI 95 ≤ nI i; rw [nI_leI (by omega) (by omega)]; omega)]
    refine bs_ (fM_gr (i := n) (by omega) h1 hf) ?_
    refine bs_ k ?_
    rw [nI_1]
    exact k1
theorem i_LE (bs n : Nat) (c : Nat → px_E) (h : c n = .inr (4, [.null, .null, .null, .null, .int 0])) : ∃ c', f_LE_init (bs + n) (fM bs (n + 1) c) = some (fM bs (n + 5) c') ∧ (∀ i, i < n → c' i = c i) ∧ c' n = .inr (4, [.ref (bs + (n + 1)), .ref (bs + (n + 2)), .ref (bs + (n + 3)), .ref (bs + (n + 4)), .int 0]) ∧ c' (n + 1) = .inl (0, 95, .inl (w8 0 95 ze)) ∧ c' (n + 2) = .inl (0, 60, .inl ze) ∧ c' (n + 3) = .inl (0, 60, .inl ze) ∧ c' (n + 4) = .inl (0, 60, .inl ze) := by
  unfold f_LE_init
  refine bE (congrArg some (fM_push ..)) ?_
  refine bE (fM_pt (i := n) (by omega) ((uE_n (by omega)).trans h) (Nat.le_of_ble_eq_true rfl)) ?_
  refine bE (congrArg some (fM_push ..)) ?_
  refine bE (fM_pt (i := n) (by omega) ((uE_n (by omega)).trans (uE_s ..)) (Nat.le_of_ble_eq_true rfl)) ?_
  refine bE (congrArg some (fM_push ..)) ?_
  refine bE (fM_pt (i := n) (by omega) ((uE_n (by omega)).trans (uE_s ..)) (Nat.le_of_ble_eq_true rfl)) ?_
  refine bE (congrArg some (fM_push ..)) ?_
  refine bE (fM_pt (i := n) (by omega) ((uE_n (by omega)).trans (uE_s ..)) (Nat.le_of_ble_eq_true rfl)) ?_
  obtain ⟨c1, k1, k2, k3⟩ := i_LEL bs n (n + 5) (by omega) (fs := [.ref (bs + (n + 1)), .ref (bs + (n + 2)), .ref (bs + (n + 3)), .ref (bs + (n + 4)), .int 0]) rfl 95 0 px_fuel (uE (uE (uE (uE (uE (uE (uE (uE c (n + 1) (.inl (0, 95, .inl ze))) n (.inr (4, [.ref (bs + (n + 1)), .null, .null, .null, .int 0]))) (n + 2) (.inl (0, 60, .inl ze))) n (.inr (4, [.ref (bs + (n + 1)), .ref (bs + (n + 2)), .null, .null, .int 0]))) (n + 3) (.inl (0, 60, .inl ze))) n (.inr (4, [.ref (bs + (n + 1)), .ref (bs + (n + 2)), .ref (bs + (n + 3)), .null, .int 0]))) (n + 4) (.inl (0, 60, .inl ze))) n (.inr (4, [.ref (bs + (n + 1)), .ref (bs + (n + 2)), .ref (bs + (n + 3)), .ref (bs + (n + 4)), .int 0]))) ze (by omega) (by unfold px_fuel; omega) (uE_s ..) (by rw [uE_n (by omega), uE_n (by omega), uE_n (by omega), uE_n (by omega), uE_n (by omega), uE_n (by omega), uE_n (by omega), uE_s])
  refine bE k1 ?_
  refine ⟨c1, rfl, fun i hi => ?_, ?_, k3, ?_, ?_, ?_⟩
  · rw [k2 i (by omega), uE_n (by omega), uE_n (by omega), uE_n (by omega), uE_n (by omega), uE_n (by omega), uE_n (by omega), uE_n (by omega), uE_n (by omega)]
  · rw [k2 n (by omega), uE_s]
  · rw [k2 _ (by omega), uE_n (by omega), uE_n (by omega), uE_n (by omega), uE_n (by omega), uE_n (by omega), uE_s]
  · rw [k2 _ (by omega), uE_n (by omega), uE_n (by omega), uE_n (by omega), uE_s]
  · rw [k2 _ (by omega), uE_n (by omega), uE_s]
theorem i_RO (bs n : Nat) (c : Nat → px_E) (h : c n = .inr (5, [.null, .null, .null, .null, .null, .int 0])) : ∃ c', f_RO_init (bs + n) (fM bs (n + 1) c) = some (fM bs (n + 6) c') ∧ (∀ i, i < n → c' i = c i) ∧ c' n = .inr (5, [.ref (bs + (n + 1)), .ref (bs + (n + 2)), .ref (bs + (n + 3)), .ref (bs + (n + 4)), .ref (bs + (n + 5)), .int 0]) ∧ c' (n + 1) = .inl (0, 24, .inl ze) ∧ c' (n + 2) = .inl (0, 24, .inl ze) ∧ c' (n + 3) = .inl (0, 24, .inl ze) ∧ c' (n + 4) = .inl (0, 24, .inl ze) ∧ c' (n + 5) = .inl (0, 10, .inl ze) := by
  unfold f_RO_init
  refine bE (congrArg some (fM_push ..)) ?_
  refine bE (fM_pt (i := n) (by omega) ((uE_n (by omega)).trans h) (Nat.le_of_ble_eq_true rfl)) ?_
  refine bE (congrArg some (fM_push ..)) ?_
  refine bE (fM_pt (i := n) (by omega) ((uE_n (by omega)).trans (uE_s ..)) (Nat.le_of_ble_eq_true rfl)) ?_
  refine bE (congrArg some (fM_push ..)) ?_
  refine bE (fM_pt (i := n) (by omega) ((uE_n (by omega)).trans (uE_s ..)) (Nat.le_of_ble_eq_true rfl)) ?_
  refine bE (congrArg some (fM_push ..)) ?_
  refine bE (fM_pt (i := n) (by omega) ((uE_n (by omega)).trans (uE_s ..)) (Nat.le_of_ble_eq_true rfl)) ?_
  refine bE (congrArg some (fM_push ..)) ?_
  refine bE (fM_pt (i := n) (by omega) ((uE_n (by omega)).trans (uE_s ..)) (Nat.le_of_ble_eq_true rfl)) ?_
  refine ⟨_, rfl, fun i hi => ?_, ?_, ?_, ?_, ?_, ?_, ?_⟩
  · rw [uE_n (by omega), uE_n (by omega), uE_n (by omega), uE_n (by omega), uE_n (by omega), uE_n (by omega), uE_n (by omega), uE_n (by omega), uE_n (by omega), uE_n (by omega)]
  · rw [uE_s]; rfl
  · rw [uE_n (by omega), uE_n (by omega), uE_n (by omega), uE_n (by omega), uE_n (by omega), uE_n (by omega), uE_n (by omega), uE_n (by omega), uE_n (by omega), uE_s]
  · rw [uE_n (by omega), uE_n (by omega), uE_n (by omega), uE_n (by omega), uE_n (by omega), uE_n (by omega), uE_n (by omega), uE_s]
  · rw [uE_n (by omega), uE_n (by omega), uE_n (by omega), uE_n (by omega), uE_n (by omega), uE_s]
  · rw [uE_n (by omega), uE_n (by omega), uE_n (by omega), uE_s]
  · rw [uE_n (by omega), uE_s]
theorem i_LO (bs n o1 o2 : Nat) (c : Nat → px_E) (h : c n = .inr (6, [.null, .null, .null, .null])) : ∃ c', f_LO_init (bs + n) o1 o2 (fM bs (n + 1) c) = some (fM bs (n + 3) c') ∧ (∀ i, i < n → c' i = c i) ∧ c' n = .inr (6, [.ref o1, .ref o2, .ref (bs + (n + 1)), .ref (bs + (n + 2))]) ∧ c' (n + 1) = .inl (0, 5, .inl ze) ∧ c' (n + 2) = .inl (0, 5, .inl ze) := by
  unfold f_LO_init
  refine bE (congrArg some (fM_push ..)) ?_
  refine bE (fM_pt (i := n) (by omega) ((uE_n (by omega)).trans h) (Nat.le_of_ble_eq_true rfl)) ?_
  refine bE (congrArg some (fM_push ..)) ?_
  refine bE (fM_pt (i := n) (by omega) ((uE_n (by omega)).trans (uE_s ..)) (Nat.le_of_ble_eq_true rfl)) ?_
  refine bE (fM_pt (i := n) (by omega) (uE_s ..) (Nat.le_of_ble_eq_true rfl)) ?_
  refine bE (fM_pt (i := n) (by omega) (uE_s ..) (Nat.le_of_ble_eq_true rfl)) ?_
  refine ⟨_, rfl, fun i hi => ?_, ?_, ?_, ?_⟩
  · rw [uE_n (by omega), uE_n (by omega), uE_n (by omega), uE_n (by omega), uE_n (by omega), uE_n (by omega)]
  · rw [uE_s]; rfl
  · rw [uE_n (by omega), uE_n (by omega), uE_n (by omega), uE_n (by omega), uE_n (by omega), uE_s]
  · rw [uE_n (by omega), uE_n (by omega), uE_n (by omega), uE_s]
theorem i_SH (bs n o1 o2 : Nat) (c : Nat → px_E) (h : c n = .inr (7, [.null, .null, .null, .null, .int 0, .int 0, .int 0, .int 0, .int 0])) : ∃ c', f_SH_init (bs + n) o1 o2 (fM bs (n + 1) c) = some (fM bs (n + 2) c') ∧ (∀ i, i < n → c' i = c i) ∧ c' n = .inr (7, [.ref o1, .ref o2, .ref (bs + (n + 1)), .null, .int 0, .int 0, .int 0, .int 0, .int 0]) ∧ c' (n + 1) = .inl (0, 5, .inl ze) := by
  unfold f_SH_init
  refine bE (congrArg some (fM_push ..)) ?_
  refine bE (fM_pt (i := n) (by omega) ((uE_n (by omega)).trans h) (Nat.le_of_ble_eq_true rfl)) ?_
  refine bE (fM_pt (i := n) (by omega) (uE_s ..) (Nat.le_of_ble_eq_true rfl)) ?_
  refine bE (fM_pt (i := n) (by omega) (uE_s ..) (Nat.le_of_ble_eq_true rfl)) ?_
  refine ⟨_, rfl, fun i hi => ?_, ?_, ?_⟩
  · rw [uE_n (by omega), uE_n (by omega), uE_n (by omega), uE_n (by omega)]
  · rw [uE_s]; rfl
  · rw [uE_n (by omega), uE_n (by omega), uE_n (by omega), uE_s]
theorem i_BL (bs n o1 o2 : Nat) (c : Nat → px_E) (h : c n = .inr (8, [.null, .null, .null, .null, .null, .int 0])) : ∃ c', f_BL_init (bs + n) o1 o2 (fM bs (n + 1) c) = some (fM bs (n + 4) c') ∧ (∀ i, i < n → c' i = c i) ∧ c' n = .inr (8, [.ref o1, .ref o2, .ref (bs + (n + 1)), .ref (bs + (n + 2)), .ref (bs + (n + 3)), .int 0]) ∧ c' (n + 1) = .inl (0, 40, .inl ze) ∧ c' (n + 2) = .inl (0, 40, .inl ze) ∧ c' (n + 3) = .inl (0, 40, .inl ze) := by
  unfold f_BL_init
  refine bE (congrArg some (fM_push ..)) ?_
  refine bE (fM_pt (i := n) (by omega) ((uE_n (by omega)).trans h) (Nat.le_of_ble_eq_true rfl)) ?_
  refine bE (congrArg some (fM_push ..)) ?_
  refine bE (fM_pt (i := n) (by omega) ((uE_n (by omega)).trans (uE_s ..)) (Nat.le_of_ble_eq_true rfl)) ?_
  refine bE (congrArg some (fM_push ..)) ?_
  refine bE (fM_pt (i := n) (by omega) ((uE_n (by omega)).trans (uE_s ..)) (Nat.le_of_ble_eq_true rfl)) ?_
  refine bE (fM_pt (i := n) (by omega) (uE_s ..) (Nat.le_of_ble_eq_true rfl)) ?_
  refine bE (fM_pt (i := n) (by omega) (uE_s ..) (Nat.le_of_ble_eq_true rfl)) ?_
  refine ⟨_, rfl, fun i hi => ?_, ?_, ?_, ?_, ?_⟩
  · rw [uE_n (by omega), uE_n (by omega), uE_n (by omega), uE_n (by omega), uE_n (by omega), uE_n (by omega), uE_n (by omega), uE_n (by omega)]
  · rw [uE_s]; rfl
  · rw [uE_n (by omega), uE_n (by omega), uE_n (by omega), uE_n (by omega), uE_n (by omega), uE_n (by omega), uE_n (by omega), uE_s]
  · rw [uE_n (by omega), uE_n (by omega), uE_n (by omega), uE_n (by omega), uE_n (by omega), uE_s]
  · rw [uE_n (by omega), uE_n (by omega), uE_n (by omega), uE_s]
theorem i_NA (bs n : Nat) (c : Nat → px_E) (h : c n = .inr (9, [.null, .int 0, .int 0])) : ∃ c', f_NA_init (bs + n) (fM bs (n + 1) c) = some (fM bs (n + 2) c') ∧ (∀ i, i < n → c' i = c i) ∧ c' n = .inr (9, [.ref (bs + (n + 1)), .int 0, .int ((-1))]) ∧ c' (n + 1) = .inl (0, 12, .inl ze) := by
  unfold f_NA_init
  refine bE (congrArg some (fM_push ..)) ?_
  refine bE (fM_pt (i := n) (by omega) ((uE_n (by omega)).trans h) (Nat.le_of_ble_eq_true rfl)) ?_
  refine bE (fM_pt (i := n) (by omega) (uE_s ..) (Nat.le_of_ble_eq_true rfl)) ?_
  refine ⟨_, rfl, fun i hi => ?_, ?_, ?_⟩
  · rw [uE_n (by omega), uE_n (by omega), uE_n (by omega)]
  · rw [uE_s]; rfl
  · rw [uE_n (by omega), uE_n (by omega), uE_s]
theorem i_BO (bs n : Nat) (c : Nat → px_E) (h : c n = .inr (10, [.null, .null, .int 0, .int 0, .int 0])) : ∃ c', f_BO_init (bs + n) (fM bs (n + 1) c) = some (fM bs (n + 3) c') ∧ (∀ i, i < n → c' i = c i) ∧ c' n = .inr (10, [.ref (bs + (n + 1)), .ref (bs + (n + 2)), .int 0, .int 0, .int 0]) ∧ c' (n + 1) = .inl (0, 5, .inl ze) ∧ c' (n + 2) = .inl (0, 5, .inl ze) := by
  unfold f_BO_init
  refine bE (congrArg some (fM_push ..)) ?_
  refine bE (fM_pt (i := n) (by omega) ((uE_n (by omega)).trans h) (Nat.le_of_ble_eq_true rfl)) ?_
  refine bE (congrArg some (fM_push ..)) ?_
  refine bE (fM_pt (i := n) (by omega) ((uE_n (by omega)).trans (uE_s ..)) (Nat.le_of_ble_eq_true rfl)) ?_
  refine ⟨_, rfl, fun i hi => ?_, ?_, ?_, ?_⟩
  · rw [uE_n (by omega), uE_n (by omega), uE_n (by omega), uE_n (by omega)]
  · rw [uE_s]; rfl
  · rw [uE_n (by omega), uE_n (by omega), uE_n (by omega), uE_s]
  · rw [uE_n (by omega), uE_s]
