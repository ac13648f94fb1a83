/-! widths of lines and boards, in the reference's words -/
def lnl (S : Kp) (i : Nat) : Nat := (S 10 i).toNatClampNeg
def fld (S : Kp) (np b l : Nat) (hh : Int32) : Int32 := bsum S np (nmOf S b l) (lnl S (nmOf S b l)) (lnl S (nmOf S b l)) * hh
def lwd (S : Kp) (np b : Nat) (hh : Int32) (l : Nat) : Int32 := 16 * (hh + S 0 6) + fld S np b l hh
def wdt (S : Kp) (np b : Nat) (hh : Int32) : Nat → Int32
  | 0 => 0
  | k + 1 => if k = 0 then lwd S np b hh 0 else if lwd S np b hh k ≤ wdt S np b hh k then wdt S np b hh k else lwd S np b hh k
def bwd (S : Kp) (np b ln : Nat) (hh : Int32) : Int32 := if wdt S np b hh ln + 32 * S 0 5 ≤ 16 * S 20 b then 16 * S 20 b else wdt S np b hh ln + 32 * S 0 5
theorem JnOne_lnl {K0 S : Kp} {i ln : Nat} (h : JnOne K0 S i ln) : lnl S i = ln := by
  have := h.2.1
  unfold lnl
  rw [h.2.2.1, nI_clamp (by omega)]
/-- what the reference's widths need -/
def Wx (K0 S : Kp) (st np nn nw nb b ln : Nat) : Prop := S 0 17 = nI np ∧ np ≤ 60 ∧ Jn K0 S nn ∧ S 0 2 = nI st ∧ (1 ≤ st ∧ st ≤ 5) ∧ Bd S nb ∧ b < nb ∧ Ln1 S nn nw b ln
theorem mo_lineWidth (bs : Nat) (K0 K S : Kp) {st np nn nw nb b ln l : Nat} (h : Wx K0 S st np nn nw nb b ln) (hl : l < ln) {x : Int32} (hx : 1 ≤ x ∧ x ≤ 999) : f_MO_lineWidth (bs + 76) (nI b) (nI l) x (gm bs K S) = some (lwd S np b (hgt S st x) l, gm bs K S) := by
  obtain ⟨p1, p2, jn, s1, s2, bd, hb, l1⟩ := h
  have hb8 : b < 8 := by have := bd.1; omega
  have ln5 := l1.2.1
  obtain ⟨z1, z2⟩ := l1.2.2.2 l hl
  obtain ⟨len, z⟩ := jn.2.2.2.1 _ z2
  have e3 : 5 * nI b + nI l = nI (5 * b + l) := by rw [li5, pk_mul, nI_add]
  have e2 := mo_height bs K S x s1 s2
  rw [if_pos hx] at e2
  have e4 := mo_width bs K0 K S p1 p2 jn.2.1 jn.1 z2 z s1 s2 hx
  unfold f_MO_lineWidth lwd fld
  rw [JnOne_lnl z]
  simp only [m_ob, e2, Option.bind_some, m6, m32, e3, ma18 bs K S (show 5 * b + l < 40 by omega), z1, e4]
theorem mo_bwL (bs : Nat) (K0 K S : Kp) {st np nn nw nb b ln : Nat} (h : Wx K0 S st np nn nw nb b ln) {x : Int32} (hx : 1 ≤ x ∧ x ≤ 999) : ∀ (m k n : Nat), k + m = ln → m < n → f_MO_boardWidth_L5 n (bs + 76) (nI b) x (wdt S np b (hgt S st x) k) (nI k) (gm bs K S) = some (wdt S np b (hgt S st x) ln, gm bs K S) := by
  obtain ⟨p1, p2, jn, s1, s2, bd, hb, l1⟩ := id h
  have hb8 : b < 8 := by have := bd.1; omega
  have ln5 := l1.2.1
  intro m
  induction m with
  | zero =>
    intro k n hk hm
    obtain ⟨n, rfl⟩ : ∃ n', n = n' + 1 := ⟨n - 1, by omega⟩
    obtain rfl : k = ln := by omega
    have e1 : nI k ≤ nI k := nI_le (Nat.le_refl k) (by omega)
    simp only [f_MO_boardWidth_L5, m31, ma17 bs K S hb8, l1.2.2.1, Option.bind_some, e1, if_true]
  | succ m ih =>
    intro k n hk hm
    obtain ⟨n, rfl⟩ : ∃ n', n = n' + 1 := ⟨n - 1, by omega⟩
    have e1 : ¬ nI ln ≤ nI k := by rw [nI_leI (by omega) (by omega)]; omega
    have e2 : nI k + 1 = nI (k + 1) := nI_1 k
    have i1 := ih (k + 1) n (by omega) (by omega)
    have e4 := mo_lineWidth bs K0 K S h (show k < ln by omega) hx
    by_cases c : k = 0
    · subst c
      simp only [wdt, if_true] at i1
      simp only [show nI 0 = (0 : Int32) from rfl] at e1 e4
      rw [show nI (0 + 1) = (0 : Int32) + 1 from rfl] at i1
      simp only [f_MO_boardWidth_L5, show nI 0 = (0 : Int32) from rfl, m31, ma17 bs K S hb8, l1.2.2.1, Option.bind_some, e1, if_false, m_ob, e4, if_true, i1]
    · have c2 : ¬ nI k = 0 := nI_ne0 (by omega) (by omega)
      by_cases c3 : lwd S np b (hgt S st x) k ≤ wdt S np b (hgt S st x) k
      · simp only [wdt, c, c3, if_true, if_false] at i1
        simp only [f_MO_boardWidth_L5, m31, ma17 bs K S hb8, l1.2.2.1, Option.bind_some, e1, if_false, m_ob, e4, c2, c3, if_true, e2, i1]
      · simp only [wdt, c, c3, if_false] at i1
        simp only [f_MO_boardWidth_L5, m31, ma17 bs K S hb8, l1.2.2.1, Option.bind_some, e1, if_false, m_ob, e4, c2, c3, e2, i1]
theorem mo_boardWidth (bs : Nat) (K0 K S : Kp) {st np nn nw nb b ln : Nat} (h : Wx K0 S st np nn nw nb b ln) {x : Int32} (hx : 1 ≤ x ∧ x ≤ 999) : f_MO_boardWidth (bs + 76) (nI b) x (gm bs K S) = some (bwd S np b ln (hgt S st x), gm bs K S) := by
  have hb8 : b < 8 := by have := h.2.2.2.2.2.1.1; have := h.2.2.2.2.2.2.1; omega
  have ln5 := h.2.2.2.2.2.2.2.2.1
  have e := mo_bwL bs K0 K S h hx ln 0 px_fuel (by omega) (by unfold px_fuel; omega)
  rw [nI_0] at e
  simp only [wdt] at e
  unfold f_MO_boardWidth bwd
  simp only [e, Option.bind_some, m5, m34, ma20 bs K S hb8]
  by_cases c : wdt S np b (hgt S st x) ln + 32 * S 0 5 ≤ 16 * S 20 b
  · simp only [c, if_true]
  · simp only [c, if_false]
/-! the class's sheet: cells 26, 27 -/
def Kz (K : Kp) (a f : Nat → Int32) : Kp := rw2 (rw2 K 26 a) 27 f
theorem Kz_y (K : Kp) (a f : Nat → Int32) : Ky K (Kz K a f) := ((Ky.rf K).rw (by unfold scr; omega) a).rw (by unfold scr; omega) f
theorem Kz_26 (K : Kp) (a f : Nat → Int32) : Kz K a f 26 = a := by unfold Kz; rw [rw2_n (by omega), rw2_s]
theorem Kz_27 (K : Kp) (a f : Nat → Int32) : Kz K a f 27 = f := by unfold Kz; rw [rw2_s]
theorem Kz_f (K : Kp) (a f : Nat → Int32) (i : Nat) (v : Int32) : up2 (Kz K a f) 27 i v = Kz K a (upd f i v) := by unfold Kz; rw [up2_rw]
theorem Kz_a (K : Kp) (a f : Nat → Int32) (i : Nat) (v : Int32) : up2 (Kz K a f) 26 i v = Kz K (upd a i v) f := by
  unfold Kz
  funext x b
  by_cases c : x = 27
  · subst c; rw [up2_n (by omega), rw2_s, rw2_s]
  · by_cases c2 : x = 26
    · subst c2
      rw [rw2_n (by omega), rw2_s]
      unfold up2
      rw [rw2_s, rw2_n (by omega), rw2_s]
    · rw [up2_n c2, rw2_n c, rw2_n c2, rw2_n c, rw2_n c2]
theorem Kz_id (K : Kp) : Kz K (K 26) (K 27) = K := by unfold Kz; rw [rw2_self, rw2_self]
/-- all that the sheet needs -/
def Lx (K S : Kp) (rs st np nn nw nb b ln : Nat) : Prop := Jr K S rs st ∧ Jl K S np ∧ Jn K S nn ∧ Jb K S nb nn nw ∧ b < nb ∧ Ln1 S nn nw b ln ∧ K (52 + 3 * b) 2 = nI ln ∧ (∀ l, l < ln → K (53 + 3 * b) l = nI (nmOf S b l)) ∧ (∀ l, l < ln → K (54 + 3 * b) l = S 19 (5 * b + l)) ∧ K (52 + 3 * b) 4 = S 20 b
theorem Lx.ky {K K' S : Kp} {rs st np nn nw nb b ln : Nat} (h : Lx K S rs st np nn nw nb b ln) (y : Ky K K') : Lx K' S rs st np nn nw nb b ln := by
  obtain ⟨h1, h2, h3, h4, h5, h6, h7, h8, h9, h10⟩ := h
  have hb8 : b < 8 := by have := h4.1; omega
  refine ⟨y.jr h1, y.jl h2, y.jn h3, y.jb h4, h5, h6, ?_, fun l hl => ?_, fun l hl => ?_, ?_⟩
  · rw [y _ (by unfold scr; omega) (by omega)]; exact h7
  · rw [y _ (by unfold scr; omega) (by omega)]; exact h8 l hl
  · rw [y _ (by unfold scr; omega) (by omega)]; exact h9 l hl
  · rw [y _ (by unfold scr; omega) (by omega)]; exact h10
theorem sh_nameOf (bs : Nat) (K S : Kp) {rs st np nn nw nb b ln l : Nat} (h : Lx K S rs st np nn nw nb b ln) (hl : l < ln) (h3 : K 26 3 = nI (52 + 3 * b)) : f_SH_nameOf (bs + 26) (nI l) (gm bs K S) = some (bs + (32 + 2 * nmOf S b l), gm bs K S) := by
  obtain ⟨jr, jl, jn, jb, hb, l1, k2, k3, k4, k5⟩ := h
  have hb8 : b < 8 := by have := jb.1; omega
  have ln5 := l1.2.1
  have nn10 := jn.1
  have z2 := (l1.2.2.2 l hl).2
  unfold f_SH_nameOf
  simp only [g26_0, g26_3 bs K S h3 (by omega) (by omega), Option.bind_some, gbo_0 bs K S hb8, abn bs K S hb8 (show l < 5 by omega), k3 l hl, ar15 bs K S (show nmOf S b l < 10 by omega)]
theorem lw_eq (a b c : Int32) : (a + b * 16) + c * 16 = 16 * (c + b) + a := by grind
theorem sh_layL (bs : Nat) (K S : Kp) {rs st np nn nw nb b ln : Nat} (h : Lx K S rs st np nn nw nb b ln) (a : Nat → Int32) (hh : Int32) (h3 : a 3 = nI (52 + 3 * b)) (h4 : a 4 = hh) (h5 : a 5 = hh * 16) (h7 : a 7 = S 0 6 * 16) : ∀ (m k n : Nat) (f : Nat → Int32), k + m = ln → m < n → (∀ l, l < k → f l = fld S np b l hh) →
    ∃ f', f_SH_lay_L53 n (bs + 26) (wdt S np b hh k) (nI k) (gm bs (Kz K a f) S) = some (wdt S np b hh ln, gm bs (Kz K a f') S) ∧ ∀ l, l < ln → f' l = fld S np b l hh := by
  have ln5 := h.2.2.2.2.2.1.2.1
  have hb8 : b < 8 := by have := h.2.2.2.1.1; have := h.2.2.2.2.1; omega
  have nn10 := h.2.2.1.1
  intro m
  induction m with
  | zero =>
    intro k n f hk hm hf
    obtain ⟨n, rfl⟩ : ∃ n', n = n' + 1 := ⟨n - 1, by omega⟩
    obtain rfl : k = ln := by omega
    have e1 : nI k ≤ nI k := nI_le (Nat.le_refl k) (by omega)
    have hz := h.ky (Kz_y K a f)
    have b3 : Kz K a f 26 3 = nI (52 + 3 * b) := by rw [Kz_26]; exact h3
    refine ⟨f, ?_, hf⟩
    simp only [f_SH_lay_L53, g26_3 bs _ S b3 (by omega) (by omega), Option.bind_some, gbo_2 bs _ S hb8, hz.2.2.2.2.2.2.1, e1, if_true]
  | succ m ih =>
    intro k n f hk hm hf
    obtain ⟨n, rfl⟩ : ∃ n', n = n' + 1 := ⟨n - 1, by omega⟩
    have e1 : ¬ nI ln ≤ nI k := by rw [nI_leI (by omega) (by omega)]; omega
    have e2 : nI k + 1 = nI (k + 1) := nI_1 k
    have hz := h.ky (Kz_y K a f)
    have b3 : ∀ f, Kz K a f 26 3 = nI (52 + 3 * b) := fun f => by rw [Kz_26]; exact h3
    have b4 : ∀ f, Kz K a f 26 4 = hh := fun f => by rw [Kz_26]; exact h4
    have b5 : ∀ f, Kz K a f 26 5 = hh * 16 := fun f => by rw [Kz_26]; exact h5
    have b7 : ∀ f, Kz K a f 26 7 = S 0 6 * 16 := fun f => by rw [Kz_26]; exact h7
    have z2 := (hz.2.2.2.2.2.1.2.2.2 k (by omega)).2
    obtain ⟨len, z⟩ := hz.2.2.1.2.2.2.1 _ z2
    have nm := sh_nameOf bs (Kz K a f) S hz (show k < ln by omega) (b3 f)
    have fo := le_fieldOf bs (Kz K a f) S hz.2.1 (show nmOf S b k < 10 by omega) z
    have ef : bsum S np (nmOf S b k) len len * hh = fld S np b k hh := by unfold fld; rw [JnOne_lnl z]
    have el : fld S np b k hh + S 0 6 * 16 + hh * 16 = lwd S np b hh k := by unfold lwd; exact lw_eq _ _ _
    have lw : f_SH_lineWidth (bs + 26) (nI k) (gm bs (Kz K a (upd f k (fld S np b k hh))) S) = some (lwd S np b hh k, gm bs (Kz K a (upd f k (fld S np b k hh))) S) := by
      unfold f_SH_lineWidth
      simp only [g26_2, Option.bind_some, a27 bs _ S (show k < 5 by omega), Kz_27, upd_s, g26_7, b7, g26_5, b5, el]
    obtain ⟨f', i1, i2⟩ := ih (k + 1) n (upd f k (fld S np b k hh)) (by omega) (by omega) (fun l hl => by
      by_cases c : l = k
      · subst c; rw [upd_s]
      · rw [upd_n c]; exact hf l (by omega))
    refine ⟨f', ?_, i2⟩
    by_cases c : k = 0
    · subst c
      simp only [wdt, if_true] at i1
      simp only [show nI 0 = (0 : Int32) from rfl] at nm lw e1
      rw [show nI (0 + 1) = (0 : Int32) + 1 from rfl] at i1
      have s27' := s27 bs (Kz K a f) S (j := 0) (fld S np b 0 hh) (by omega)
      rw [nI_0, Kz_f] at s27'
      simp only [f_SH_lay_L53, g26_3 bs _ S (b3 f) (by omega) (by omega), Option.bind_some, gbo_2 bs _ S hb8, hz.2.2.2.2.2.2.1, show nI 0 = (0 : Int32) from rfl, e1, if_false, g26_2, g26_1, ob_26, nm, ob_10, fo, g26_4, b4, ef, s27', if_true, lw, i1]
    · have c2 : ¬ nI k = 0 := nI_ne0 (by omega) (by omega)
      by_cases c3 : lwd S np b hh k ≤ wdt S np b hh k
      · have c4 : ¬ wdt S np b hh k < lwd S np b hh k := by grind
        simp only [wdt, c, c3, if_true, if_false] at i1
        simp only [f_SH_lay_L53, g26_3 bs _ S (b3 f) (by omega) (by omega), Option.bind_some, gbo_2 bs _ S hb8, hz.2.2.2.2.2.2.1, e1, if_false, g26_2, g26_1, ob_26, nm, ob_10, fo, g26_4, b4, ef, s27 bs _ S _ (show k < 5 by omega), Kz_f, c2, lw, c4, e2, i1]
      · have c4 : wdt S np b hh k < lwd S np b hh k := by grind
        simp only [wdt, c, c3, if_false] at i1
        simp only [f_SH_lay_L53, g26_3 bs _ S (b3 f) (by omega) (by omega), Option.bind_some, gbo_2 bs _ S hb8, hz.2.2.2.2.2.2.1, e1, if_false, g26_2, g26_1, ob_26, nm, ob_10, fo, g26_4, b4, ef, s27 bs _ S _ (show k < 5 by omega), Kz_f, c2, lw, c4, if_true, e2, i1]
theorem mg_eq (w m l : Int32) : (if (w + 2 * (m * 16)) < (l * 16) then (l * 16) else (w + 2 * (m * 16))) = if w + 32 * m ≤ 16 * l then 16 * l else w + 32 * m := by
  have e1 : w + 2 * (m * 16) = w + 32 * m := by grind
  have e2 : l * 16 = 16 * l := by grind
  rw [e1, e2]
  by_cases c : w + 32 * m < 16 * l
  · rw [if_pos c, if_pos (by grind)]
  · rw [if_neg c]
    by_cases c2 : w + 32 * m ≤ 16 * l
    · rw [if_pos c2]; grind
    · rw [if_neg c2]
theorem sh_lay (bs : Nat) (K S : Kp) {rs st np nn nw nb b ln : Nat} (h : Lx K S rs st np nn nw nb b ln) (x : Int32) : ∃ a f, f_SH_lay (bs + 26) (bs + (52 + 3 * b)) (bs + rs) x (gm bs K S) = some (gm bs (Kz K a f) S) ∧ a 3 = nI (52 + 3 * b) ∧ a 4 = hgt S st x ∧ a 5 = hgt S st x * 16 ∧ a 6 = S 0 5 * 16 ∧ a 7 = S 0 6 * 16 ∧ a 8 = bwd S np b ln (hgt S st x) ∧ ∀ l, l < ln → f l = fld S np b l (hgt S st x) := by
  have hb8 : b < 8 := by have := h.2.2.2.1.1; have := h.2.2.2.2.1; omega
  have ln5 := h.2.2.2.2.2.1.2.1
  have y0 : ∀ a, Ky K (Kz K a (K 27)) := fun a => Kz_y K a (K 27)
  generalize ha : upd (upd (upd (upd (upd (K 26) 3 (nI (52 + 3 * b))) 4 (hgt S st x)) 5 (hgt S st x * 16)) 6 (S 0 5 * 16)) 7 (S 0 6 * 16) = a
  have a3 : a 3 = nI (52 + 3 * b) := by rw [← ha]; simp [upd]
  have a4 : a 4 = hgt S st x := by rw [← ha]; simp [upd]
  have a5 : a 5 = hgt S st x * 16 := by rw [← ha]; simp [upd]
  have a6 : a 6 = S 0 5 * 16 := by rw [← ha]; simp [upd]
  have a7 : a 7 = S 0 6 * 16 := by rw [← ha]; simp [upd]
  obtain ⟨f, i1, i2⟩ := sh_layL bs K S h a (hgt S st x) a3 a4 a5 a7 ln 0 px_fuel (K 27) (by omega) (by unfold px_fuel; omega) (fun l hl => absurd hl (by omega))
  rw [nI_0] at i1
  simp only [wdt] at i1
  have hz := h.ky (Kz_y K a f)
  have z6 : Kz K a f 26 6 = S 0 5 * 16 := by rw [Kz_26]; exact a6
  have z3 : Kz K a f 26 3 = nI (52 + 3 * b) := by rw [Kz_26]; exact a3
  have k0 := Kz_id K
  have p3 := p26_3 bs K S (n := 52 + 3 * b) (by omega) (by omega)
  rw [← k0, Kz_a, k0] at p3
  have z4 : Kz K (upd (upd (K 26) 3 (nI (52 + 3 * b))) 4 (hgt S st x)) (K 27) 26 4 = hgt S st x := by rw [Kz_26]; simp [upd]
  refine ⟨upd a 8 (bwd S np b ln (hgt S st x)), f, ?_, by simp [upd, a3], by simp [upd, a4], by simp [upd, a5], by simp [upd, a6], by simp [upd, a7], by simp [upd], i2⟩
  unfold f_SH_lay
  simp only [p3, Option.bind_some, rs_ob bs _ S ((y0 _).jr h.1), rs_heightAt bs _ S x ((y0 _).jr h.1), p26_4, Kz_a, g26_4, z4, p26_5, rs_3 bs _ S ((y0 _).jr h.1), p26_6, rs_4 bs _ S ((y0 _).jr h.1), p26_7, ha, i1, g26_6, z6, g26_3 bs _ S z3 (by omega) (by omega), gbo_4 bs _ S hb8, hz.2.2.2.2.2.2.2.2.2, mg_eq, p26_8]
  rfl
theorem fh_eq (n h g m : Int32) (c : ¬ n ≤ 1) : ((n * (h * 16)) + ((n - 1) * (g * 16))) + (2 * (m * 16)) = 16 * (((2 * m) + (n * h)) + ((n - 1) * g)) := by grind
theorem fh_eq0 (n h g m : Int32) : ((n * (h * 16)) + (0 * (g * 16))) + (2 * (m * 16)) = 16 * (((2 * m) + (n * h)) + 0) := by grind
theorem Jlx {K S : Kp} {rs st np nn nw nb b : Nat} (jr : Jr K S rs st) (jl : Jl K S np) (jn : Jn K S nn) (jw : Jw K S nw) (jb : Jb K S nb nn nw) (hb : b < nb) : ∃ ln, Cx K S rs st nn nw nb b ln ∧ Mx K S nn nw nb b ln ∧ Lx K S rs st np nn nw nb b ln ∧ Wx K S st np nn nw nb b ln := by
  obtain ⟨ln, cx, mx, h1, h2⟩ := Jget jr jn jw jb hb
  exact ⟨ln, cx, mx, ⟨jr, jl, jn, jb, hb, cx.2.2.2.2.2.1, cx.2.2.2.2.2.2.1, cx.2.2.2.2.2.2.2.2, h1, h2⟩, ⟨jl.2.1, jl.1, jn, jr.2.2.2.2.1, jr.2.2.2.1, jb.bd, hb, cx.2.2.2.2.2.1⟩⟩
theorem op_size {bs : Nat} {K S : Kp} (x y z : Int32) (h : J K S) : ∃ r K' S', f_SB_size bs x y z (gm bs K S) = some (r, gm bs K' S) ∧ f_MO_size (bs + 76) x y z (gm bs K' S) = some (r, gm bs K' S') ∧ J K' S' := by
  obtain ⟨tl, rs, st, np, nn, nw, nb, jt, jr, jl, jn, jw, jb, js⟩ := id h
  unfold f_SB_size f_MO_size
  by_cases c1 : 0 ≤ x ∧ x < nI nb
  · obtain ⟨b, hb, rfl⟩ := nIr c1.1 c1.2 (by have := jb.1; omega)
    have hb8 : b < 8 := by have := jb.1; omega
    by_cases c2 : 1 ≤ z ∧ z ≤ 999
    · obtain ⟨ln, cx, mx, lx, wx⟩ := Jlx jr jl jn jw jb hb
      have ln5 := lx.2.2.2.2.2.1.2.1
      obtain ⟨a, f, l1, a3, a4, a5, a6, a7, a8, l2⟩ := sh_lay bs K S lx z
      have hz := lx.ky (Kz_y K a f)
      have z8 : Kz K a f 26 8 = bwd S np b ln (hgt S st z) := by rw [Kz_26]; exact a8
      have z3 : Kz K a f 26 3 = nI (52 + 3 * b) := by rw [Kz_26]; exact a3
      have z5 : Kz K a f 26 5 = hgt S st z * 16 := by rw [Kz_26]; exact a5
      have z6 : Kz K a f 26 6 = S 0 5 * 16 := by rw [Kz_26]; exact a6
      have z7 : Kz K a f 26 7 = S 0 6 * 16 := by rw [Kz_26]; exact a7
      have mh := mo_height bs (Kz K a f) S z jr.2.2.2.2.1 jr.2.2.2.1
      rw [if_pos c2] at mh
      have jj := (Kz_y K a f).J h
      by_cases c3 : y = 0
      · subst c3
        refine ⟨bwd S np b ln (hgt S st z), Kz K a f, S, ?_, ?_, jj⟩
        · simp only [ob_0, w_isBoard bs K S _ jb.2.2.1 jb.1, c1, w_isSpeed, c2, and_self, if_true, if_false, Option.bind_some, show ¬ (1 : Int32) = 0 by decide, g0_11, g0_8, ar22 bs K S hb8, sb_in bs K S jr, ob_26, l1, g26_8, z8]
        · simp only [m_ob, q_isBoard bs _ S _ jb.2.1, c1, q_isSpeed, c2, and_self, if_true, if_false, Option.bind_some, show ¬ (1 : Int32) = 0 by decide, show ¬ (0 : Int32) < 0 by decide, show ¬ (1 : Int32) < 0 by decide, mo_boardWidth bs K (Kz K a f) S wx c2]
      · by_cases c4 : y = 1
        · subst c4
          by_cases c5 : ln ≤ 1
          · have e1 : nI ln ≤ 1 := by rw [li1, nI_leI (by omega) (by omega)]; exact c5
            have e2 : (if nI ln - 1 < 0 then 0 else nI ln - 1) = (0 : Int32) := by
              rcases (show ln = 0 ∨ ln = 1 by omega) with rfl | rfl <;> decide
            refine ⟨16 * (((2 * S 0 5) + (nI ln * hgt S st z)) + 0), Kz K a f, S, ?_, ?_, jj⟩
            · simp only [f_SH_fullHeight, ob_0, w_isBoard bs K S _ jb.2.2.1 jb.1, c1, w_isSpeed, c2, and_self, if_true, if_false, Option.bind_some, show ¬ (1 : Int32) = 0 by decide, g0_11, g0_8, ar22 bs K S hb8, sb_in bs K S jr, ob_26, l1, g26_3 bs _ S z3 (by omega) (by omega), gbo_2 bs _ S hb8, hz.2.2.2.2.2.2.1, e2, g26_5, z5, g26_7, z7, g26_6, z6, fh_eq0]
            · simp only [m_ob, q_isBoard bs _ S _ jb.2.1, c1, q_isSpeed, c2, and_self, if_true, if_false, Option.bind_some, show ¬ (1 : Int32) = 0 by decide, show ¬ (1 : Int32) < 0 by decide, show ¬ (1 : Int32) < 1 by decide, m31, ma17 bs _ S hb8, lx.2.2.2.2.2.1.2.2.1, m5, mh, e1]
          · have e1 : ¬ nI ln ≤ 1 := by rw [li1, nI_leI (by omega) (by omega)]; exact c5
            have e2 : (if nI ln - 1 < 0 then 0 else nI ln - 1) = nI ln - 1 := by
              rw [if_neg]
              have : nI ln - 1 = nI (ln - 1) := by rw [li1, pk_sub (by omega)]
              rw [this]; exact nI_pos (by omega)
            refine ⟨16 * (((2 * S 0 5) + (nI ln * hgt S st z)) + ((nI ln - 1) * S 0 6)), Kz K a f, S, ?_, ?_, jj⟩
            · simp only [f_SH_fullHeight, ob_0, w_isBoard bs K S _ jb.2.2.1 jb.1, c1, w_isSpeed, c2, and_self, if_true, if_false, Option.bind_some, show ¬ (1 : Int32) = 0 by decide, g0_11, g0_8, ar22 bs K S hb8, sb_in bs K S jr, ob_26, l1, g26_3 bs _ S z3 (by omega) (by omega), gbo_2 bs _ S hb8, hz.2.2.2.2.2.2.1, e2, g26_5, z5, g26_7, z7, g26_6, z6, fh_eq _ _ _ _ e1]
            · simp only [m_ob, q_isBoard bs _ S _ jb.2.1, c1, q_isSpeed, c2, and_self, if_true, if_false, Option.bind_some, show ¬ (1 : Int32) = 0 by decide, show ¬ (1 : Int32) < 0 by decide, show ¬ (1 : Int32) < 1 by decide, m31, ma17 bs _ S hb8, lx.2.2.2.2.2.1.2.2.1, m5, mh, e1, m6]
        · refine ⟨-1, Kz K a f, S, ?_, ?_, jj⟩
          · simp only [ob_0, w_isBoard bs K S _ jb.2.2.1 jb.1, c1, w_isSpeed, c2, and_self, if_true, if_false, Option.bind_some, show ¬ (1 : Int32) = 0 by decide, g0_11, g0_8, ar22 bs K S hb8, sb_in bs K S jr, ob_26, l1, c3, c4]
          · by_cases c5 : y < 0
            · simp only [m_ob, q_isBoard bs _ S _ jb.2.1, c1, and_self, if_true, if_false, Option.bind_some, show ¬ (1 : Int32) = 0 by decide, c5]
            · have c6 : 1 < y := by grind
              simp only [m_ob, q_isBoard bs _ S _ jb.2.1, c1, and_self, if_true, if_false, Option.bind_some, show ¬ (1 : Int32) = 0 by decide, c5, c6]
    · refine ⟨-1, K, S, ?_, ?_, h⟩
      · simp only [ob_0, w_isBoard bs K S _ jb.2.2.1 jb.1, c1, w_isSpeed, c2, and_self, if_true, if_false, Option.bind_some, show ¬ (1 : Int32) = 0 by decide]
      · simp only [m_ob, q_isBoard bs _ S _ jb.2.1, c1, q_isSpeed, c2, and_self, if_true, if_false, Option.bind_some, show ¬ (1 : Int32) = 0 by decide]
        by_cases c5 : y < 0
        · simp only [c5, if_true]
        · by_cases c6 : 1 < y <;> simp only [c5, c6, if_true, if_false]
  · refine ⟨-1, K, S, ?_, ?_, h⟩
    · simp only [ob_0, w_isBoard bs K S _ jb.2.2.1 jb.1, c1, if_true, if_false, Option.bind_some]
    · simp only [m_ob, q_isBoard bs _ S _ jb.2.1, c1, if_true, if_false, Option.bind_some]
