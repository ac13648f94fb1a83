/-! THE PURE MEMORY OF CLASS AND REFERENCE: kp holds what the class's cells hold (cell, place), sg what the reference's hold -/
abbrev Kp : Type := Nat → Nat → Int32
def rw2 (k : Kp) (i : Nat) (r : Nat → Int32) : Kp := fun j => if j = i then r else k j
def dyn (bs : Nat) (x : Int32) : Value := if x = 0 then .null else .ref (bs + x.toNatClampNeg)
def cc (bs i : Nat) (r : Nat → Int32) : px_E := match i with
  | 0 => .inr (0, [.ref (bs + 1), .ref (bs + 3), dyn bs (r 2), dyn bs (r 3), .ref (bs + 10), .ref (bs + 15), .int (r 6), .ref (bs + 16), .ref (bs + 22), .int (r 9), .ref (bs + 23), .ref (bs + 26), .ref (bs + 28)])
  | 1 => .inr (1, [.ref (bs + 2), .int (r 1)])
  | 2 => .inl (0, 100, .inl r)
  | 3 => .inr (2, [.ref (bs + 1), dyn bs (r 1), .int (r 2), .int (r 3), .int (r 4), .int (r 5)])
  | 4 => .inr (3, [.ref (bs + 5), .ref (bs + 6), .int (r 2), .int (r 3), .int (r 4), .int (r 5)])
  | 5 => .inl (0, 5, .inl r)
  | 6 => .inl (0, 5, .inl r)
  | 7 => .inr (3, [.ref (bs + 8), .ref (bs + 9), .int (r 2), .int (r 3), .int (r 4), .int (r 5)])
  | 8 => .inl (0, 5, .inl r)
  | 9 => .inl (0, 5, .inl r)
  | 10 => .inr (4, [.ref (bs + 11), .ref (bs + 12), .ref (bs + 13), .ref (bs + 14), .int (r 4)])
  | 11 => .inl (0, 95, .inl r)
  | 12 => .inl (0, 60, .inl r)
  | 13 => .inl (0, 60, .inl r)
  | 14 => .inl (0, 60, .inl r)
  | 15 => .inl (1, 10, .inr (.inr (.inr (.inr (fun j => if j < 10 then some (bs + (32 + 2 * j)) else none)))))
  | 16 => .inr (5, [.ref (bs + 17), .ref (bs + 18), .ref (bs + 19), .ref (bs + 20), .ref (bs + 21), .int (r 5)])
  | 17 => .inl (0, 24, .inl r)
  | 18 => .inl (0, 24, .inl r)
  | 19 => .inl (0, 24, .inl r)
  | 20 => .inl (0, 24, .inl r)
  | 21 => .inl (0, 10, .inl r)
  | 22 => .inl (2, 8, .inr (.inr (.inr (.inr (fun j => if j < 8 then some (bs + (52 + 3 * j)) else none)))))
  | 23 => .inr (6, [.ref (bs + 15), .ref (bs + 16), .ref (bs + 24), .ref (bs + 25)])
  | 24 => .inl (0, 5, .inl r)
  | 25 => .inl (0, 5, .inl r)
  | 26 => .inr (7, [.ref (bs + 15), .ref (bs + 10), .ref (bs + 27), dyn bs (r 3), .int (r 4), .int (r 5), .int (r 6), .int (r 7), .int (r 8)])
  | 27 => .inl (0, 5, .inl r)
  | 28 => .inr (8, [.ref (bs + 15), .ref (bs + 16), .ref (bs + 29), .ref (bs + 30), .ref (bs + 31), .int (r 5)])
  | 29 => .inl (0, 40, .inl r)
  | 30 => .inl (0, 40, .inl r)
  | 31 => .inl (0, 40, .inl r)
  | i => if i < 52 then (if i % 2 = 0 then .inr (9, [.ref (bs + (i + 1)), .int (r 1), .int (r 2)]) else .inl (0, 12, .inl r)) else if i % 3 = 1 then .inr (10, [.ref (bs + (i + 1)), .ref (bs + (i + 2)), .int (r 2), .int (r 3), .int (r 4)]) else .inl (0, 5, .inl r)
def mlen (j : Nat) : Nat := match j with
  | 1 => 100 | 2 => 6 | 3 => 6 | 4 => 6 | 5 => 6 | 6 => 128 | 7 => 60 | 8 => 60 | 9 => 60 | 10 => 10 | 11 => 120 | 12 => 10 | 13 => 24 | 14 => 24 | 15 => 24 | 16 => 8 | 17 => 8 | 18 => 40 | 19 => 40 | 20 => 8 | 21 => 10 | 22 => 5 | _ => 5
def mcell (bs j : Nat) (r : Nat → Int32) : px_E := if j = 0 then .inr (11, [.int (r 0), .ref (bs + 77), .int (r 2), .ref (bs + 78), .ref (bs + 79), .int (r 5), .int (r 6), .int (r 7), .int (r 8), .ref (bs + 80), .ref (bs + 81), .int (r 11), .int (r 12), .int (r 13), .int (r 14), .int (r 15), .ref (bs + 82), .int (r 17), .ref (bs + 83), .ref (bs + 84), .ref (bs + 85), .int (r 21), .ref (bs + 86), .ref (bs + 87), .ref (bs + 88), .int (r 25), .ref (bs + 89), .ref (bs + 90), .ref (bs + 91), .int (r 29), .ref (bs + 92), .ref (bs + 93), .ref (bs + 94), .ref (bs + 95), .ref (bs + 96), .ref (bs + 97), .ref (bs + 98), .ref (bs + 99), .int (r 38), .int (r 39), .int (r 40), .int (r 41)]) else .inl (0, mlen j, .inl r)
def gm (bs : Nat) (k s : Kp) : px_M := (fun a => if a < bs then none else if a < bs + 76 then some (cc bs (a - bs) (k (a - bs))) else if a < bs + 100 then some (mcell bs (a - bs - 76) (s (a - bs - 76))) else none, bs + 100)
theorem gm_c {bs : Nat} {k s : Kp} {i : Nat} (h : i < 76) : (gm bs k s).1 (bs + i) = some (cc bs i (k i)) := by
  have e1 : ¬ bs + i < bs := by omega
  have e2 : bs + i < bs + 76 := by omega
  have e3 : bs + i - bs = i := by omega
  simp only [gm, if_neg e1, if_pos e2, e3]
theorem gm_m {bs : Nat} {k s : Kp} {i j : Nat} (h : i = 76 + j) (hj : j < 24) : (gm bs k s).1 (bs + i) = some (mcell bs j (s j)) := by
  have e1 : ¬ bs + i < bs := by omega
  have e2 : ¬ bs + i < bs + 76 := by omega
  have e4 : bs + i < bs + 100 := by omega
  have e3 : bs + i - bs - 76 = j := by omega
  simp only [gm, if_neg e1, if_neg e2, if_pos e4, e3]
theorem gm_setc {bs : Nat} {k s : Kp} {i : Nat} (h : i < 76) {x : px_E} (r : Nat → Int32) (hx : x = cc bs i r) : px_set (gm bs k s) (bs + i) x = gm bs (rw2 k i r) s := by
  subst hx
  unfold px_set gm rw2
  refine Prod.ext ?_ rfl
  funext q
  dsimp only
  by_cases hq : q = bs + i
  · subst hq
    have e1 : ¬ bs + i < bs := by omega
    have e2 : bs + i < bs + 76 := by omega
    have e3 : bs + i - bs = i := by omega
    simp only [if_true, if_neg e1, if_pos e2, e3]
  · rw [if_neg hq]
    by_cases e1 : q < bs
    · simp only [if_pos e1]
    · have e3 : ¬ q - bs = i := by omega
      simp only [if_neg e1, if_neg e3]
theorem gm_setm {bs : Nat} {k s : Kp} {i j : Nat} (h : i = 76 + j) (hj : j < 24) {x : px_E} (r : Nat → Int32) (hx : x = mcell bs j r) : px_set (gm bs k s) (bs + i) x = gm bs k (rw2 s j r) := by
  subst hx
  unfold px_set gm rw2
  refine Prod.ext ?_ rfl
  funext q
  dsimp only
  by_cases hq : q = bs + i
  · subst hq
    have e1 : ¬ bs + i < bs := by omega
    have e2 : ¬ bs + i < bs + 76 := by omega
    have e4 : bs + i < bs + 100 := by omega
    have e3 : bs + i - bs - 76 = j := by omega
    simp only [if_true, if_neg e1, if_neg e2, if_pos e4, e3]
  · rw [if_neg hq]
    by_cases e1 : q < bs
    · simp only [if_pos e1]
    · by_cases e2 : q < bs + 76
      · simp only [if_neg e1, if_pos e2]
      · have e3 : ¬ q - bs - 76 = j := by omega
        simp only [if_neg e1, if_neg e2, if_neg e3]
/-! what a read of a cell gives -/
theorem px_gi_of {M : px_M} {a ci k : Nat} {fs : List Value} {x : Int32} (h : M.1 a = some (.inr (ci, fs))) (hv : fs[k]? = some (.int x)) : px_gi ci k M a = some x := by
  simp only [px_gi, h, hv, if_true]
theorem px_gr_of {M : px_M} {a ci k : Nat} {fs : List Value} {x : Nat} (h : M.1 a = some (.inr (ci, fs))) (hv : fs[k]? = some (.ref x)) : px_gr ci k M a = some x := by
  simp only [px_gr, h, hv, if_true]
theorem px_ob_of {M : px_M} {a ci : Nat} {fs : List Value} (h : M.1 a = some (.inr (ci, fs))) : px_ob ci M a = some () := by
  simp only [px_ob, h, if_true]
theorem px_pt_of {M : px_M} {a ci k : Nat} {fs : List Value} {v : Value} (h : M.1 a = some (.inr (ci, fs))) (hk : k < fs.length) : px_pt ci k M a v = some (px_set M a (.inr (ci, fs.set k v))) := by
  simp only [px_pt, h, hk, and_self, if_true]
theorem px_ai_of {M : px_M} {a t n : Nat} {f : Nat → Int32} {i : Int32} (h : M.1 a = some (.inl (t, n, .inl f))) (h0 : ¬ i < 0) (hn : i.toNatClampNeg < n) : px_ai t M a i = some (f i.toNatClampNeg) := by
  simp only [px_ai, h, h0, hn, not_false_eq_true, and_self, if_true]
theorem px_ar_of {M : px_M} {a t n : Nat} {f : Nat → Option Nat} {i : Int32} (h : M.1 a = some (.inl (t, n, .inr (.inr (.inr (.inr f)))))) (h0 : ¬ i < 0) (hn : i.toNatClampNeg < n) : px_ar t M a i = f i.toNatClampNeg := by
  simp only [px_ar, h, h0, hn, not_false_eq_true, and_self, if_true]
theorem px_si_of {M : px_M} {a t n : Nat} {f : Nat → Int32} {i x : Int32} (h : M.1 a = some (.inl (t, n, .inl f))) (h0 : ¬ i < 0) (hn : i.toNatClampNeg < n) : px_si t M a i x = some (px_set M a (.inl (t, n, .inl (upd f i.toNatClampNeg x)))) := by
  simp only [px_si, h, h0, hn, not_false_eq_true, and_self, if_true]
