/-! THE CLASS'S CONSTRUCTOR -/
def K0 (i : Nat) : Nat → Int32 := if i = 0 then (fun j => if j = 2 then nI 4 else if j = 3 then nI 7 else 0) else if i = 4 ∨ i = 7 then (fun j => if j = 2 then 1 else if j = 5 then 116 else 0) else if i = 5 ∨ i = 8 then upd ze 0 50 else if i = 6 ∨ i = 9 then upd ze 0 100 else if i = 11 then w8 0 95 ze else if 32 ≤ i ∧ i < 52 ∧ i % 2 = 0 then (fun j => if j = 2 then -1 else 0) else ze
def zz (bs : Nat) (a b d : px_E) : Nat → px_E := fun i => if i = 0 then a else if i = 15 then b else if i = 22 then d else cc bs i (K0 i)
theorem zz_o {bs i : Nat} {a b d : px_E} (h0 : i ≠ 0) (h1 : i ≠ 15) (h2 : i ≠ 22) : zz bs a b d i = cc bs i (K0 i) := by unfold zz; rw [if_neg h0, if_neg h1, if_neg h2]
theorem zz_0 (bs : Nat) (a b d : px_E) : zz bs a b d 0 = a := rfl
theorem zz_15 (bs : Nat) (a b d : px_E) : zz bs a b d 15 = b := rfl
theorem zz_22 (bs : Nat) (a b d : px_E) : zz bs a b d 22 = d := rfl
theorem z_pt {bs n k : Nat} {fs : List Value} {b d : px_E} {v : Value} (hn : 0 < n) (hk : k < fs.length) : px_pt 0 k (fM bs n (zz bs (.inr (0, fs)) b d)) bs v = some (fM bs n (zz bs (.inr (0, fs.set k v)) b d)) := by
  have h := fM_pt (bs := bs) (n := n) (i := 0) (ci := 0) (k := k) (c := zz bs (.inr (0, fs)) b d) (v := v) hn (zz_0 ..) hk
  rw [show bs + 0 = bs from rfl] at h
  rw [h]
  refine congrArg some (fM_ext (fun i _ => ?_))
  by_cases c : i = 0
  · subst c; rw [uE_s, zz_0]
  · rw [uE_n c]; unfold zz; rw [if_neg c, if_neg c]
theorem z_gr {bs n k x : Nat} {fs : List Value} {b d : px_E} (hn : 0 < n) (hv : fs[k]? = some (.ref x)) : px_gr 0 k (fM bs n (zz bs (.inr (0, fs)) b d)) bs = some x := fM_gr (bs := bs) (i := 0) hn (zz_0 ..) hv
theorem z_gp {bs n k x : Nat} {fs : List Value} {b d y : px_E} (hn : 0 < n) (hv : fs[k]? = some (.ref x)) : px_gr 0 k (px_push (fM bs n (zz bs (.inr (0, fs)) b d)) y) bs = some x := by
  rw [fM_push]
  exact fM_gr (bs := bs) (i := 0) (by omega) ((uE_n (by omega)).trans (zz_0 ..)) hv
theorem z_push15 (bs : Nat) (a b d x : px_E) : px_push (fM bs 15 (zz bs a b d)) x = fM bs 16 (zz bs a x d) := by
  rw [fM_push]
  refine fM_ext (fun i hi => ?_)
  by_cases c : i = 15
  · subst c; rw [uE_s, zz_15]
  · rw [uE_n c]; unfold zz; rw [if_neg c, if_neg c]
theorem z_push22 (bs : Nat) (a b d x : px_E) : px_push (fM bs 22 (zz bs a b d)) x = fM bs 23 (zz bs a b x) := by
  rw [fM_push]
  refine fM_ext (fun i hi => ?_)
  by_cases c : i = 22
  · subst c; rw [uE_s, zz_22]
  · rw [uE_n c]; unfold zz; rw [if_neg c, if_neg c]
theorem z_sr15 {bs n m : Nat} {a d : px_E} {f : Nat → Option Nat} {fs : List Value} {x : Int32} (hn : 15 < n) (hm : m < n) (h0 : m ≠ 0) (h1 : m ≠ 15) (h2 : m ≠ 22) (hv : cc bs m (K0 m) = .inr (9, fs)) (hx0 : ¬ x < 0) (hx : x.toNatClampNeg < 10) : px_sr 1 9 (fM bs n (zz bs a (.inl (1, 10, .inr (.inr (.inr (.inr f))))) d)) (bs + 15) x (bs + m) = some (fM bs n (zz bs a (.inl (1, 10, .inr (.inr (.inr (.inr (va_up f x.toNatClampNeg (some (bs + m)))))))) d)) := by
  rw [fM_sr (i := 15) (j := m) hn hm (zz_15 ..) ((zz_o h0 h1 h2).trans hv) hx0 hx]
  refine congrArg some (fM_ext (fun i _ => ?_))
  by_cases c : i = 15
  · subst c; rw [uE_s, zz_15]
  · rw [uE_n c]; unfold zz; rw [if_neg c, if_neg c]
theorem z_sr22 {bs n m : Nat} {a b : px_E} {f : Nat → Option Nat} {fs : List Value} {x : Int32} (hn : 22 < n) (hm : m < n) (h0 : m ≠ 0) (h1 : m ≠ 15) (h2 : m ≠ 22) (hv : cc bs m (K0 m) = .inr (10, fs)) (hx0 : ¬ x < 0) (hx : x.toNatClampNeg < 8) : px_sr 2 10 (fM bs n (zz bs a b (.inl (2, 8, .inr (.inr (.inr (.inr f))))))) (bs + 22) x (bs + m) = some (fM bs n (zz bs a b (.inl (2, 8, .inr (.inr (.inr (.inr (va_up f x.toNatClampNeg (some (bs + m)))))))))) := by
  rw [fM_sr (i := 22) (j := m) hn hm (zz_22 ..) ((zz_o h0 h1 h2).trans hv) hx0 hx]
  refine congrArg some (fM_ext (fun i _ => ?_))
  by_cases c : i = 22
  · subst c; rw [uE_s, zz_22]
  · rw [uE_n c]; unfold zz; rw [if_neg c, if_neg c]
theorem z_TX1 (bs : Nat) (a b d : px_E) : f_TX_init (bs + 1) (px_push (fM bs 1 (zz bs a b d)) (.inr (1, [.null, .int 0]))) = some (fM bs 3 (zz bs a b d)) := by
  rw [fM_push]
  obtain ⟨c', h, k1, k2, k3⟩ := i_TX bs 1  (uE (zz bs a b d) 1 (.inr (1, [.null, .int 0]))) (uE_s ..)
  rw [h]
  refine congrArg some (fM_ext (fun i hi => ?_))
  by_cases c : i < 1
  · rw [k1 i c, uE_n (by omega)]
  · rcases (show i = 1 ∨ i = 2 by omega) with rfl | rfl
    · exact k2
    · exact k3
theorem z_RR3 (bs : Nat) (a b d : px_E) : f_RR_init (bs + 3) (bs + 1) (px_push (fM bs 3 (zz bs a b d)) (.inr (2, [.null, .null, .int 0, .int 0, .int 0, .int 0]))) = some (fM bs 4 (zz bs a b d)) := by
  rw [fM_push]
  obtain ⟨c', h, k1, k2⟩ := i_RR bs 3 (bs + 1) (uE (zz bs a b d) 3 (.inr (2, [.null, .null, .int 0, .int 0, .int 0, .int 0]))) (uE_s ..)
  rw [h]
  refine congrArg some (fM_ext (fun i hi => ?_))
  by_cases c : i < 3
  · rw [k1 i c, uE_n (by omega)]
  · obtain rfl : i = 3 := by omega
    exact k2
theorem z_RS4 (bs : Nat) (a b d : px_E) : f_RS_init (bs + 4) (px_push (fM bs 4 (zz bs a b d)) (.inr (3, [.null, .null, .int 0, .int 0, .int 0, .int 0]))) = some (fM bs 7 (zz bs a b d)) := by
  rw [fM_push]
  obtain ⟨c', h, k1, k2, k3, k4⟩ := i_RS bs 4  (uE (zz bs a b d) 4 (.inr (3, [.null, .null, .int 0, .int 0, .int 0, .int 0]))) (uE_s ..)
  rw [h]
  refine congrArg some (fM_ext (fun i hi => ?_))
  by_cases c : i < 4
  · rw [k1 i c, uE_n (by omega)]
  · rcases (show i = 4 ∨ i = 5 ∨ i = 6 by omega) with rfl | rfl | rfl
    · exact k2
    · exact k3
    · exact k4
theorem z_RS7 (bs : Nat) (a b d : px_E) : f_RS_init (bs + 7) (px_push (fM bs 7 (zz bs a b d)) (.inr (3, [.null, .null, .int 0, .int 0, .int 0, .int 0]))) = some (fM bs 10 (zz bs a b d)) := by
  rw [fM_push]
  obtain ⟨c', h, k1, k2, k3, k4⟩ := i_RS bs 7  (uE (zz bs a b d) 7 (.inr (3, [.null, .null, .int 0, .int 0, .int 0, .int 0]))) (uE_s ..)
  rw [h]
  refine congrArg some (fM_ext (fun i hi => ?_))
  by_cases c : i < 7
  · rw [k1 i c, uE_n (by omega)]
  · rcases (show i = 7 ∨ i = 8 ∨ i = 9 by omega) with rfl | rfl | rfl
    · exact k2
    · exact k3
    · exact k4
theorem z_LE10 (bs : Nat) (a b d : px_E) : f_LE_init (bs + 10) (px_push (fM bs 10 (zz bs a b d)) (.inr (4, [.null, .null, .null, .null, .int 0]))) = some (fM bs 15 (zz bs a b d)) := by
  rw [fM_push]
  obtain ⟨c', h, k1, k2, k3, k4, k5, k6⟩ := i_LE bs 10  (uE (zz bs a b d) 10 (.inr (4, [.null, .null, .null, .null, .int 0]))) (uE_s ..)
  rw [h]
  refine congrArg some (fM_ext (fun i hi => ?_))
  by_cases c : i < 10
  · rw [k1 i c, uE_n (by omega)]
  · rcases (show i = 10 ∨ i = 11 ∨ i = 12 ∨ i = 13 ∨ i = 14 by omega) with rfl | rfl | rfl | rfl | rfl
    · exact k2
    · exact k3
    · exact k4
    · exact k5
    · exact k6
theorem z_RO16 (bs : Nat) (a b d : px_E) : f_RO_init (bs + 16) (px_push (fM bs 16 (zz bs a b d)) (.inr (5, [.null, .null, .null, .null, .null, .int 0]))) = some (fM bs 22 (zz bs a b d)) := by
  rw [fM_push]
  obtain ⟨c', h, k1, k2, k3, k4, k5, k6, k7⟩ := i_RO bs 16  (uE (zz bs a b d) 16 (.inr (5, [.null, .null, .null, .null, .null, .int 0]))) (uE_s ..)
  rw [h]
  refine congrArg some (fM_ext (fun i hi => ?_))
  by_cases c : i < 16
  · rw [k1 i c, uE_n (by omega)]
  · rcases (show i = 16 ∨ i = 17 ∨ i = 18 ∨ i = 19 ∨ i = 20 ∨ i = 21 by omega) with rfl | rfl | rfl | rfl | rfl | rfl
    · exact k2
    · exact k3
    · exact k4
    · exact k5
    · exact k6
    · exact k7
theorem z_LO23 (bs : Nat) (a b d : px_E) : f_LO_init (bs + 23) (bs + 15) (bs + 16) (px_push (fM bs 23 (zz bs a b d)) (.inr (6, [.null, .null, .null, .null]))) = some (fM bs 26 (zz bs a b d)) := by
  rw [fM_push]
  obtain ⟨c', h, k1, k2, k3, k4⟩ := i_LO bs 23 (bs + 15) (bs + 16) (uE (zz bs a b d) 23 (.inr (6, [.null, .null, .null, .null]))) (uE_s ..)
  rw [h]
  refine congrArg some (fM_ext (fun i hi => ?_))
  by_cases c : i < 23
  · rw [k1 i c, uE_n (by omega)]
  · rcases (show i = 23 ∨ i = 24 ∨ i = 25 by omega) with rfl | rfl | rfl
    · exact k2
    · exact k3
    · exact k4
theorem z_SH26 (bs : Nat) (a b d : px_E) : f_SH_init (bs + 26) (bs + 15) (bs + 10) (px_push (fM bs 26 (zz bs a b d)) (.inr (7, [.null, .null, .null, .null, .int 0, .int 0, .int 0, .int 0, .int 0]))) = some (fM bs 28 (zz bs a b d)) := by
  rw [fM_push]
  obtain ⟨c', h, k1, k2, k3⟩ := i_SH bs 26 (bs + 15) (bs + 10) (uE (zz bs a b d) 26 (.inr (7, [.null, .null, .null, .null, .int 0, .int 0, .int 0, .int 0, .int 0]))) (uE_s ..)
  rw [h]
  refine congrArg some (fM_ext (fun i hi => ?_))
  by_cases c : i < 26
  · rw [k1 i c, uE_n (by omega)]
  · rcases (show i = 26 ∨ i = 27 by omega) with rfl | rfl
    · exact k2
    · exact k3
theorem z_BL28 (bs : Nat) (a b d : px_E) : f_BL_init (bs + 28) (bs + 15) (bs + 16) (px_push (fM bs 28 (zz bs a b d)) (.inr (8, [.null, .null, .null, .null, .null, .int 0]))) = some (fM bs 32 (zz bs a b d)) := by
  rw [fM_push]
  obtain ⟨c', h, k1, k2, k3, k4, k5⟩ := i_BL bs 28 (bs + 15) (bs + 16) (uE (zz bs a b d) 28 (.inr (8, [.null, .null, .null, .null, .null, .int 0]))) (uE_s ..)
  rw [h]
  refine congrArg some (fM_ext (fun i hi => ?_))
  by_cases c : i < 28
  · rw [k1 i c, uE_n (by omega)]
  · rcases (show i = 28 ∨ i = 29 ∨ i = 30 ∨ i = 31 by omega) with rfl | rfl | rfl | rfl
    · exact k2
    · exact k3
    · exact k4
    · exact k5
theorem z_NA32 (bs : Nat) (a b d : px_E) : f_NA_init (bs + 32) (px_push (fM bs 32 (zz bs a b d)) (.inr (9, [.null, .int 0, .int 0]))) = some (fM bs 34 (zz bs a b d)) := by
  rw [fM_push]
  obtain ⟨c', h, k1, k2, k3⟩ := i_NA bs 32  (uE (zz bs a b d) 32 (.inr (9, [.null, .int 0, .int 0]))) (uE_s ..)
  rw [h]
  refine congrArg some (fM_ext (fun i hi => ?_))
  by_cases c : i < 32
  · rw [k1 i c, uE_n (by omega)]
  · rcases (show i = 32 ∨ i = 33 by omega) with rfl | rfl
    · exact k2
    · exact k3
theorem z_NA34 (bs : Nat) (a b d : px_E) : f_NA_init (bs + 34) (px_push (fM bs 34 (zz bs a b d)) (.inr (9, [.null, .int 0, .int 0]))) = some (fM bs 36 (zz bs a b d)) := by
  rw [fM_push]
  obtain ⟨c', h, k1, k2, k3⟩ := i_NA bs 34  (uE (zz bs a b d) 34 (.inr (9, [.null, .int 0, .int 0]))) (uE_s ..)
  rw [h]
  refine congrArg some (fM_ext (fun i hi => ?_))
  by_cases c : i < 34
  · rw [k1 i c, uE_n (by omega)]
  · rcases (show i = 34 ∨ i = 35 by omega) with rfl | rfl
    · exact k2
    · exact k3
theorem z_NA36 (bs : Nat) (a b d : px_E) : f_NA_init (bs + 36) (px_push (fM bs 36 (zz bs a b d)) (.inr (9, [.null, .int 0, .int 0]))) = some (fM bs 38 (zz bs a b d)) := by
  rw [fM_push]
  obtain ⟨c', h, k1, k2, k3⟩ := i_NA bs 36  (uE (zz bs a b d) 36 (.inr (9, [.null, .int 0, .int 0]))) (uE_s ..)
  rw [h]
  refine congrArg some (fM_ext (fun i hi => ?_))
  by_cases c : i < 36
  · rw [k1 i c, uE_n (by omega)]
  · rcases (show i = 36 ∨ i = 37 by omega) with rfl | rfl
    · exact k2
    · exact k3
theorem z_NA38 (bs : Nat) (a b d : px_E) : f_NA_init (bs + 38) (px_push (fM bs 38 (zz bs a b d)) (.inr (9, [.null, .int 0, .int 0]))) = some (fM bs 40 (zz bs a b d)) := by
  rw [fM_push]
  obtain ⟨c', h, k1, k2, k3⟩ := i_NA bs 38  (uE (zz bs a b d) 38 (.inr (9, [.null, .int 0, .int 0]))) (uE_s ..)
  rw [h]
  refine congrArg some (fM_ext (fun i hi => ?_))
  by_cases c : i < 38
  · rw [k1 i c, uE_n (by omega)]
  · rcases (show i = 38 ∨ i = 39 by omega) with rfl | rfl
    · exact k2
    · exact k3
theorem z_NA40 (bs : Nat) (a b d : px_E) : f_NA_init (bs + 40) (px_push (fM bs 40 (zz bs a b d)) (.inr (9, [.null, .int 0, .int 0]))) = some (fM bs 42 (zz bs a b d)) := by
  rw [fM_push]
  obtain ⟨c', h, k1, k2, k3⟩ := i_NA bs 40  (uE (zz bs a b d) 40 (.inr (9, [.null, .int 0, .int 0]))) (uE_s ..)
  rw [h]
  refine congrArg some (fM_ext (fun i hi => ?_))
  by_cases c : i < 40
  · rw [k1 i c, uE_n (by omega)]
  · rcases (show i = 40 ∨ i = 41 by omega) with rfl | rfl
    · exact k2
    · exact k3
theorem z_NA42 (bs : Nat) (a b d : px_E) : f_NA_init (bs + 42) (px_push (fM bs 42 (zz bs a b d)) (.inr (9, [.null, .int 0, .int 0]))) = some (fM bs 44 (zz bs a b d)) := by
  rw [fM_push]
  obtain ⟨c', h, k1, k2, k3⟩ := i_NA bs 42  (uE (zz bs a b d) 42 (.inr (9, [.null, .int 0, .int 0]))) (uE_s ..)
  rw [h]
  refine congrArg some (fM_ext (fun i hi => ?_))
  by_cases c : i < 42
  · rw [k1 i c, uE_n (by omega)]
  · rcases (show i = 42 ∨ i = 43 by omega) with rfl | rfl
    · exact k2
    · exact k3
theorem z_NA44 (bs : Nat) (a b d : px_E) : f_NA_init (bs + 44) (px_push (fM bs 44 (zz bs a b d)) (.inr (9, [.null, .int 0, .int 0]))) = some (fM bs 46 (zz bs a b d)) := by
  rw [fM_push]
  obtain ⟨c', h, k1, k2, k3⟩ := i_NA bs 44  (uE (zz bs a b d) 44 (.inr (9, [.null, .int 0, .int 0]))) (uE_s ..)
  rw [h]
  refine congrArg some (fM_ext (fun i hi => ?_))
  by_cases c : i < 44
  · rw [k1 i c, uE_n (by omega)]
  · rcases (show i = 44 ∨ i = 45 by omega) with rfl | rfl
    · exact k2
    · exact k3
theorem z_NA46 (bs : Nat) (a b d : px_E) : f_NA_init (bs + 46) (px_push (fM bs 46 (zz bs a b d)) (.inr (9, [.null, .int 0, .int 0]))) = some (fM bs 48 (zz bs a b d)) := by
  rw [fM_push]
  obtain ⟨c', h, k1, k2, k3⟩ := i_NA bs 46  (uE (zz bs a b d) 46 (.inr (9, [.null, .int 0, .int 0]))) (uE_s ..)
  rw [h]
  refine congrArg some (fM_ext (fun i hi => ?_))
  by_cases c : i < 46
  · rw [k1 i c, uE_n (by omega)]
  · rcases (show i = 46 ∨ i = 47 by omega) with rfl | rfl
    · exact k2
    · exact k3
theorem z_NA48 (bs : Nat) (a b d : px_E) : f_NA_init (bs + 48) (px_push (fM bs 48 (zz bs a b d)) (.inr (9, [.null, .int 0, .int 0]))) = some (fM bs 50 (zz bs a b d)) := by
  rw [fM_push]
  obtain ⟨c', h, k1, k2, k3⟩ := i_NA bs 48  (uE (zz bs a b d) 48 (.inr (9, [.null, .int 0, .int 0]))) (uE_s ..)
  rw [h]
  refine congrArg some (fM_ext (fun i hi => ?_))
  by_cases c : i < 48
  · rw [k1 i c, uE_n (by omega)]
  · rcases (show i = 48 ∨ i = 49 by omega) with rfl | rfl
    · exact k2
    · exact k3
theorem z_NA50 (bs : Nat) (a b d : px_E) : f_NA_init (bs + 50) (px_push (fM bs 50 (zz bs a b d)) (.inr (9, [.null, .int 0, .int 0]))) = some (fM bs 52 (zz bs a b d)) := by
  rw [fM_push]
  obtain ⟨c', h, k1, k2, k3⟩ := i_NA bs 50  (uE (zz bs a b d) 50 (.inr (9, [.null, .int 0, .int 0]))) (uE_s ..)
  rw [h]
  refine congrArg some (fM_ext (fun i hi => ?_))
  by_cases c : i < 50
  · rw [k1 i c, uE_n (by omega)]
  · rcases (show i = 50 ∨ i = 51 by omega) with rfl | rfl
    · exact k2
    · exact k3
theorem z_BO52 (bs : Nat) (a b d : px_E) : f_BO_init (bs + 52) (px_push (fM bs 52 (zz bs a b d)) (.inr (10, [.null, .null, .int 0, .int 0, .int 0]))) = some (fM bs 55 (zz bs a b d)) := by
  rw [fM_push]
  obtain ⟨c', h, k1, k2, k3, k4⟩ := i_BO bs 52  (uE (zz bs a b d) 52 (.inr (10, [.null, .null, .int 0, .int 0, .int 0]))) (uE_s ..)
  rw [h]
  refine congrArg some (fM_ext (fun i hi => ?_))
  by_cases c : i < 52
  · rw [k1 i c, uE_n (by omega)]
  · rcases (show i = 52 ∨ i = 53 ∨ i = 54 by omega) with rfl | rfl | rfl
    · exact k2
    · exact k3
    · exact k4
theorem z_BO55 (bs : Nat) (a b d : px_E) : f_BO_init (bs + 55) (px_push (fM bs 55 (zz bs a b d)) (.inr (10, [.null, .null, .int 0, .int 0, .int 0]))) = some (fM bs 58 (zz bs a b d)) := by
  rw [fM_push]
  obtain ⟨c', h, k1, k2, k3, k4⟩ := i_BO bs 55  (uE (zz bs a b d) 55 (.inr (10, [.null, .null, .int 0, .int 0, .int 0]))) (uE_s ..)
  rw [h]
  refine congrArg some (fM_ext (fun i hi => ?_))
  by_cases c : i < 55
  · rw [k1 i c, uE_n (by omega)]
  · rcases (show i = 55 ∨ i = 56 ∨ i = 57 by omega) with rfl | rfl | rfl
    · exact k2
    · exact k3
    · exact k4
theorem z_BO58 (bs : Nat) (a b d : px_E) : f_BO_init (bs + 58) (px_push (fM bs 58 (zz bs a b d)) (.inr (10, [.null, .null, .int 0, .int 0, .int 0]))) = some (fM bs 61 (zz bs a b d)) := by
  rw [fM_push]
  obtain ⟨c', h, k1, k2, k3, k4⟩ := i_BO bs 58  (uE (zz bs a b d) 58 (.inr (10, [.null, .null, .int 0, .int 0, .int 0]))) (uE_s ..)
  rw [h]
  refine congrArg some (fM_ext (fun i hi => ?_))
  by_cases c : i < 58
  · rw [k1 i c, uE_n (by omega)]
  · rcases (show i = 58 ∨ i = 59 ∨ i = 60 by omega) with rfl | rfl | rfl
    · exact k2
    · exact k3
    · exact k4
theorem z_BO61 (bs : Nat) (a b d : px_E) : f_BO_init (bs + 61) (px_push (fM bs 61 (zz bs a b d)) (.inr (10, [.null, .null, .int 0, .int 0, .int 0]))) = some (fM bs 64 (zz bs a b d)) := by
  rw [fM_push]
  obtain ⟨c', h, k1, k2, k3, k4⟩ := i_BO bs 61  (uE (zz bs a b d) 61 (.inr (10, [.null, .null, .int 0, .int 0, .int 0]))) (uE_s ..)
  rw [h]
  refine congrArg some (fM_ext (fun i hi => ?_))
  by_cases c : i < 61
  · rw [k1 i c, uE_n (by omega)]
  · rcases (show i = 61 ∨ i = 62 ∨ i = 63 by omega) with rfl | rfl | rfl
    · exact k2
    · exact k3
    · exact k4
theorem z_BO64 (bs : Nat) (a b d : px_E) : f_BO_init (bs + 64) (px_push (fM bs 64 (zz bs a b d)) (.inr (10, [.null, .null, .int 0, .int 0, .int 0]))) = some (fM bs 67 (zz bs a b d)) := by
  rw [fM_push]
  obtain ⟨c', h, k1, k2, k3, k4⟩ := i_BO bs 64  (uE (zz bs a b d) 64 (.inr (10, [.null, .null, .int 0, .int 0, .int 0]))) (uE_s ..)
  rw [h]
  refine congrArg some (fM_ext (fun i hi => ?_))
  by_cases c : i < 64
  · rw [k1 i c, uE_n (by omega)]
  · rcases (show i = 64 ∨ i = 65 ∨ i = 66 by omega) with rfl | rfl | rfl
    · exact k2
    · exact k3
    · exact k4
theorem z_BO67 (bs : Nat) (a b d : px_E) : f_BO_init (bs + 67) (px_push (fM bs 67 (zz bs a b d)) (.inr (10, [.null, .null, .int 0, .int 0, .int 0]))) = some (fM bs 70 (zz bs a b d)) := by
  rw [fM_push]
  obtain ⟨c', h, k1, k2, k3, k4⟩ := i_BO bs 67  (uE (zz bs a b d) 67 (.inr (10, [.null, .null, .int 0, .int 0, .int 0]))) (uE_s ..)
  rw [h]
  refine congrArg some (fM_ext (fun i hi => ?_))
  by_cases c : i < 67
  · rw [k1 i c, uE_n (by omega)]
  · rcases (show i = 67 ∨ i = 68 ∨ i = 69 by omega) with rfl | rfl | rfl
    · exact k2
    · exact k3
    · exact k4
theorem z_BO70 (bs : Nat) (a b d : px_E) : f_BO_init (bs + 70) (px_push (fM bs 70 (zz bs a b d)) (.inr (10, [.null, .null, .int 0, .int 0, .int 0]))) = some (fM bs 73 (zz bs a b d)) := by
  rw [fM_push]
  obtain ⟨c', h, k1, k2, k3, k4⟩ := i_BO bs 70  (uE (zz bs a b d) 70 (.inr (10, [.null, .null, .int 0, .int 0, .int 0]))) (uE_s ..)
  rw [h]
  refine congrArg some (fM_ext (fun i hi => ?_))
  by_cases c : i < 70
  · rw [k1 i c, uE_n (by omega)]
  · rcases (show i = 70 ∨ i = 71 ∨ i = 72 by omega) with rfl | rfl | rfl
    · exact k2
    · exact k3
    · exact k4
theorem z_BO73 (bs : Nat) (a b d : px_E) : f_BO_init (bs + 73) (px_push (fM bs 73 (zz bs a b d)) (.inr (10, [.null, .null, .int 0, .int 0, .int 0]))) = some (fM bs 76 (zz bs a b d)) := by
  rw [fM_push]
  obtain ⟨c', h, k1, k2, k3, k4⟩ := i_BO bs 73  (uE (zz bs a b d) 73 (.inr (10, [.null, .null, .int 0, .int 0, .int 0]))) (uE_s ..)
  rw [h]
  refine congrArg some (fM_ext (fun i hi => ?_))
  by_cases c : i < 73
  · rw [k1 i c, uE_n (by omega)]
  · rcases (show i = 73 ∨ i = 74 ∨ i = 75 by omega) with rfl | rfl | rfl
    · exact k2
    · exact k3
    · exact k4
theorem z_names (bs : Nat) : (va_up (va_up (va_up (va_up (va_up (va_up (va_up (va_up (va_up (va_up (fun _ => none) 0 (some (bs + 32))) 1 (some (bs + 34))) 2 (some (bs + 36))) 3 (some (bs + 38))) 4 (some (bs + 40))) 5 (some (bs + 42))) 6 (some (bs + 44))) 7 (some (bs + 46))) 8 (some (bs + 48))) 9 (some (bs + 50))) = fun j => if j < 10 then some (bs + (32 + 2 * j)) else none := by
  funext j
  by_cases c : j < 10
  · rcases (show j = 0 ∨ j = 1 ∨ j = 2 ∨ j = 3 ∨ j = 4 ∨ j = 5 ∨ j = 6 ∨ j = 7 ∨ j = 8 ∨ j = 9 by omega) with rfl | rfl | rfl | rfl | rfl | rfl | rfl | rfl | rfl | rfl <;> rfl
  · unfold va_up
    rw [if_neg c, if_neg (show ¬ j = 9 by omega), if_neg (show ¬ j = 8 by omega), if_neg (show ¬ j = 7 by omega), if_neg (show ¬ j = 6 by omega), if_neg (show ¬ j = 5 by omega), if_neg (show ¬ j = 4 by omega), if_neg (show ¬ j = 3 by omega), if_neg (show ¬ j = 2 by omega), if_neg (show ¬ j = 1 by omega), if_neg (show ¬ j = 0 by omega)]
theorem z_boards (bs : Nat) : (va_up (va_up (va_up (va_up (va_up (va_up (va_up (va_up (fun _ => none) 0 (some (bs + 52))) 1 (some (bs + 55))) 2 (some (bs + 58))) 3 (some (bs + 61))) 4 (some (bs + 64))) 5 (some (bs + 67))) 6 (some (bs + 70))) 7 (some (bs + 73))) = fun j => if j < 8 then some (bs + (52 + 3 * j)) else none := by
  funext j
  by_cases c : j < 8
  · rcases (show j = 0 ∨ j = 1 ∨ j = 2 ∨ j = 3 ∨ j = 4 ∨ j = 5 ∨ j = 6 ∨ j = 7 by omega) with rfl | rfl | rfl | rfl | rfl | rfl | rfl | rfl <;> rfl
  · unfold va_up
    rw [if_neg c, if_neg (show ¬ j = 7 by omega), if_neg (show ¬ j = 6 by omega), if_neg (show ¬ j = 5 by omega), if_neg (show ¬ j = 4 by omega), if_neg (show ¬ j = 3 by omega), if_neg (show ¬ j = 2 by omega), if_neg (show ¬ j = 1 by omega), if_neg (show ¬ j = 0 by omega)]
theorem sb_init (bs : Nat) (b d : px_E) : f_SB_init bs (fM bs 1 (zz bs (.inr (0, [.null, .null, .null, .null, .null, .null, .int 0, .null, .null, .int 0, .null, .null, .null])) b d)) = some (fM bs 76 (fun i => cc bs i (K0 i))) := by
  unfold f_SB_init
  refine bs_ rfl ?_
  refine bs_ (z_TX1 ..) ?_
  refine bs_ (z_pt (by omega) (Nat.le_of_ble_eq_true rfl)) ?_
  refine bs_ rfl ?_
  refine bs_ (z_gp (by omega) rfl) ?_
  refine bs_ (z_RR3 ..) ?_
  refine bs_ (z_pt (by omega) (Nat.le_of_ble_eq_true rfl)) ?_
  refine bs_ rfl ?_
  refine bs_ (z_RS4 ..) ?_
  refine bs_ (z_pt (by omega) (Nat.le_of_ble_eq_true rfl)) ?_
  refine bs_ rfl ?_
  refine bs_ (z_RS7 ..) ?_
  refine bs_ (z_pt (by omega) (Nat.le_of_ble_eq_true rfl)) ?_
  refine bs_ rfl ?_
  refine bs_ (z_LE10 ..) ?_
  refine bs_ (z_pt (by omega) (Nat.le_of_ble_eq_true rfl)) ?_
  refine bs_ (congrArg some (z_push15 ..)) ?_
  refine bs_ (z_pt (by omega) (Nat.le_of_ble_eq_true rfl)) ?_
  refine bs_ rfl ?_
  refine bs_ (z_RO16 ..) ?_
  refine bs_ (z_pt (by omega) (Nat.le_of_ble_eq_true rfl)) ?_
  refine bs_ (congrArg some (z_push22 ..)) ?_
  refine bs_ (z_pt (by omega) (Nat.le_of_ble_eq_true rfl)) ?_
  refine bs_ rfl ?_
  refine bs_ (z_gp (by omega) rfl) ?_
  refine bs_ (z_gp (by omega) rfl) ?_
  refine bs_ (z_LO23 ..) ?_
  refine bs_ (z_pt (by omega) (Nat.le_of_ble_eq_true rfl)) ?_
  refine bs_ rfl ?_
  refine bs_ (z_gp (by omega) rfl) ?_
  refine bs_ (z_gp (by omega) rfl) ?_
  refine bs_ (z_SH26 ..) ?_
  refine bs_ (z_pt (by omega) (Nat.le_of_ble_eq_true rfl)) ?_
  refine bs_ rfl ?_
  refine bs_ (z_gp (by omega) rfl) ?_
  refine bs_ (z_gp (by omega) rfl) ?_
  refine bs_ (z_BL28 ..) ?_
  refine bs_ (z_pt (by omega) (Nat.le_of_ble_eq_true rfl)) ?_
  refine bs_ (z_gr (by omega) rfl) ?_
  refine bs_ rfl ?_
  refine bs_ (z_NA32 ..) ?_
  refine bs_ (z_sr15 (m := 32) (by omega) (by omega) (by omega) (by omega) (by omega) rfl (by decide) (by decide)) ?_
  refine bs_ (z_gr (by omega) rfl) ?_
  refine bs_ rfl ?_
  refine bs_ (z_NA34 ..) ?_
  refine bs_ (z_sr15 (m := 34) (by omega) (by omega) (by omega) (by omega) (by omega) rfl (by decide) (by decide)) ?_
  refine bs_ (z_gr (by omega) rfl) ?_
  refine bs_ rfl ?_
  refine bs_ (z_NA36 ..) ?_
  refine bs_ (z_sr15 (m := 36) (by omega) (by omega) (by omega) (by omega) (by omega) rfl (by decide) (by decide)) ?_
  refine bs_ (z_gr (by omega) rfl) ?_
  refine bs_ rfl ?_
  refine bs_ (z_NA38 ..) ?_
  refine bs_ (z_sr15 (m := 38) (by omega) (by omega) (by omega) (by omega) (by omega) rfl (by decide) (by decide)) ?_
  refine bs_ (z_gr (by omega) rfl) ?_
  refine bs_ rfl ?_
  refine bs_ (z_NA40 ..) ?_
  refine bs_ (z_sr15 (m := 40) (by omega) (by omega) (by omega) (by omega) (by omega) rfl (by decide) (by decide)) ?_
  refine bs_ (z_gr (by omega) rfl) ?_
  refine bs_ rfl ?_
  refine bs_ (z_NA42 ..) ?_
  refine bs_ (z_sr15 (m := 42) (by omega) (by omega) (by omega) (by omega) (by omega) rfl (by decide) (by decide)) ?_
  refine bs_ (z_gr (by omega) rfl) ?_
  refine bs_ rfl ?_
  refine bs_ (z_NA44 ..) ?_
  refine bs_ (z_sr15 (m := 44) (by omega) (by omega) (by omega) (by omega) (by omega) rfl (by decide) (by decide)) ?_
  refine bs_ (z_gr (by omega) rfl) ?_
  refine bs_ rfl ?_
  refine bs_ (z_NA46 ..) ?_
  refine bs_ (z_sr15 (m := 46) (by omega) (by omega) (by omega) (by omega) (by omega) rfl (by decide) (by decide)) ?_
  refine bs_ (z_gr (by omega) rfl) ?_
  refine bs_ rfl ?_
  refine bs_ (z_NA48 ..) ?_
  refine bs_ (z_sr15 (m := 48) (by omega) (by omega) (by omega) (by omega) (by omega) rfl (by decide) (by decide)) ?_
  refine bs_ (z_gr (by omega) rfl) ?_
  refine bs_ rfl ?_
  refine bs_ (z_NA50 ..) ?_
  refine bs_ (z_sr15 (m := 50) (by omega) (by omega) (by omega) (by omega) (by omega) rfl (by decide) (by decide)) ?_
  refine bs_ (z_gr (by omega) rfl) ?_
  refine bs_ rfl ?_
  refine bs_ (z_BO52 ..) ?_
  refine bs_ (z_sr22 (m := 52) (by omega) (by omega) (by omega) (by omega) (by omega) rfl (by decide) (by decide)) ?_
  refine bs_ (z_gr (by omega) rfl) ?_
  refine bs_ rfl ?_
  refine bs_ (z_BO55 ..) ?_
  refine bs_ (z_sr22 (m := 55) (by omega) (by omega) (by omega) (by omega) (by omega) rfl (by decide) (by decide)) ?_
  refine bs_ (z_gr (by omega) rfl) ?_
  refine bs_ rfl ?_
  refine bs_ (z_BO58 ..) ?_
  refine bs_ (z_sr22 (m := 58) (by omega) (by omega) (by omega) (by omega) (by omega) rfl (by decide) (by decide)) ?_
  refine bs_ (z_gr (by omega) rfl) ?_
  refine bs_ rfl ?_
  refine bs_ (z_BO61 ..) ?_
  refine bs_ (z_sr22 (m := 61) (by omega) (by omega) (by omega) (by omega) (by omega) rfl (by decide) (by decide)) ?_
  refine bs_ (z_gr (by omega) rfl) ?_
  refine bs_ rfl ?_
  refine bs_ (z_BO64 ..) ?_
  refine bs_ (z_sr22 (m := 64) (by omega) (by omega) (by omega) (by omega) (by omega) rfl (by decide) (by decide)) ?_
  refine bs_ (z_gr (by omega) rfl) ?_
  refine bs_ rfl ?_
  refine bs_ (z_BO67 ..) ?_
  refine bs_ (z_sr22 (m := 67) (by omega) (by omega) (by omega) (by omega) (by omega) rfl (by decide) (by decide)) ?_
  refine bs_ (z_gr (by omega) rfl) ?_
  refine bs_ rfl ?_
  refine bs_ (z_BO70 ..) ?_
  refine bs_ (z_sr22 (m := 70) (by omega) (by omega) (by omega) (by omega) (by omega) rfl (by decide) (by decide)) ?_
  refine bs_ (z_gr (by omega) rfl) ?_
  refine bs_ rfl ?_
  refine bs_ (z_BO73 ..) ?_
  refine bs_ (z_sr22 (m := 73) (by omega) (by omega) (by omega) (by omega) (by omega) rfl (by decide) (by decide)) ?_
  refine congrArg some (fM_ext (fun i _ => ?_))
  by_cases c0 : i = 0
  · subst c0
    rw [zz_0]
    show _ = (.inr (0, [.ref (bs + 1), .ref (bs + 3), dyn bs (nI 4), dyn bs (nI 7), .ref (bs + 10), .ref (bs + 15), .int 0, .ref (bs + 16), .ref (bs + 22), .int 0, .ref (bs + 23), .ref (bs + 26), .ref (bs + 28)]) : px_E)
    rw [← dyn_r (bs := bs) (n := 4) (by omega) (by omega), ← dyn_r (bs := bs) (n := 7) (by omega) (by omega)]
    rfl
  · by_cases c1 : i = 15
    · subst c1
      rw [zz_15]
      exact congrArg (fun f => (.inl (1, 10, .inr (.inr (.inr (.inr f)))) : px_E)) (z_names bs)
    · by_cases c2 : i = 22
      · subst c2
        rw [zz_22]
        exact congrArg (fun f => (.inl (2, 8, .inr (.inr (.inr (.inr f)))) : px_E)) (z_boards bs)
      · exact zz_o c0 c1 c2
