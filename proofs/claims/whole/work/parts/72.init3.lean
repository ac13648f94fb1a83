/-! THE REFERENCE'S CONSTRUCTOR -/
def S1 (j : Nat) : Nat → Int32 := if j = 0 then (fun c => if c = 2 then 1 else if c = 7 then 116 else 0) else ze
def yy (bs : Nat) (e : px_E) : Nat → px_E := fun i => if i = 76 then e else if i < 76 then cc bs i (K0 i) else mcell bs (i - 76) (S1 (i - 76))
theorem yy_76 (bs : Nat) (e : px_E) : yy bs e 76 = e := rfl
theorem y_first (bs : Nat) (x : px_E) : px_push (fM bs 76 (fun i => cc bs i (K0 i))) x = fM bs 77 (yy bs x) := by
  rw [fM_push]
  refine fM_ext (fun i hi => ?_)
  by_cases c : i = 76
  · subst c; rw [uE_s, yy_76]
  · rw [uE_n c]; unfold yy; rw [if_neg c, if_pos (by omega)]
theorem y_push {bs j : Nat} {e x : px_E} (hj : 0 < j) (hx : x = .inl (0, mlen j, .inl ze)) : px_push (fM bs (76 + j) (yy bs e)) x = fM bs (76 + (j + 1)) (yy bs e) := by
  rw [fM_push]
  refine fM_ext (fun i hi => ?_)
  by_cases c : i = 76 + j
  · subst c
    rw [uE_s]
    unfold yy
    rw [if_neg (by omega), if_neg (by omega), show 76 + j - 76 = j by omega, hx]
    unfold mcell S1
    rw [if_neg (by omega), if_neg (by omega)]
  · rw [uE_n c]
theorem y_pt {bs n k : Nat} {fs : List Value} {v : Value} (hn : 76 < n) (hk : k < fs.length) : px_pt 11 k (fM bs n (yy bs (.inr (11, fs)))) (bs + 76) v = some (fM bs n (yy bs (.inr (11, fs.set k v)))) := by
  rw [fM_pt (i := 76) hn (yy_76 ..) hk]
  refine congrArg some (fM_ext (fun i _ => ?_))
  by_cases c : i = 76
  · subst c; rw [uE_s, yy_76]
  · rw [uE_n c]; unfold yy; rw [if_neg c, if_neg c]
theorem y_ptx {bs n k : Nat} {fs : List Value} {v : Value} (fs' : List Value) (hn : 76 < n) (hk : k < fs.length) (he : fs.set k v = fs') : px_pt 11 k (fM bs n (yy bs (.inr (11, fs)))) (bs + 76) v = some (fM bs n (yy bs (.inr (11, fs')))) := by
  rw [y_pt hn hk, he]
theorem y_gm (bs : Nat) (e : px_E) (he : e = mcell bs 0 (S1 0)) : fM bs 100 (yy bs e) = gm bs K0 S1 := by
  unfold fM gm
  refine Prod.ext ?_ rfl
  funext q
  dsimp only
  by_cases e1 : q < bs
  · simp only [if_pos e1]
  · by_cases e2 : q < bs + 100
    · simp only [if_neg e1, if_pos e2]
      by_cases e3 : q < bs + 76
      · rw [if_pos e3]; unfold yy; rw [if_neg (by omega), if_pos (by omega)]
      · rw [if_neg e3]
        unfold yy
        by_cases e4 : q - bs = 76
        · rw [if_pos e4, he, show q - bs - 76 = 0 by omega]
        · rw [if_neg e4, if_neg (by omega)]
    · have e3 : ¬ q < bs + 76 := by omega
      simp only [if_neg e1, if_neg e2, if_neg e3]
theorem mo_w8L (bs : Nat) (K : Kp) : ∀ (m i n : Nat) (S : Kp), i + m = 128 → m < n → f_MO_init_L216 n (bs + 76) (nI i) (gm bs K S) = some ((), gm bs K (rw2 S 6 (w8 i 128 (S 6)))) := by
  intro m
  induction m with
  | zero =>
    intro i n S hi hm
    obtain ⟨n, rfl⟩ : ∃ n', n = n' + 1 := ⟨n - 1, by omega⟩
    obtain rfl : i = 128 := by omega
    rw [w8_e, rw2_self]
    simp only [f_MO_init_L216, show (128 : Int32) ≤ nI 128 by decide, if_true]
  | succ m ih =>
    intro i n S hi hm
    obtain ⟨n, rfl⟩ : ∃ n', n = n' + 1 := ⟨n - 1, by omega⟩
    have e1 : ¬ 128 ≤ nI i := by rw [li128, nI_leI (by omega) (by omega)]; omega
    have e2 : nI i + 1 = nI (i + 1) := nI_1 i
    have i1 := ih (i + 1) n (up2 S 6 i 8) (by omega) (by omega)
    rw [up2_s, w8_s (S 6) (by omega)] at i1
    have e3 : ∀ r, rw2 (up2 S 6 i 8) 6 r = rw2 S 6 r := fun r => by unfold up2; rw [rw2_rw]
    rw [e3] at i1
    simp only [f_MO_init_L216, e1, if_false, m16, Option.bind_some, ms6 bs K S 8 (show i < 128 by omega), e2, i1]
def S0' : Kp := rw2 (up2 (up2 S1 2 0 50) 3 0 100) 6 (w8 0 128 (up2 (up2 S1 2 0 50) 3 0 100 6))
theorem mo_init (bs : Nat) : f_MO_init (bs + 76) (fM bs 77 (yy bs (.inr (11, [.int 0, .null, .int 0, .null, .null, .int 0, .int 0, .int 0, .int 0, .null, .null, .int 0, .int 0, .int 0, .int 0, .int 0, .null, .int 0, .null, .null, .null, .int 0, .null, .null, .null, .int 0, .null, .null, .null, .int 0, .null, .null, .null, .null, .null, .null, .null, .null, .int 0, .int 0, .int 0, .int 0])))) = some (gm bs K0 S0') := by
  unfold f_MO_init
  refine bs_ (congrArg some (y_push (j := 1) (by omega) rfl)) ?_
  refine bs_ (y_ptx [.int 0, .ref (bs + 77), .int 0, .null, .null, .int 0, .int 0, .int 0, .int 0, .null, .null, .int 0, .int 0, .int 0, .int 0, .int 0, .null, .int 0, .null, .null, .null, .int 0, .null, .null, .null, .int 0, .null, .null, .null, .int 0, .null, .null, .null, .null, .null, .null, .null, .null, .int 0, .int 0, .int 0, .int 0] (by omega) (Nat.le_of_ble_eq_true rfl) rfl) ?_
  refine bs_ (y_ptx [.int 0, .ref (bs + 77), .int 1, .null, .null, .int 0, .int 0, .int 0, .int 0, .null, .null, .int 0, .int 0, .int 0, .int 0, .int 0, .null, .int 0, .null, .null, .null, .int 0, .null, .null, .null, .int 0, .null, .null, .null, .int 0, .null, .null, .null, .null, .null, .null, .null, .null, .int 0, .int 0, .int 0, .int 0] (by omega) (Nat.le_of_ble_eq_true rfl) rfl) ?_
  refine bs_ (congrArg some (y_push (j := 2) (by omega) rfl)) ?_
  refine bs_ (y_ptx [.int 0, .ref (bs + 77), .int 1, .ref (bs + 78), .null, .int 0, .int 0, .int 0, .int 0, .null, .null, .int 0, .int 0, .int 0, .int 0, .int 0, .null, .int 0, .null, .null, .null, .int 0, .null, .null, .null, .int 0, .null, .null, .null, .int 0, .null, .null, .null, .null, .null, .null, .null, .null, .int 0, .int 0, .int 0, .int 0] (by omega) (Nat.le_of_ble_eq_true rfl) rfl) ?_
  refine bs_ (congrArg some (y_push (j := 3) (by omega) rfl)) ?_
  refine bs_ (y_ptx [.int 0, .ref (bs + 77), .int 1, .ref (bs + 78), .ref (bs + 79), .int 0, .int 0, .int 0, .int 0, .null, .null, .int 0, .int 0, .int 0, .int 0, .int 0, .null, .int 0, .null, .null, .null, .int 0, .null, .null, .null, .int 0, .null, .null, .null, .int 0, .null, .null, .null, .null, .null, .null, .null, .null, .int 0, .int 0, .int 0, .int 0] (by omega) (Nat.le_of_ble_eq_true rfl) rfl) ?_
  refine bs_ (y_ptx [.int 0, .ref (bs + 77), .int 1, .ref (bs + 78), .ref (bs + 79), .int 0, .int 0, .int 116, .int 0, .null, .null, .int 0, .int 0, .int 0, .int 0, .int 0, .null, .int 0, .null, .null, .null, .int 0, .null, .null, .null, .int 0, .null, .null, .null, .int 0, .null, .null, .null, .null, .null, .null, .null, .null, .int 0, .int 0, .int 0, .int 0] (by omega) (Nat.le_of_ble_eq_true rfl) rfl) ?_
  refine bs_ (congrArg some (y_push (j := 4) (by omega) rfl)) ?_
  refine bs_ (y_ptx [.int 0, .ref (bs + 77), .int 1, .ref (bs + 78), .ref (bs + 79), .int 0, .int 0, .int 116, .int 0, .ref (bs + 80), .null, .int 0, .int 0, .int 0, .int 0, .int 0, .null, .int 0, .null, .null, .null, .int 0, .null, .null, .null, .int 0, .null, .null, .null, .int 0, .null, .null, .null, .null, .null, .null, .null, .null, .int 0, .int 0, .int 0, .int 0] (by omega) (Nat.le_of_ble_eq_true rfl) rfl) ?_
  refine bs_ (congrArg some (y_push (j := 5) (by omega) rfl)) ?_
  refine bs_ (y_ptx [.int 0, .ref (bs + 77), .int 1, .ref (bs + 78), .ref (bs + 79), .int 0, .int 0, .int 116, .int 0, .ref (bs + 80), .ref (bs + 81), .int 0, .int 0, .int 0, .int 0, .int 0, .null, .int 0, .null, .null, .null, .int 0, .null, .null, .null, .int 0, .null, .null, .null, .int 0, .null, .null, .null, .null, .null, .null, .null, .null, .int 0, .int 0, .int 0, .int 0] (by omega) (Nat.le_of_ble_eq_true rfl) rfl) ?_
  refine bs_ (congrArg some (y_push (j := 6) (by omega) rfl)) ?_
  refine bs_ (y_ptx [.int 0, .ref (bs + 77), .int 1, .ref (bs + 78), .ref (bs + 79), .int 0, .int 0, .int 116, .int 0, .ref (bs + 80), .ref (bs + 81), .int 0, .int 0, .int 0, .int 0, .int 0, .ref (bs + 82), .int 0, .null, .null, .null, .int 0, .null, .null, .null, .int 0, .null, .null, .null, .int 0, .null, .null, .null, .null, .null, .null, .null, .null, .int 0, .int 0, .int 0, .int 0] (by omega) (Nat.le_of_ble_eq_true rfl) rfl) ?_
  refine bs_ (congrArg some (y_push (j := 7) (by omega) rfl)) ?_
  refine bs_ (y_ptx [.int 0, .ref (bs + 77), .int 1, .ref (bs + 78), .ref (bs + 79), .int 0, .int 0, .int 116, .int 0, .ref (bs + 80), .ref (bs + 81), .int 0, .int 0, .int 0, .int 0, .int 0, .ref (bs + 82), .int 0, .ref (bs + 83), .null, .null, .int 0, .null, .null, .null, .int 0, .null, .null, .null, .int 0, .null, .null, .null, .null, .null, .null, .null, .null, .int 0, .int 0, .int 0, .int 0] (by omega) (Nat.le_of_ble_eq_true rfl) rfl) ?_
  refine bs_ (congrArg some (y_push (j := 8) (by omega) rfl)) ?_
  refine bs_ (y_ptx [.int 0, .ref (bs + 77), .int 1, .ref (bs + 78), .ref (bs + 79), .int 0, .int 0, .int 116, .int 0, .ref (bs + 80), .ref (bs + 81), .int 0, .int 0, .int 0, .int 0, .int 0, .ref (bs + 82), .int 0, .ref (bs + 83), .ref (bs + 84), .null, .int 0, .null, .null, .null, .int 0, .null, .null, .null, .int 0, .null, .null, .null, .null, .null, .null, .null, .null, .int 0, .int 0, .int 0, .int 0] (by omega) (Nat.le_of_ble_eq_true rfl) rfl) ?_
  refine bs_ (congrArg some (y_push (j := 9) (by omega) rfl)) ?_
  refine bs_ (y_ptx [.int 0, .ref (bs + 77), .int 1, .ref (bs + 78), .ref (bs + 79), .int 0, .int 0, .int 116, .int 0, .ref (bs + 80), .ref (bs + 81), .int 0, .int 0, .int 0, .int 0, .int 0, .ref (bs + 82), .int 0, .ref (bs + 83), .ref (bs + 84), .ref (bs + 85), .int 0, .null, .null, .null, .int 0, .null, .null, .null, .int 0, .null, .null, .null, .null, .null, .null, .null, .null, .int 0, .int 0, .int 0, .int 0] (by omega) (Nat.le_of_ble_eq_true rfl) rfl) ?_
  refine bs_ (congrArg some (y_push (j := 10) (by omega) rfl)) ?_
  refine bs_ (y_ptx [.int 0, .ref (bs + 77), .int 1, .ref (bs + 78), .ref (bs + 79), .int 0, .int 0, .int 116, .int 0, .ref (bs + 80), .ref (bs + 81), .int 0, .int 0, .int 0, .int 0, .int 0, .ref (bs + 82), .int 0, .ref (bs + 83), .ref (bs + 84), .ref (bs + 85), .int 0, .ref (bs + 86), .null, .null, .int 0, .null, .null, .null, .int 0, .null, .null, .null, .null, .null, .null, .null, .null, .int 0, .int 0, .int 0, .int 0] (by omega) (Nat.le_of_ble_eq_true rfl) rfl) ?_
  refine bs_ (congrArg some (y_push (j := 11) (by omega) rfl)) ?_
  refine bs_ (y_ptx [.int 0, .ref (bs + 77), .int 1, .ref (bs + 78), .ref (bs + 79), .int 0, .int 0, .int 116, .int 0, .ref (bs + 80), .ref (bs + 81), .int 0, .int 0, .int 0, .int 0, .int 0, .ref (bs + 82), .int 0, .ref (bs + 83), .ref (bs + 84), .ref (bs + 85), .int 0, .ref (bs + 86), .ref (bs + 87), .null, .int 0, .null, .null, .null, .int 0, .null, .null, .null, .null, .null, .null, .null, .null, .int 0, .int 0, .int 0, .int 0] (by omega) (Nat.le_of_ble_eq_true rfl) rfl) ?_
  refine bs_ (congrArg some (y_push (j := 12) (by omega) rfl)) ?_
  refine bs_ (y_ptx [.int 0, .ref (bs + 77), .int 1, .ref (bs + 78), .ref (bs + 79), .int 0, .int 0, .int 116, .int 0, .ref (bs + 80), .ref (bs + 81), .int 0, .int 0, .int 0, .int 0, .int 0, .ref (bs + 82), .int 0, .ref (bs + 83), .ref (bs + 84), .ref (bs + 85), .int 0, .ref (bs + 86), .ref (bs + 87), .ref (bs + 88), .int 0, .null, .null, .null, .int 0, .null, .null, .null, .null, .null, .null, .null, .null, .int 0, .int 0, .int 0, .int 0] (by omega) (Nat.le_of_ble_eq_true rfl) rfl) ?_
  refine bs_ (congrArg some (y_push (j := 13) (by omega) rfl)) ?_
  refine bs_ (y_ptx [.int 0, .ref (bs + 77), .int 1, .ref (bs + 78), .ref (bs + 79), .int 0, .int 0, .int 116, .int 0, .ref (bs + 80), .ref (bs + 81), .int 0, .int 0, .int 0, .int 0, .int 0, .ref (bs + 82), .int 0, .ref (bs + 83), .ref (bs + 84), .ref (bs + 85), .int 0, .ref (bs + 86), .ref (bs + 87), .ref (bs + 88), .int 0, .ref (bs + 89), .null, .null, .int 0, .null, .null, .null, .null, .null, .null, .null, .null, .int 0, .int 0, .int 0, .int 0] (by omega) (Nat.le_of_ble_eq_true rfl) rfl) ?_
  refine bs_ (congrArg some (y_push (j := 14) (by omega) rfl)) ?_
  refine bs_ (y_ptx [.int 0, .ref (bs + 77), .int 1, .ref (bs + 78), .ref (bs + 79), .int 0, .int 0, .int 116, .int 0, .ref (bs + 80), .ref (bs + 81), .int 0, .int 0, .int 0, .int 0, .int 0, .ref (bs + 82), .int 0, .ref (bs + 83), .ref (bs + 84), .ref (bs + 85), .int 0, .ref (bs + 86), .ref (bs + 87), .ref (bs + 88), .int 0, .ref (bs + 89), .ref (bs + 90), .null, .int 0, .null, .null, .null, .null, .null, .null, .null, .null, .int 0, .int 0, .int 0, .int 0] (by omega) (Nat.le_of_ble_eq_true rfl) rfl) ?_
  refine bs_ (congrArg some (y_push (j := 15) (by omega) rfl)) ?_
  refine bs_ (y_ptx [.int 0, .ref (bs + 77), .int 1, .ref (bs + 78), .ref (bs + 79), .int 0, .int 0, .int 116, .int 0, .ref (bs + 80), .ref (bs + 81), .int 0, .int 0, .int 0, .int 0, .int 0, .ref (bs + 82), .int 0, .ref (bs + 83), .ref (bs + 84), .ref (bs + 85), .int 0, .ref (bs + 86), .ref (bs + 87), .ref (bs + 88), .int 0, .ref (bs + 89), .ref (bs + 90), .ref (bs + 91), .int 0, .null, .null, .null, .null, .null, .null, .null, .null, .int 0, .int 0, .int 0, .int 0] (by omega) (Nat.le_of_ble_eq_true rfl) rfl) ?_
  refine bs_ (congrArg some (y_push (j := 16) (by omega) rfl)) ?_
  refine bs_ (y_ptx [.int 0, .ref (bs + 77), .int 1, .ref (bs + 78), .ref (bs + 79), .int 0, .int 0, .int 116, .int 0, .ref (bs + 80), .ref (bs + 81), .int 0, .int 0, .int 0, .int 0, .int 0, .ref (bs + 82), .int 0, .ref (bs + 83), .ref (bs + 84), .ref (bs + 85), .int 0, .ref (bs + 86), .ref (bs + 87), .ref (bs + 88), .int 0, .ref (bs + 89), .ref (bs + 90), .ref (bs + 91), .int 0, .ref (bs + 92), .null, .null, .null, .null, .null, .null, .null, .int 0, .int 0, .int 0, .int 0] (by omega) (Nat.le_of_ble_eq_true rfl) rfl) ?_
  refine bs_ (congrArg some (y_push (j := 17) (by omega) rfl)) ?_
  refine bs_ (y_ptx [.int 0, .ref (bs + 77), .int 1, .ref (bs + 78), .ref (bs + 79), .int 0, .int 0, .int 116, .int 0, .ref (bs + 80), .ref (bs + 81), .int 0, .int 0, .int 0, .int 0, .int 0, .ref (bs + 82), .int 0, .ref (bs + 83), .ref (bs + 84), .ref (bs + 85), .int 0, .ref (bs + 86), .ref (bs + 87), .ref (bs + 88), .int 0, .ref (bs + 89), .ref (bs + 90), .ref (bs + 91), .int 0, .ref (bs + 92), .ref (bs + 93), .null, .null, .null, .null, .null, .null, .int 0, .int 0, .int 0, .int 0] (by omega) (Nat.le_of_ble_eq_true rfl) rfl) ?_
  refine bs_ (congrArg some (y_push (j := 18) (by omega) rfl)) ?_
  refine bs_ (y_ptx [.int 0, .ref (bs + 77), .int 1, .ref (bs + 78), .ref (bs + 79), .int 0, .int 0, .int 116, .int 0, .ref (bs + 80), .ref (bs + 81), .int 0, .int 0, .int 0, .int 0, .int 0, .ref (bs + 82), .int 0, .ref (bs + 83), .ref (bs + 84), .ref (bs + 85), .int 0, .ref (bs + 86), .ref (bs + 87), .ref (bs + 88), .int 0, .ref (bs + 89), .ref (bs + 90), .ref (bs + 91), .int 0, .ref (bs + 92), .ref (bs + 93), .ref (bs + 94), .null, .null, .null, .null, .null, .int 0, .int 0, .int 0, .int 0] (by omega) (Nat.le_of_ble_eq_true rfl) rfl) ?_
  refine bs_ (congrArg some (y_push (j := 19) (by omega) rfl)) ?_
  refine bs_ (y_ptx [.int 0, .ref (bs + 77), .int 1, .ref (bs + 78), .ref (bs + 79), .int 0, .int 0, .int 116, .int 0, .ref (bs + 80), .ref (bs + 81), .int 0, .int 0, .int 0, .int 0, .int 0, .ref (bs + 82), .int 0, .ref (bs + 83), .ref (bs + 84), .ref (bs + 85), .int 0, .ref (bs + 86), .ref (bs + 87), .ref (bs + 88), .int 0, .ref (bs + 89), .ref (bs + 90), .ref (bs + 91), .int 0, .ref (bs + 92), .ref (bs + 93), .ref (bs + 94), .ref (bs + 95), .null, .null, .null, .null, .int 0, .int 0, .int 0, .int 0] (by omega) (Nat.le_of_ble_eq_true rfl) rfl) ?_
  refine bs_ (congrArg some (y_push (j := 20) (by omega) rfl)) ?_
  refine bs_ (y_ptx [.int 0, .ref (bs + 77), .int 1, .ref (bs + 78), .ref (bs + 79), .int 0, .int 0, .int 116, .int 0, .ref (bs + 80), .ref (bs + 81), .int 0, .int 0, .int 0, .int 0, .int 0, .ref (bs + 82), .int 0, .ref (bs + 83), .ref (bs + 84), .ref (bs + 85), .int 0, .ref (bs + 86), .ref (bs + 87), .ref (bs + 88), .int 0, .ref (bs + 89), .ref (bs + 90), .ref (bs + 91), .int 0, .ref (bs + 92), .ref (bs + 93), .ref (bs + 94), .ref (bs + 95), .ref (bs + 96), .null, .null, .null, .int 0, .int 0, .int 0, .int 0] (by omega) (Nat.le_of_ble_eq_true rfl) rfl) ?_
  refine bs_ (congrArg some (y_push (j := 21) (by omega) rfl)) ?_
  refine bs_ (y_ptx [.int 0, .ref (bs + 77), .int 1, .ref (bs + 78), .ref (bs + 79), .int 0, .int 0, .int 116, .int 0, .ref (bs + 80), .ref (bs + 81), .int 0, .int 0, .int 0, .int 0, .int 0, .ref (bs + 82), .int 0, .ref (bs + 83), .ref (bs + 84), .ref (bs + 85), .int 0, .ref (bs + 86), .ref (bs + 87), .ref (bs + 88), .int 0, .ref (bs + 89), .ref (bs + 90), .ref (bs + 91), .int 0, .ref (bs + 92), .ref (bs + 93), .ref (bs + 94), .ref (bs + 95), .ref (bs + 96), .ref (bs + 97), .null, .null, .int 0, .int 0, .int 0, .int 0] (by omega) (Nat.le_of_ble_eq_true rfl) rfl) ?_
  refine bs_ (congrArg some (y_push (j := 22) (by omega) rfl)) ?_
  refine bs_ (y_ptx [.int 0, .ref (bs + 77), .int 1, .ref (bs + 78), .ref (bs + 79), .int 0, .int 0, .int 116, .int 0, .ref (bs + 80), .ref (bs + 81), .int 0, .int 0, .int 0, .int 0, .int 0, .ref (bs + 82), .int 0, .ref (bs + 83), .ref (bs + 84), .ref (bs + 85), .int 0, .ref (bs + 86), .ref (bs + 87), .ref (bs + 88), .int 0, .ref (bs + 89), .ref (bs + 90), .ref (bs + 91), .int 0, .ref (bs + 92), .ref (bs + 93), .ref (bs + 94), .ref (bs + 95), .ref (bs + 96), .ref (bs + 97), .ref (bs + 98), .null, .int 0, .int 0, .int 0, .int 0] (by omega) (Nat.le_of_ble_eq_true rfl) rfl) ?_
  refine bs_ (congrArg some (y_push (j := 23) (by omega) rfl)) ?_
  refine bs_ ((y_ptx [.int 0, .ref (bs + 77), .int 1, .ref (bs + 78), .ref (bs + 79), .int 0, .int 0, .int 116, .int 0, .ref (bs + 80), .ref (bs + 81), .int 0, .int 0, .int 0, .int 0, .int 0, .ref (bs + 82), .int 0, .ref (bs + 83), .ref (bs + 84), .ref (bs + 85), .int 0, .ref (bs + 86), .ref (bs + 87), .ref (bs + 88), .int 0, .ref (bs + 89), .ref (bs + 90), .ref (bs + 91), .int 0, .ref (bs + 92), .ref (bs + 93), .ref (bs + 94), .ref (bs + 95), .ref (bs + 96), .ref (bs + 97), .ref (bs + 98), .ref (bs + 99), .int 0, .int 0, .int 0, .int 0] (by omega) (Nat.le_of_ble_eq_true rfl) rfl).trans (congrArg some (y_gm bs _ rfl))) ?_
  have w := mo_w8L bs K0 128 0 px_fuel (up2 (up2 S1 2 0 50) 3 0 100) (by omega) (by unfold px_fuel; omega)
  rw [nI_0] at w
  refine bs_ (m3 ..) ?_
  refine bs_ (ms2 bs K0 S1 (i := 0) 50 (by omega)) ?_
  refine bs_ (m4 ..) ?_
  refine bs_ (ms3 bs K0 _ (i := 0) 100 (by omega)) ?_
  refine bs_ w ?_
  rfl
/-! what holds at first -/
theorem J_first : J K0 S0' := by
  have r : ∀ i, i ≠ 2 → i ≠ 3 → i ≠ 6 → S0' i = S1 i := fun i h1 h2 h3 => by unfold S0'; rw [rw2_n h3, up2_n h2, up2_n h1]
  have s0 : ∀ c, c ≠ 2 → c ≠ 7 → S0' 0 c = 0 := fun c h1 h2 => by rw [r 0 (by omega) (by omega) (by omega)]; simp [S1, h1, h2]
  refine ⟨0, 4, 1, 0, 0, 0, 0, ⟨by omega, s0 0 (by omega) (by omega), rfl, fun i hi => absurd hi (by omega)⟩, ⟨Or.inl rfl, rfl, rfl, ⟨by omega, by omega⟩, ?_, rfl, fun i hi => ?_, ?_, ?_, ?_, ?_⟩, ⟨by omega, s0 17 (by omega) (by omega), rfl, fun i hi => absurd hi (by omega), fun u hu => ?_⟩, ⟨by omega, s0 21 (by omega) (by omega), rfl, fun i hi => absurd hi (by omega), fun i _ hi => ?_⟩, ⟨by omega, s0 25 (by omega) (by omega), rfl, fun i hi => absurd hi (by omega)⟩, ⟨by omega, s0 29 (by omega) (by omega), rfl, fun i hi => absurd hi (by omega), fun i _ hi => ?_⟩, fun w hw n hn => ?_⟩
  · rw [r 0 (by omega) (by omega) (by omega)]; rfl
  · obtain rfl : i = 0 := by omega
    refine ⟨?_, ?_⟩
    · unfold S0'; rw [rw2_n (by omega), up2_n (by omega)]; simp [up2_at, K0, upd]
    · unfold S0'; rw [rw2_n (by omega)]; simp [up2_at, K0, upd]
  · rw [s0 5 (by omega) (by omega)]; rfl
  · rw [s0 6 (by omega) (by omega)]; rfl
  · rw [r 0 (by omega) (by omega) (by omega)]; rfl
  · rw [r 0 (by omega) (by omega) (by omega)]; exact Or.inr (Or.inr (Or.inr rfl))
  · have e1 : K0 11 u = 8 := by
      show w8 0 95 ze u = 8
      unfold w8
      rw [if_pos (by omega)]
    have e2 : S0' 6 (u + 32) = 8 := by
      unfold S0'
      rw [rw2_s]
      unfold w8
      rw [if_pos (by omega)]
    rw [e1, e2]
  · unfold K0
    rw [if_neg (by omega), if_neg (by omega), if_neg (by omega), if_neg (by omega), if_neg (by omega), if_pos (by omega), if_pos rfl]
  · have e : K0 (52 + 3 * i) = ze := by
      unfold K0
      rw [if_neg (by omega), if_neg (by omega), if_neg (by omega), if_neg (by omega), if_neg (by omega), if_neg (by omega)]
    rw [e]
    exact ⟨rfl, rfl⟩
  · have e : K0 20 w = 0 := rfl
    rw [e]
    have z : ∀ x : Int32, (0 : Int32) &&& x = 0 := fun x => by simp
    rw [z]
    constructor
    · intro h; exact absurd rfl h
    · rintro ⟨b, hb, _⟩; exact absurd hb (by omega)
