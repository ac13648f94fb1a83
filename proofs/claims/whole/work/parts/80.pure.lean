theorem pure_whole (bs L : Nat) (xs : Nat → Int32) (hL : L ≤ 2560) : f_LW0 L xs (fun _ => none, bs) = some 1 := by
  sorry
