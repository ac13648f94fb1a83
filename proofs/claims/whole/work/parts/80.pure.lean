theorem pure_whole (bs L : Nat) (xs : Nat → Int32) (hL : L ≤ 2560) : f_LW0 L xs (fun _ => none, bs) = some 1 := by
  have e : ∀ x y z : px_E, px_push (fun _ => none, bs) x = fM bs 1 (zz bs x y z) := by
    intro x y z
    unfold px_push fM
    refine Prod.ext ?_ rfl
    funext q
    dsimp only
    by_cases e1 : q < bs
    · rw [if_neg (by omega), if_pos e1]
    · by_cases e2 : q = bs
      · subst e2
        rw [if_pos rfl, if_neg (by omega), if_pos (by omega), Nat.sub_self, zz_0]
      · rw [if_neg e2, if_neg e1, if_neg (by omega)]
  unfold f_LW0
  refine bs_ (congrArg some (e _ (.inr (0, [])) (.inr (0, [])))) ?_
  refine bs_ (sb_init bs _ _) ?_
  refine bs_ (congrArg some (y_first ..)) ?_
  refine bs_ (mo_init bs) ?_
  exact pure_loop bs L xs hL 599 0 K0 S0' (by omega) (by omega) J_first
