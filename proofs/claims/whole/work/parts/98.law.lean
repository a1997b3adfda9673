theorem law_pure (L : Nat) (xs : Nat → Int32) (hL : L ≤ 3584) : lw_run L xs := sorry
