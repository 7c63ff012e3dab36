theorem law_pure (xs : Nat → Int32) (L : Nat) (hL : L ≤ 260) : ∃ N, fL_law_16 N xs L I00 = some 1 := sorry
