theorem law_true (L : Nat) (xs : Nat → Int32) (hL : L ≤ 260) : ∃ n, f_L_law L xs n 0 227 228 M00 = some 1 := sorry
