theorem c_isAtEnd {a : Nat} {k : Int} {M : KM} (h : M.1 a 6 = zI k) (h1 : 0 ≤ k) (h2 : k ≤ 4) : f_X9_isAtEnd a M = bI (k = 0) := by
  unfold f_X9_isAtEnd
  by_cases q : k = 0
  · rw [bIT q]
    simp (disch := first | omega | assumption) only [↓reduceIte, zl, h, zeqT, if_true]
  · rw [bIF q]
    simp (disch := first | omega | assumption) only [↓reduceIte, zl, h, zeqF, if_false]
