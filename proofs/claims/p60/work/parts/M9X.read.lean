theorem SG_j {a : Nat} {E s k j v : Int} {M X : KM} (h : SG a E s k j v M X) : -1 ≤ j ∧ j < 26 := by
  obtain ⟨q, l, w, -, -, -, -, -, -, j1, j2, -⟩ := h
  exact ⟨j1, j2⟩
def stW (j : Int) : Int := if j = 15 then 0 else (if j = 16 then 1 else (if j = 17 then 2 else (if j = 18 then 3 else (if j = 19 then 4 else (if j = 20 then 5 else (if j = 21 then 6 else (if j = 23 then 7 else (if j = 25 then 8 else -1))))))))
def teW (j : Int) : Int := if j = 11 then 0 else (if j = 0 then 1 else (if j = 22 then 2 else -1))
