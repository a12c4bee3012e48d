/-! ===== land: a road, both ===== -/
theorem FX_g {X X' : KM} (h : GC X X') : FX X X' := GC_X h
theorem c_addRoad {M : KM} {S n : Nat} {c x y m q : Int} (h : M.1 S 9 = zI c) (c0 : 0 ≤ c) (c12 : c < 12) (q0 : q = 0 ∨ q = 1) : f_X2_addRoad n S (zI x) (zI y) (zI m) (zI q) M = some (uI (uI (uI (uI (uI M (S + 2) c.toNat (zI x)) (S + 3) c.toNat (zI y)) (S + 4) c.toNat (zI m)) (S + 5) c.toNat (zI q)) S 9 (zI (c + 1))) := by
  have e1 : (uI M (S + 2) c.toNat (zI x)).1 S 9 = zI c := by rw [uI_o (by omega)]; exact h
  have e2 : (uI (uI M (S + 2) c.toNat (zI x)) (S + 3) c.toNat (zI y)).1 S 9 = zI c := by rw [uI_o (by omega)]; exact e1
  have e3 : (uI (uI (uI M (S + 2) c.toNat (zI x)) (S + 3) c.toNat (zI y)) (S + 4) c.toNat (zI m)).1 S 9 = zI c := by rw [uI_o (by omega)]; exact e2
  have e4 : (uI (uI (uI (uI M (S + 2) c.toNat (zI x)) (S + 3) c.toNat (zI y)) (S + 4) c.toNat (zI m)) (S + 5) c.toNat (zI q)).1 S 9 = zI c := by rw [uI_o (by omega)]; exact e3
  have nq : vp_nar .boolean (zI q) = zI q := by
    rcases q0 with q0 | q0
    · rw [q0]; exact nar0
    · rw [q0]; exact nar1
  unfold f_X2_addRoad
  simp (disch := first | omega | assumption) only [↓lt, ↓reduceIte, zl, h, e1, e2, e3, e4, nq, zleF, if_false, ixT, zidx, if_true, zadd]
