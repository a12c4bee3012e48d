/-! ===== live: both alike ===== -/
theorem c_live {M R : KM} {L P n : Nat} {x : Int} (hx : 0 ≤ x ∧ x ≤ 9999) (hp0 : M.2.2 0 10 = L) (hP : M.2.2 L 7 = P) (h7 : ¬ M.1 P 7 = zI 0) (e1 : f_X4_run n 12 L (zI x) M = some R) (lf0 : R.1 12 7 = zI 0 ∨ R.1 12 7 = zI 1) : f_X11_live n 0 (zI x) M = some (R.1 12 2, uI (uI (uI (uI (uI (uI R 4 0 (R.1 12 3)) 4 1 (R.1 12 4)) 4 2 (R.1 12 5)) 4 3 (R.1 12 6)) 4 4 (R.1 12 7)) 0 15 (zI 0)) := by
  unfold f_X11_live
  rcases lf0 with q | q
  · simp (disch := first | omega | assumption) only [↓lt, ↓reduceIte, Option.bind_some, zl, ll, zwide, bIT, bIF, zneg, zadd, zsub, zmul, Int.reduceNeg, Int.reduceMul, ixT, zidx, if_true, if_false, zeqT, zeqF, zltT, zltF, zleT, zleF, ps_2, pu_o, uI_o, uI_s, uI_j, uI_j2, ps_o, Nat.reduceAdd, cs_o, cu_o, f_X11_tell, f_X11_refuse, f_X11_tellIf, f_X11_tellOrNone, f_X11_tellSooner, f_X11_deny, f_X11_succeed, f_X12_refuse, f_X12_no, hp0, hP, h7, e1, q, Nat.zero_add]
    rfl
  · simp (disch := first | omega | assumption) only [↓lt, ↓reduceIte, Option.bind_some, zl, ll, zwide, bIT, bIF, zneg, zadd, zsub, zmul, Int.reduceNeg, Int.reduceMul, ixT, zidx, if_true, if_false, zeqT, zeqF, zltT, zltF, zleT, zleF, ps_2, pu_o, uI_o, uI_s, uI_j, uI_j2, ps_o, Nat.reduceAdd, cs_o, cu_o, f_X11_tell, f_X11_refuse, f_X11_tellIf, f_X11_tellOrNone, f_X11_tellSooner, f_X11_deny, f_X11_succeed, f_X12_refuse, f_X12_no, hp0, hP, h7, e1, q, Nat.zero_add]
    rfl
theorem m_live {X X' : KM} {b b' : Int → Int} {n : Nat} {x : Int} (hx : 0 ≤ x ∧ x ≤ 9999) (h290 : b 290 = 1) (er : f_X12_runsDays n 227 (zI x) (cs (uI (uI X 227 1 (zI 0)) 227 0 (zI 0)) b) = some (cs X' b')) : f_X12_live n 227 (zI x) (cs X b) = some (X'.1 227 41, cs (uI (uI (uI (uI (uI (uI X' 243 0 (X'.1 227 42)) 243 1 (X'.1 227 43)) 243 2 (X'.1 227 44)) 243 3 (X'.1 227 45)) 243 4 (X'.1 227 46)) 227 38 (zI 1)) b') := by
  have c290 : ∀ X : KM, (cs X b).1 232 (290 : Int).toNat = zI 1 := fun X => by rw [cs_c (by omega), h290]
  unfold f_X12_live
  simp (disch := first | omega | assumption) only [↓lt, ↓reduceIte, Option.bind_some, zl, ll, zwide, bIT, bIF, zneg, zadd, zsub, zmul, Int.reduceNeg, Int.reduceMul, ixT, zidx, if_true, if_false, zeqT, zeqF, zltT, zltF, zleT, zleF, ps_2, pu_o, uI_o, uI_s, uI_j, uI_j2, ps_o, Nat.reduceAdd, cs_o, cu_o, f_X11_tell, f_X11_refuse, f_X11_tellIf, f_X11_tellOrNone, f_X11_tellSooner, f_X11_deny, f_X11_succeed, f_X12_refuse, f_X12_no, m_isIn, c290, er]
  try rfl
