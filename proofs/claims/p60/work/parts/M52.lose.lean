def s22 (M : KM) (f t : Int) : KM := uI (uI (uI M 22 0 (zI f)) 22 1 (zI t)) 22 2 (zI ((t - f) * 60))
theorem c_set {f t : Int} {L : Nat} {M : KM} {dd : Int → Int} {g : Int → Int → Int → Int} (hl : 23 ≤ L) : f_X1_set (0 + 22) (zI f) (zI t) (ps (cs M dd) L g) = ps (cs (s22 M f t) dd) L g := by
  unfold f_X1_set s22
  simp (disch := first | omega | assumption) only [↓lt, Option.bind_some, zl, ll, zadd, zsub, zmul, zneg, ladd, lsub, lmul, lneg, zltT, zltF, zleT, zleF, zeqT, zeqF, zidx, ixT, zwide, bIT, bIF, if_true, if_false, ↓reduceIte, Nat.reduceAdd, Int.reduceAdd, Int.reduceMul, Int.reduceSub, Int.reduceNeg, cs_c, cs_o, cs_2, cu_c, cu_o, Int.cast_ofNat_Int, ps_f, ps_g, ps_w, ps_o, ps_2, pu_f, pu_g, pu_w, pu_o, uI_s, uI_o, uI_j, uI_j1, uI_j2, uI_tw, or0, true_or, or_true, false_or, or_false, nar0, nar1]
theorem s22_o {M : KM} {f t : Int} {a k : Nat} (h : ¬ a = 22) : (s22 M f t).1 a k = M.1 a k := by
  unfold s22
  rw [uI_o (by omega), uI_o (by omega), uI_o (by omega)]
theorem s22_H {M : KM} {f t : Int} {L : Nat} {dd : Int → Int} {g : Int → Int → Int → Int} (hl : 23 ≤ L) : HH (ps (cs (s22 M f t) dd) L g) (0 + 22) f t := by
  unfold HH s22
  rw [ps_o (by omega), cs_o (by omega), ps_o (by omega), cs_o (by omega), ps_o (by omega), cs_o (by omega)]
  refine ⟨?_, ?_, ?_⟩
  · rw [uI_o (by omega), uI_o (by omega), uI_s]
  · rw [uI_o (by omega), uI_s]
  · rw [uI_s]
theorem s22_L {M : KM} {f t : Int} {L : Nat} {b : Int → Int} {dd : Int → Int} (hl : 23 ≤ L ∧ L ≤ 61) (h : HL (cs M dd) L b) : HL (cs (s22 M f t) dd) L b :=
  (HL_cs hl.2).mpr (HL_of (fun a k x y => s22_o (by omega)) ((HL_cs hl.2).mp h))
theorem c_canBe3 {f t : Int} {M : KM} (h1 : -2147483648 ≤ f) (h2 : f < 2147483648) (h3 : -2147483648 ≤ t) (h4 : t < 2147483648) : f_X1_canBe (zI f) (zI t) M = bI (0 ≤ f ∧ f ≤ 23 ∧ f < t ∧ t ≤ 24) := by
  unfold f_X1_canBe
  by_cases w1 : 0 ≤ f
  · by_cases w2 : f ≤ 23
    · by_cases w3 : f < t
      · by_cases w4 : t ≤ 24
        · simp (disch := first | omega | assumption) only [↓lt, Option.bind_some, zl, ll, zadd, zsub, zmul, zneg, ladd, lsub, lmul, lneg, zltT, zltF, zleT, zleF, zeqT, zeqF, zidx, ixT, zwide, bIT, bIF, if_true, if_false, ↓reduceIte, Nat.reduceAdd, Int.reduceAdd, Int.reduceMul, Int.reduceSub, Int.reduceNeg, cs_c, cs_o, cs_2, cu_c, cu_o, Int.cast_ofNat_Int, ps_f, ps_g, ps_w, ps_o, ps_2, pu_f, pu_g, pu_w, pu_o, uI_s, uI_o, uI_j, uI_j1, uI_j2, uI_tw, or0, true_or, or_true, false_or, or_false, nar0, nar1]
        · simp (disch := first | omega | assumption) only [↓lt, Option.bind_some, zl, ll, zadd, zsub, zmul, zneg, ladd, lsub, lmul, lneg, zltT, zltF, zleT, zleF, zeqT, zeqF, zidx, ixT, zwide, bIT, bIF, if_true, if_false, ↓reduceIte, Nat.reduceAdd, Int.reduceAdd, Int.reduceMul, Int.reduceSub, Int.reduceNeg, cs_c, cs_o, cs_2, cu_c, cu_o, Int.cast_ofNat_Int, ps_f, ps_g, ps_w, ps_o, ps_2, pu_f, pu_g, pu_w, pu_o, uI_s, uI_o, uI_j, uI_j1, uI_j2, uI_tw, or0, true_or, or_true, false_or, or_false, nar0, nar1]
      · simp (disch := first | omega | assumption) only [↓lt, Option.bind_some, zl, ll, zadd, zsub, zmul, zneg, ladd, lsub, lmul, lneg, zltT, zltF, zleT, zleF, zeqT, zeqF, zidx, ixT, zwide, bIT, bIF, if_true, if_false, ↓reduceIte, Nat.reduceAdd, Int.reduceAdd, Int.reduceMul, Int.reduceSub, Int.reduceNeg, cs_c, cs_o, cs_2, cu_c, cu_o, Int.cast_ofNat_Int, ps_f, ps_g, ps_w, ps_o, ps_2, pu_f, pu_g, pu_w, pu_o, uI_s, uI_o, uI_j, uI_j1, uI_j2, uI_tw, or0, true_or, or_true, false_or, or_false, nar0, nar1]
    · simp (disch := first | omega | assumption) only [↓lt, Option.bind_some, zl, ll, zadd, zsub, zmul, zneg, ladd, lsub, lmul, lneg, zltT, zltF, zleT, zleF, zeqT, zeqF, zidx, ixT, zwide, bIT, bIF, if_true, if_false, ↓reduceIte, Nat.reduceAdd, Int.reduceAdd, Int.reduceMul, Int.reduceSub, Int.reduceNeg, cs_c, cs_o, cs_2, cu_c, cu_o, Int.cast_ofNat_Int, ps_f, ps_g, ps_w, ps_o, ps_2, pu_f, pu_g, pu_w, pu_o, uI_s, uI_o, uI_j, uI_j1, uI_j2, uI_tw, or0, true_or, or_true, false_or, or_false, nar0, nar1]
  · simp (disch := first | omega | assumption) only [↓lt, Option.bind_some, zl, ll, zadd, zsub, zmul, zneg, ladd, lsub, lmul, lneg, zltT, zltF, zleT, zleF, zeqT, zeqF, zidx, ixT, zwide, bIT, bIF, if_true, if_false, ↓reduceIte, Nat.reduceAdd, Int.reduceAdd, Int.reduceMul, Int.reduceSub, Int.reduceNeg, cs_c, cs_o, cs_2, cu_c, cu_o, Int.cast_ofNat_Int, ps_f, ps_g, ps_w, ps_o, ps_2, pu_f, pu_g, pu_w, pu_o, uI_s, uI_o, uI_j, uI_j1, uI_j2, uI_tw, or0, true_or, or_true, false_or, or_false, nar0, nar1]
