/-! ===== lead ===== -/
abbrev tmB (b : Int → Int) (x z : Int) : Prop := 1 ≤ z ∧ z < 2 ^ (b 2).toNat ∧ ¬ hasS z x = true ∧ szS z ≤ b 6
theorem c_isTeam {b : Int → Int} {x z : Int} {L : Nat} {M : KM} {g : Int → Int → Int → Int} (hL : HL M L b) (hb : WB b) (h1 : 0 ≤ x) (h2 : x < b 2) (h3 : -2147483648 ≤ z) (h4 : z < 2147483648) : f_X2_isTeam L (zI x) (zI z) (ps M L g) = bI (tmB b x z) := by
  have hh := hb.1
  unfold WH at hh
  obtain ⟨q0, q1, q2, q5, q6, -, -, -, -, -, -, -, -, -, -⟩ := hL
  have hi : 0 ≤ b 2 ∧ b 2 ≤ 8 ∧ 1 ≤ b 6 ∧ b 6 ≤ 9 := by omega
  clear hh hb
  have hp := p2_r (i := b 2) hi.1 (by omega)
  have hsl := sl_1 (i := b 2) hi.1 (by omega)
  unfold f_X2_isTeam
  by_cases w1 : 1 ≤ z
  · by_cases w2 : z < 2 ^ (b 2).toNat
    · have hz := sz_r (s := z) (by omega) (by omega)
      by_cases w3 : hasS z x = true
      · rw [bIF (c := tmB b x z) (fun t => t.2.2.1 w3)]
        simp (disch := first | omega | assumption) only [↓lt, Option.bind_some, zl, ll, zadd, zsub, zmul, zneg, ladd, lsub, lmul, lneg, zltT, zltF, zleT, zleF, zeqT, zeqF, zidx, ixT, zwide, bIT, bIF, if_true, if_false, ↓reduceIte, Nat.reduceAdd, Int.reduceAdd, Int.reduceMul, Int.reduceSub, Int.reduceNeg, cs_c, cs_o, cs_2, cu_c, cu_o, Int.cast_ofNat_Int, ps_f, ps_g, ps_w, ps_o, ps_2, pu_f, pu_g, pu_w, pu_o, uI_s, uI_o, uI_j, uI_j1, uI_j2, uI_tw, or0, true_or, or_true, false_or, or_false, nar0, nar1, q2, q6, hsl, hs_c, w3, not_true_eq_false]
      · have w4 : hasS z x = false := by simpa using w3
        by_cases w5 : szS z ≤ b 6
        · rw [bIT (c := tmB b x z) ⟨w1, w2, w3, w5⟩]
          simp (disch := first | omega | assumption) only [↓lt, Option.bind_some, zl, ll, zadd, zsub, zmul, zneg, ladd, lsub, lmul, lneg, zltT, zltF, zleT, zleF, zeqT, zeqF, zidx, ixT, zwide, bIT, bIF, if_true, if_false, ↓reduceIte, Nat.reduceAdd, Int.reduceAdd, Int.reduceMul, Int.reduceSub, Int.reduceNeg, cs_c, cs_o, cs_2, cu_c, cu_o, Int.cast_ofNat_Int, ps_f, ps_g, ps_w, ps_o, ps_2, pu_f, pu_g, pu_w, pu_o, uI_s, uI_o, uI_j, uI_j1, uI_j2, uI_tw, or0, true_or, or_true, false_or, or_false, nar0, nar1, q2, q6, hsl, hs_c, w4, Bool.false_eq_true, not_false_eq_true, c_bitCount]
        · rw [bIF (c := tmB b x z) (fun t => w5 t.2.2.2)]
          simp (disch := first | omega | assumption) only [↓lt, Option.bind_some, zl, ll, zadd, zsub, zmul, zneg, ladd, lsub, lmul, lneg, zltT, zltF, zleT, zleF, zeqT, zeqF, zidx, ixT, zwide, bIT, bIF, if_true, if_false, ↓reduceIte, Nat.reduceAdd, Int.reduceAdd, Int.reduceMul, Int.reduceSub, Int.reduceNeg, cs_c, cs_o, cs_2, cu_c, cu_o, Int.cast_ofNat_Int, ps_f, ps_g, ps_w, ps_o, ps_2, pu_f, pu_g, pu_w, pu_o, uI_s, uI_o, uI_j, uI_j1, uI_j2, uI_tw, or0, true_or, or_true, false_or, or_false, nar0, nar1, q2, q6, hsl, hs_c, w4, Bool.false_eq_true, not_false_eq_true, c_bitCount]
    · rw [bIF (c := tmB b x z) (fun t => w2 t.2.1)]
      simp (disch := first | omega | assumption) only [↓lt, Option.bind_some, zl, ll, zadd, zsub, zmul, zneg, ladd, lsub, lmul, lneg, zltT, zltF, zleT, zleF, zeqT, zeqF, zidx, ixT, zwide, bIT, bIF, if_true, if_false, ↓reduceIte, Nat.reduceAdd, Int.reduceAdd, Int.reduceMul, Int.reduceSub, Int.reduceNeg, cs_c, cs_o, cs_2, cu_c, cu_o, Int.cast_ofNat_Int, ps_f, ps_g, ps_w, ps_o, ps_2, pu_f, pu_g, pu_w, pu_o, uI_s, uI_o, uI_j, uI_j1, uI_j2, uI_tw, or0, true_or, or_true, false_or, or_false, nar0, nar1, q2, hsl]
  · rw [bIF (c := tmB b x z) (fun t => w1 t.1)]
    simp (disch := first | omega | assumption) only [↓lt, Option.bind_some, zl, ll, zadd, zsub, zmul, zneg, ladd, lsub, lmul, lneg, zltT, zltF, zleT, zleF, zeqT, zeqF, zidx, ixT, zwide, bIT, bIF, if_true, if_false, ↓reduceIte, Nat.reduceAdd, Int.reduceAdd, Int.reduceMul, Int.reduceSub, Int.reduceNeg, cs_c, cs_o, cs_2, cu_c, cu_o, Int.cast_ofNat_Int, ps_f, ps_g, ps_w, ps_o, ps_2, pu_f, pu_g, pu_w, pu_o, uI_s, uI_o, uI_j, uI_j1, uI_j2, uI_tw, or0, true_or, or_true, false_or, or_false, nar0, nar1, q2, hsl]
