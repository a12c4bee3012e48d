/-! ===== reach: both alike ===== -/
theorem c_reachL {b : Int → Int} {x : Int} {L n : Nat} {M : KM} {g : Int → Int → Int → Int} {P : Int → Bool} (hL : HL M L b) (hg : GR g b) (hb : WB b) (h1 : 0 ≤ x) (h2 : x < b 2) (h0 : 1 ≤ b 0) (hn : 100 < n) : lp_X2_reachSet_28 n L (zI x) (ps M L g) (setB P 8) (zI 1) = some (setB (itR b x (b 0 - 1).toNat 1 P) 8) := by
  have hM := hL
  obtain ⟨q0, q1, q2, q5, q6, q7, q8, q9, q3, q4, qd, qa, qb, qc, qs⟩ := hL
  have hh := hb.1
  unfold WH at hh
  have hi : 0 ≤ b 0 ∧ b 0 ≤ 8 := by omega
  clear hh
  refine (loop_f (lp := fun k r P => lp_X2_reachSet_28 k L (zI x) (ps M L g) (setB P 8) r) (f := fun _ P => psR b x P) (fin := fun P => some (setB P 8)) (fun _ _ => True) (N := 80) (R := b 0) (fun k r P hk u v _ => ⟨?_, trivial⟩) (fun k P _ _ => ?_) (b 0 - 1).toNat 1 P n (by omega) (by omega) (by omega) trivial).1
  · rw [lp_X2_reachSet_28]
    have e := fun κ => c_reachIn (n := k) (c3 := zI r) (κ := κ) (P := P) hM hg hb h1 h2 (by omega)
    simp (disch := first | omega | assumption) only [↓lt, Option.bind_some, zl, ll, zadd, zsub, zmul, zneg, ladd, lsub, lmul, lneg, zltT, zltF, zleT, zleF, zeqT, zeqF, zidx, ixT, zwide, bIT, bIF, if_true, if_false, ↓reduceIte, Nat.reduceAdd, Int.reduceAdd, Int.reduceMul, Int.reduceSub, Int.reduceNeg, cs_c, cs_o, cs_2, cu_c, cu_o, Int.cast_ofNat_Int, ps_f, ps_g, ps_w, ps_o, ps_2, pu_f, pu_g, pu_w, pu_o, uI_s, uI_o, uI_j, uI_j1, uI_j2, uI_tw, or0, true_or, or_true, false_or, or_false, nar0, nar1, q0, e]
  · rw [lp_X2_reachSet_28]
    simp (disch := first | omega | assumption) only [↓lt, Option.bind_some, zl, ll, zadd, zsub, zmul, zneg, ladd, lsub, lmul, lneg, zltT, zltF, zleT, zleF, zeqT, zeqF, zidx, ixT, zwide, bIT, bIF, if_true, if_false, ↓reduceIte, Nat.reduceAdd, Int.reduceAdd, Int.reduceMul, Int.reduceSub, Int.reduceNeg, cs_c, cs_o, cs_2, cu_c, cu_o, Int.cast_ofNat_Int, ps_f, ps_g, ps_w, ps_o, ps_2, pu_f, pu_g, pu_w, pu_o, uI_s, uI_o, uI_j, uI_j1, uI_j2, uI_tw, or0, true_or, or_true, false_or, or_false, nar0, nar1, q0]
