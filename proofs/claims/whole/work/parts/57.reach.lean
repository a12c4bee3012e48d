/-! ===== reach: both alike ===== -/
theorem c_reachL {b : Int → Int} {x : Int} {L n : Nat} {M : KM} {g : Int → Int → Int → Int} {P : Int → Bool} (hL : HL M L b) (hg : GR g b) (hb : WB b) (h1 : 0 ≤ x) (h2 : x < b 2) (h0 : 1 ≤ b 0) (hn : 100 < n) : lp_X2_reachSet_28 n L (zI x) (ps M L g) (setB P 8) (zI 1) = some (setB (itR b x (b 0 - 1).toNat 1 P) 8) := by
  have hM := hL
  obtain ⟨q0, q1, q2, q5, q6, q7, q8, q9, q3, q4, qd, qa, qb, qc, qs⟩ := hL
  have hh := hb.1
  unfold WH at hh
  have hi : 0 ≤ b 0 ∧ b 0 ≤ 8 := by omega
  clear hh
  refine (loop_f (lp := fun k r P => lp_X2_reachSet_28 k L (zI x) (ps M L g) (setB P 8) r) (f := fun _ P => psR b x P) (fin := fun P => some (setB P 8)) (fun _ _ => True) (N := 80) (R := b 0) (fun k r P hk u v _ => ⟨?_, trivial⟩) (fun k P _ _ => ?_) (b 0 - 1).toNat 1 P n (by omega) (by omega) (by omega) trivial).1
  · rw [lp_X2_reachSet_28]
    have e := fun κ => c_reachIn (n := k) (c3 := zI r) (κ := κ) (P := P) hM hg hb h1 h2 (by omega)
    simp (disch := first | omega | assumption) only [↓lt, Option.bind_some, zl, ll, zadd, zsub, zmul, zneg, ladd, lsub, lmul, lneg, zltT, zltF, zleT, zleF, zeqT, zeqF, zidx, ixT, zwide, bIT, bIF, if_true, if_false, ↓reduceIte, Nat.reduceAdd, Int.reduceAdd, Int.reduceMul, Int.reduceSub, Int.reduceNeg, cs_c, cs_o, cs_2, cu_c, cu_o, Int.cast_ofNat_Int, ps_f, ps_g, ps_w, ps_o, ps_2, pu_f, pu_g, pu_w, pu_o, uI_s, uI_o, uI_j, uI_j1, uI_j2, uI_tw, or0, true_or, or_true, false_or, or_false, nar0, nar1, q0, e]
  · rw [lp_X2_reachSet_28]
    simp (disch := first | omega | assumption) only [↓lt, Option.bind_some, zl, ll, zadd, zsub, zmul, zneg, ladd, lsub, lmul, lneg, zltT, zltF, zleT, zleF, zeqT, zeqF, zidx, ixT, zwide, bIT, bIF, if_true, if_false, ↓reduceIte, Nat.reduceAdd, Int.reduceAdd, Int.reduceMul, Int.reduceSub, Int.reduceNeg, cs_c, cs_o, cs_2, cu_c, cu_o, Int.cast_ofNat_Int, ps_f, ps_g, ps_w, ps_o, ps_2, pu_f, pu_g, pu_w, pu_o, uI_s, uI_o, uI_j, uI_j1, uI_j2, uI_tw, or0, true_or, or_true, false_or, or_false, nar0, nar1, q0]
theorem m_reachL {b : Int → Int} {x : Int} {n : Nat} {X : KM} {P : Int → Bool} (hb : WB b) (h1 : 0 ≤ x) (h2 : x < b 2) (hn : 100 < n) : lp_X12_reach_53 n 227 (zI x) (cs X b) (setB P 8) (zI 0) = some (setB (itR b x 8 0 P) 8, cs X b) := by
  refine (loop_f (lp := fun k r P => lp_X12_reach_53 k 227 (zI x) (cs X b) (setB P 8) r) (f := fun _ P => psR b x P) (fin := fun P => some (setB P 8, cs X b)) (fun _ _ => True) (N := 80) (R := 8) (fun k r P hk u v _ => ⟨?_, trivial⟩) (fun k P _ _ => ?_) 8 0 P n (by omega) (by omega) (by omega) trivial).1
  · rw [lp_X12_reach_53]
    have e := fun κ => m_reachIn (n := k) (X := X) (c3 := zI r) (κ := κ) (P := P) hb h1 h2 (by omega)
    simp (disch := first | omega | assumption) only [↓lt, Option.bind_some, zl, ll, zadd, zsub, zmul, zneg, ladd, lsub, lmul, lneg, zltT, zltF, zleT, zleF, zeqT, zeqF, zidx, ixT, zwide, bIT, bIF, if_true, if_false, ↓reduceIte, Nat.reduceAdd, Int.reduceAdd, Int.reduceMul, Int.reduceSub, Int.reduceNeg, cs_c, cs_o, cs_2, cu_c, cu_o, Int.cast_ofNat_Int, ps_f, ps_g, ps_w, ps_o, ps_2, pu_f, pu_g, pu_w, pu_o, uI_s, uI_o, uI_j, uI_j1, uI_j2, uI_tw, or0, true_or, or_true, false_or, or_false, nar0, nar1, e]
  · rw [lp_X12_reach_53]
    simp (disch := first | omega | assumption) only [↓lt, Option.bind_some, zl, ll, zadd, zsub, zmul, zneg, ladd, lsub, lmul, lneg, zltT, zltF, zleT, zleF, zeqT, zeqF, zidx, ixT, zwide, bIT, bIF, if_true, if_false, ↓reduceIte, Nat.reduceAdd, Int.reduceAdd, Int.reduceMul, Int.reduceSub, Int.reduceNeg, cs_c, cs_o, cs_2, cu_c, cu_o, Int.cast_ofNat_Int, ps_f, ps_g, ps_w, ps_o, ps_2, pu_f, pu_g, pu_w, pu_o, uI_s, uI_o, uI_j, uI_j1, uI_j2, uI_tw, or0, true_or, or_true, false_or, or_false, nar0, nar1]
theorem k_reach (p : Int32) (n : Nat) (hn : 200 ≤ n) : OKm (f_X11_reach n 0 p) (f_X12_reach n 227 p) := by
  obtain ⟨x, hx1, hx2, rfl⟩ := z_ex p
  refine ok_ro (fun M L g b hO => ?_)
  obtain ⟨hP, hL, hg, hb, hm, hC⟩ := hO
  have hp0 : M.2.2 0 10 = L := hP.1
  have hl := Ptr_L hP
  have hh := hb.1
  unfold WH at hh
  have hi : 0 ≤ b 2 ∧ b 2 ≤ 8 ∧ b 0 ≤ 8 := by omega
  clear hC hh
  by_cases w : 0 ≤ x ∧ x < b 2
  · have ez := WPb hb w.1 w.2
    have gp := hg.1 x w.1 w.2
    unfold GP at gp
    have eg := fun X => m_isGoing (b := b) (n := n) (M := X) w.1 (show x < 8 by omega) (by omega) (by omega)
    by_cases y : 0 ≤ b (66 + x)
    · have g5 : g x 0 5 = -1 := by omega
      simp only [bIT y] at eg
      refine ⟨zI (-1), zI 9, ?_, fun N => ?_⟩
      · clear gp ez
        unfold f_X11_reach f_X11_whyNotAtPlace f_X7_isAtPlace
        simp (disch := first | omega | assumption) only [↓lt, Option.bind_some, zl, ll, zadd, zsub, zmul, zneg, ladd, lsub, lmul, lneg, zltT, zltF, zleT, zleF, zeqT, zeqF, zidx, ixT, zwide, bIT, bIF, if_true, if_false, ↓reduceIte, Nat.reduceAdd, Int.reduceAdd, Int.reduceMul, Int.reduceSub, Int.reduceNeg, cs_c, cs_o, cs_2, cu_c, cu_o, Int.cast_ofNat_Int, ps_f, ps_g, ps_w, ps_o, ps_2, pu_f, pu_g, pu_w, pu_o, uI_s, uI_o, uI_j, uI_j1, uI_j2, uI_tw, or0, true_or, or_true, false_or, or_false, nar0, nar1, f_X11_tell, f_X11_refuse, f_X11_tellIf, f_X11_tellOrNone, f_X11_deny, f_X11_succeed, f_X12_refuse, f_X12_no, hp0, c_hasPerson hL, g5]
      · unfold f_X12_reach
        simp (disch := first | omega | assumption) only [↓lt, Option.bind_some, zl, ll, zadd, zsub, zmul, zneg, ladd, lsub, lmul, lneg, zltT, zltF, zleT, zleF, zeqT, zeqF, zidx, ixT, zwide, bIT, bIF, if_true, if_false, ↓reduceIte, Nat.reduceAdd, Int.reduceAdd, Int.reduceMul, Int.reduceSub, Int.reduceNeg, cs_c, cs_o, cs_2, cu_c, cu_o, Int.cast_ofNat_Int, ps_f, ps_g, ps_w, ps_o, ps_2, pu_f, pu_g, pu_w, pu_o, uI_s, uI_o, uI_j, uI_j1, uI_j2, uI_tw, or0, true_or, or_true, false_or, or_false, nar0, nar1, f_X11_tell, f_X11_refuse, f_X11_tellIf, f_X11_tellOrNone, f_X11_deny, f_X11_succeed, f_X12_refuse, f_X12_no, m_isPerson, eg]
    · have g5 : g x 0 5 = b (58 + x) := by omega
      have i5 : 0 ≤ b (58 + x) ∧ b (58 + x) < 8 ∧ 1 ≤ b 0 ∧ b (58 + x) < b 0 := by omega
      simp only [bIF y] at eg
      have e8 := itR_8 (x := x) (P := fun i => decide (i = b (58 + x))) hb (fun i hi => by have := of_decide_eq_true hi; omega) (cd_one i5.1 i5.2.1)
      have eo := setB_one i5.1 i5.2.1
      have ec := c_reachL (n := n) (P := fun i => decide (i = b (58 + x))) hL hg hb w.1 w.2 i5.2.2.1 (by omega)
      have em := fun X => m_reachL (n := n) (X := X) (P := fun i => decide (i = b (58 + x))) hb w.1 w.2 (by omega)
      rw [← e8, ← eo] at ec
      simp only [← eo] at em
      generalize setB (itR b x 8 0 fun i => decide (i = b (58 + x))) 8 = S at *
      refine ⟨S, zI 0, ?_, fun N => ?_⟩
      · clear gp ez
        unfold f_X11_reach f_X11_whyNotAtPlace f_X2_reachSet f_X7_isAtPlace
        simp (disch := first | omega | assumption) only [↓lt, Option.bind_some, zl, ll, zadd, zsub, zmul, zneg, ladd, lsub, lmul, lneg, zltT, zltF, zleT, zleF, zeqT, zeqF, zidx, ixT, zwide, bIT, bIF, if_true, if_false, ↓reduceIte, Nat.reduceAdd, Int.reduceAdd, Int.reduceMul, Int.reduceSub, Int.reduceNeg, cs_c, cs_o, cs_2, cu_c, cu_o, Int.cast_ofNat_Int, ps_f, ps_g, ps_w, ps_o, ps_2, pu_f, pu_g, pu_w, pu_o, uI_s, uI_o, uI_j, uI_j1, uI_j2, uI_tw, or0, true_or, or_true, false_or, or_false, nar0, nar1, f_X11_tell, f_X11_refuse, f_X11_tellIf, f_X11_tellOrNone, f_X11_deny, f_X11_succeed, f_X12_refuse, f_X12_no, hp0, c_hasPerson hL, g5, ec]
      · unfold f_X12_reach
        simp (disch := first | omega | assumption) only [↓lt, Option.bind_some, zl, ll, zadd, zsub, zmul, zneg, ladd, lsub, lmul, lneg, zltT, zltF, zleT, zleF, zeqT, zeqF, zidx, ixT, zwide, bIT, bIF, if_true, if_false, ↓reduceIte, Nat.reduceAdd, Int.reduceAdd, Int.reduceMul, Int.reduceSub, Int.reduceNeg, cs_c, cs_o, cs_2, cu_c, cu_o, Int.cast_ofNat_Int, ps_f, ps_g, ps_w, ps_o, ps_2, pu_f, pu_g, pu_w, pu_o, uI_s, uI_o, uI_j, uI_j1, uI_j2, uI_tw, or0, true_or, or_true, false_or, or_false, nar0, nar1, f_X11_tell, f_X11_refuse, f_X11_tellIf, f_X11_tellOrNone, f_X11_deny, f_X11_succeed, f_X12_refuse, f_X12_no, m_isPerson, eg, em]
  · refine ⟨zI (-1), zI 2, ?_, fun N => ?_⟩
    · unfold f_X11_reach f_X11_whyNotAtPlace
      simp (disch := first | omega | assumption) only [↓lt, Option.bind_some, zl, ll, zadd, zsub, zmul, zneg, ladd, lsub, lmul, lneg, zltT, zltF, zleT, zleF, zeqT, zeqF, zidx, ixT, zwide, bIT, bIF, if_true, if_false, ↓reduceIte, Nat.reduceAdd, Int.reduceAdd, Int.reduceMul, Int.reduceSub, Int.reduceNeg, cs_c, cs_o, cs_2, cu_c, cu_o, Int.cast_ofNat_Int, ps_f, ps_g, ps_w, ps_o, ps_2, pu_f, pu_g, pu_w, pu_o, uI_s, uI_o, uI_j, uI_j1, uI_j2, uI_tw, or0, true_or, or_true, false_or, or_false, nar0, nar1, f_X11_tell, f_X11_refuse, f_X11_tellIf, f_X11_tellOrNone, f_X11_deny, f_X11_succeed, f_X12_refuse, f_X12_no, hp0, c_hasPerson hL]
    · unfold f_X12_reach
      simp (disch := first | omega | assumption) only [↓lt, Option.bind_some, zl, ll, zadd, zsub, zmul, zneg, ladd, lsub, lmul, lneg, zltT, zltF, zleT, zleF, zeqT, zeqF, zidx, ixT, zwide, bIT, bIF, if_true, if_false, ↓reduceIte, Nat.reduceAdd, Int.reduceAdd, Int.reduceMul, Int.reduceSub, Int.reduceNeg, cs_c, cs_o, cs_2, cu_c, cu_o, Int.cast_ofNat_Int, ps_f, ps_g, ps_w, ps_o, ps_2, pu_f, pu_g, pu_w, pu_o, uI_s, uI_o, uI_j, uI_j1, uI_j2, uI_tw, or0, true_or, or_true, false_or, or_false, nar0, nar1, f_X11_tell, f_X11_refuse, f_X11_tellIf, f_X11_tellOrNone, f_X11_deny, f_X11_succeed, f_X12_refuse, f_X12_no, m_isPerson]
