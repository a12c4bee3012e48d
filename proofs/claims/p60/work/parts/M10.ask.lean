/-! ===== calls that ask: people, sets ===== -/
theorem WP_of {b : Int → Int} (hb : WB b) {p : Int} (h1 : 0 ≤ p) (h2 : p < b 2) : WP b p := hb.2.2.1 p h1 h2
theorem c_blindSet {b : Int → Int} {L n : Nat} {M : KM} {g : Int → Int → Int → Int} (hL : HL M L b) (hg : GR g b) (hb : WB b) (hn : 20 < n) : f_X2_blindSet n L (ps M L g) = some (setB (fun q => decide (b (106 + q) = 1)) (b 2)) := by
  have hM := hL
  have hh := hb.1
  unfold WH at hh
  obtain ⟨q0, q1, q2, q5, q6, q7, q8, q9, q3, q4, qd, qa, qb, qc, qs⟩ := hM
  unfold f_X2_blindSet
  rw [show (0 : Int32) = zI 0 from rfl]
  refine loop_set (lp := fun n i w => lp_X2_blindSet_4 n L (ps M L g) w i) (fun q => decide (b (106 + q) = 1)) (N := 0) (by omega) ?_ ?_ ?_ (by omega)
  · intro n i w _ h1 h2 h3
    have e := (hg.1 i h1 h2).1
    have h4 : b (106 + i) = 1 := by simpa using h3
    rw [lp_X2_blindSet_4]
    simp (disch := first | omega | assumption) only [lt, Option.bind_some, zl, ll, zadd, zsub, zmul, zneg, ladd, lsub, lmul, lneg, zltT, zltF, zleT, zleF, zeqT, zeqF, zidx, ixT, zwide, bIT, bIF, if_true, if_false, ↓reduceIte, Nat.reduceAdd, Int.reduceAdd, Int.reduceMul, Int.reduceSub, Int.reduceNeg, cs_c, cs_o, cs_2, cu_c, cu_o, Int.cast_ofNat_Int, ps_f, ps_g, ps_w, ps_o, ps_2, pu_f, pu_g, pu_w, pu_o, uI_s, uI_o, uI_j, uI_j1, uI_j2, uI_tw, or0, true_or, or_true, false_or, or_false, nar0, nar1, q0, q1, q2, q5, q6, q7, q8, q9, q3, q4, qd, qa, qb, qc, qs, e]
  · intro n i w _ h1 h2 h3
    have e := (hg.1 i h1 h2).1
    have e2 := WP_of hb h1 h2
    unfold WP at e2
    have h4 : ¬ b (106 + i) = 1 := by simpa using h3
    rw [lp_X2_blindSet_4]
    simp (disch := first | omega | assumption) only [lt, Option.bind_some, zl, ll, zadd, zsub, zmul, zneg, ladd, lsub, lmul, lneg, zltT, zltF, zleT, zleF, zeqT, zeqF, zidx, ixT, zwide, bIT, bIF, if_true, if_false, ↓reduceIte, Nat.reduceAdd, Int.reduceAdd, Int.reduceMul, Int.reduceSub, Int.reduceNeg, cs_c, cs_o, cs_2, cu_c, cu_o, Int.cast_ofNat_Int, ps_f, ps_g, ps_w, ps_o, ps_2, pu_f, pu_g, pu_w, pu_o, uI_s, uI_o, uI_j, uI_j1, uI_j2, uI_tw, or0, true_or, or_true, false_or, or_false, nar0, nar1, q0, q1, q2, q5, q6, q7, q8, q9, q3, q4, qd, qa, qb, qc, qs, e]
  · intro n w _
    rw [lp_X2_blindSet_4]
    simp (disch := first | omega | assumption) only [lt, Option.bind_some, zl, ll, zadd, zsub, zmul, zneg, ladd, lsub, lmul, lneg, zltT, zltF, zleT, zleF, zeqT, zeqF, zidx, ixT, zwide, bIT, bIF, if_true, if_false, ↓reduceIte, Nat.reduceAdd, Int.reduceAdd, Int.reduceMul, Int.reduceSub, Int.reduceNeg, cs_c, cs_o, cs_2, cu_c, cu_o, Int.cast_ofNat_Int, ps_f, ps_g, ps_w, ps_o, ps_2, pu_f, pu_g, pu_w, pu_o, uI_s, uI_o, uI_j, uI_j1, uI_j2, uI_tw, or0, true_or, or_true, false_or, or_false, nar0, nar1, q0, q1, q2, q5, q6, q7, q8, q9, q3, q4, qd, qa, qb, qc, qs]
theorem c_walkingSet {b : Int → Int} {L n : Nat} {M : KM} {g : Int → Int → Int → Int} (hL : HL M L b) (hg : GR g b) (hb : WB b) (hn : 20 < n) : f_X2_walkingSet n L (ps M L g) = some (setB (fun q => decide (0 ≤ b (66 + q))) (b 2)) := by
  have hM := hL
  have hh := hb.1
  unfold WH at hh
  obtain ⟨q0, q1, q2, q5, q6, q7, q8, q9, q3, q4, qd, qa, qb, qc, qs⟩ := hM
  unfold f_X2_walkingSet
  rw [show (0 : Int32) = zI 0 from rfl]
  refine loop_set (lp := fun n i w => lp_X2_walkingSet_4 n L (ps M L g) w i) (fun q => decide (0 ≤ b (66 + q))) (N := 0) (by omega) ?_ ?_ ?_ (by omega)
  · intro n i w _ h1 h2 h3
    have e := hg.1 i h1 h2
    unfold GP at e
    have h4 : 0 ≤ b (66 + i) := by simpa using h3
    rw [lp_X2_walkingSet_4]
    simp (disch := first | omega | assumption) only [lt, Option.bind_some, zl, ll, zadd, zsub, zmul, zneg, ladd, lsub, lmul, lneg, zltT, zltF, zleT, zleF, zeqT, zeqF, zidx, ixT, zwide, bIT, bIF, if_true, if_false, ↓reduceIte, Nat.reduceAdd, Int.reduceAdd, Int.reduceMul, Int.reduceSub, Int.reduceNeg, cs_c, cs_o, cs_2, cu_c, cu_o, Int.cast_ofNat_Int, ps_f, ps_g, ps_w, ps_o, ps_2, pu_f, pu_g, pu_w, pu_o, uI_s, uI_o, uI_j, uI_j1, uI_j2, uI_tw, or0, true_or, or_true, false_or, or_false, nar0, nar1, q0, q1, q2, q5, q6, q7, q8, q9, q3, q4, qd, qa, qb, qc, qs, f_X7_isAtPlace]
  · intro n i w _ h1 h2 h3
    have e := hg.1 i h1 h2
    unfold GP at e
    have e2 := WP_of hb h1 h2
    unfold WP at e2
    have h4 : ¬ 0 ≤ b (66 + i) := by simpa using h3
    rw [lp_X2_walkingSet_4]
    simp (disch := first | omega | assumption) only [lt, Option.bind_some, zl, ll, zadd, zsub, zmul, zneg, ladd, lsub, lmul, lneg, zltT, zltF, zleT, zleF, zeqT, zeqF, zidx, ixT, zwide, bIT, bIF, if_true, if_false, ↓reduceIte, Nat.reduceAdd, Int.reduceAdd, Int.reduceMul, Int.reduceSub, Int.reduceNeg, cs_c, cs_o, cs_2, cu_c, cu_o, Int.cast_ofNat_Int, ps_f, ps_g, ps_w, ps_o, ps_2, pu_f, pu_g, pu_w, pu_o, uI_s, uI_o, uI_j, uI_j1, uI_j2, uI_tw, or0, true_or, or_true, false_or, or_false, nar0, nar1, q0, q1, q2, q5, q6, q7, q8, q9, q3, q4, qd, qa, qb, qc, qs, f_X7_isAtPlace]
  · intro n w _
    rw [lp_X2_walkingSet_4]
    simp (disch := first | omega | assumption) only [lt, Option.bind_some, zl, ll, zadd, zsub, zmul, zneg, ladd, lsub, lmul, lneg, zltT, zltF, zleT, zleF, zeqT, zeqF, zidx, ixT, zwide, bIT, bIF, if_true, if_false, ↓reduceIte, Nat.reduceAdd, Int.reduceAdd, Int.reduceMul, Int.reduceSub, Int.reduceNeg, cs_c, cs_o, cs_2, cu_c, cu_o, Int.cast_ofNat_Int, ps_f, ps_g, ps_w, ps_o, ps_2, pu_f, pu_g, pu_w, pu_o, uI_s, uI_o, uI_j, uI_j1, uI_j2, uI_tw, or0, true_or, or_true, false_or, or_false, nar0, nar1, q0, q1, q2, q5, q6, q7, q8, q9, q3, q4, qd, qa, qb, qc, qs]
theorem c_ledSet {b : Int → Int} {L n : Nat} {M : KM} {g : Int → Int → Int → Int} (hL : HL M L b) (hg : GR g b) (hb : WB b) (hn : 20 < n) : f_X2_ledSet n L (ps M L g) = some (setB (fun q => decide (0 ≤ b (82 + q))) (b 2)) := by
  have hM := hL
  have hh := hb.1
  unfold WH at hh
  obtain ⟨q0, q1, q2, q5, q6, q7, q8, q9, q3, q4, qd, qa, qb, qc, qs⟩ := hM
  unfold f_X2_ledSet
  rw [show (0 : Int32) = zI 0 from rfl]
  refine loop_set (lp := fun n i w => lp_X2_ledSet_4 n L (ps M L g) w i) (fun q => decide (0 ≤ b (82 + q))) (N := 0) (by omega) ?_ ?_ ?_ (by omega)
  · intro n i w _ h1 h2 h3
    have e := hg.1 i h1 h2
    unfold GP at e
    have e2 := WP_of hb h1 h2
    unfold WP at e2
    have h4 : 0 ≤ b (82 + i) := by simpa using h3
    rw [lp_X2_ledSet_4]
    simp (disch := first | omega | assumption) only [lt, Option.bind_some, zl, ll, zadd, zsub, zmul, zneg, ladd, lsub, lmul, lneg, zltT, zltF, zleT, zleF, zeqT, zeqF, zidx, ixT, zwide, bIT, bIF, if_true, if_false, ↓reduceIte, Nat.reduceAdd, Int.reduceAdd, Int.reduceMul, Int.reduceSub, Int.reduceNeg, cs_c, cs_o, cs_2, cu_c, cu_o, Int.cast_ofNat_Int, ps_f, ps_g, ps_w, ps_o, ps_2, pu_f, pu_g, pu_w, pu_o, uI_s, uI_o, uI_j, uI_j1, uI_j2, uI_tw, or0, true_or, or_true, false_or, or_false, nar0, nar1, q0, q1, q2, q5, q6, q7, q8, q9, q3, q4, qd, qa, qb, qc, qs]
  · intro n i w _ h1 h2 h3
    have e := hg.1 i h1 h2
    unfold GP at e
    have e2 := WP_of hb h1 h2
    unfold WP at e2
    have h4 : ¬ 0 ≤ b (82 + i) := by simpa using h3
    rw [lp_X2_ledSet_4]
    simp (disch := first | omega | assumption) only [lt, Option.bind_some, zl, ll, zadd, zsub, zmul, zneg, ladd, lsub, lmul, lneg, zltT, zltF, zleT, zleF, zeqT, zeqF, zidx, ixT, zwide, bIT, bIF, if_true, if_false, ↓reduceIte, Nat.reduceAdd, Int.reduceAdd, Int.reduceMul, Int.reduceSub, Int.reduceNeg, cs_c, cs_o, cs_2, cu_c, cu_o, Int.cast_ofNat_Int, ps_f, ps_g, ps_w, ps_o, ps_2, pu_f, pu_g, pu_w, pu_o, uI_s, uI_o, uI_j, uI_j1, uI_j2, uI_tw, or0, true_or, or_true, false_or, or_false, nar0, nar1, q0, q1, q2, q5, q6, q7, q8, q9, q3, q4, qd, qa, qb, qc, qs]
  · intro n w _
    rw [lp_X2_ledSet_4]
    simp (disch := first | omega | assumption) only [lt, Option.bind_some, zl, ll, zadd, zsub, zmul, zneg, ladd, lsub, lmul, lneg, zltT, zltF, zleT, zleF, zeqT, zeqF, zidx, ixT, zwide, bIT, bIF, if_true, if_false, ↓reduceIte, Nat.reduceAdd, Int.reduceAdd, Int.reduceMul, Int.reduceSub, Int.reduceNeg, cs_c, cs_o, cs_2, cu_c, cu_o, Int.cast_ofNat_Int, ps_f, ps_g, ps_w, ps_o, ps_2, pu_f, pu_g, pu_w, pu_o, uI_s, uI_o, uI_j, uI_j1, uI_j2, uI_tw, or0, true_or, or_true, false_or, or_false, nar0, nar1, q0, q1, q2, q5, q6, q7, q8, q9, q3, q4, qd, qa, qb, qc, qs]
theorem c_lostOfAll {b : Int → Int} {L n : Nat} {M : KM} {g : Int → Int → Int → Int} (hL : HL M L b) (hg : GR g b) (hb : WB b) (hn : 20 < n) : f_X2_lostOfAll n L (ps M L g) = some (zI (sumB (fun q => b (90 + q)) (b 2))) := by
  have hM := hL
  have hh := hb.1
  unfold WH at hh
  obtain ⟨q0, q1, q2, q5, q6, q7, q8, q9, q3, q4, qd, qa, qb, qc, qs⟩ := hM
  unfold f_X2_lostOfAll
  rw [show (0 : Int32) = zI 0 from rfl]
  refine loop_sum (lp := fun n i w => lp_X2_lostOfAll_4 n L (ps M L g) w i) (fun q => b (90 + q)) (N := 0) (by omega) ?_ ?_ (by omega)
  · intro n i w _ h1 h2
    have e := hg.1 i h1 h2
    unfold GP at e
    rw [lp_X2_lostOfAll_4]
    simp (disch := first | omega | assumption) only [lt, Option.bind_some, zl, ll, zadd, zsub, zmul, zneg, ladd, lsub, lmul, lneg, zltT, zltF, zleT, zleF, zeqT, zeqF, zidx, ixT, zwide, bIT, bIF, if_true, if_false, ↓reduceIte, Nat.reduceAdd, Int.reduceAdd, Int.reduceMul, Int.reduceSub, Int.reduceNeg, cs_c, cs_o, cs_2, cu_c, cu_o, Int.cast_ofNat_Int, ps_f, ps_g, ps_w, ps_o, ps_2, pu_f, pu_g, pu_w, pu_o, uI_s, uI_o, uI_j, uI_j1, uI_j2, uI_tw, or0, true_or, or_true, false_or, or_false, nar0, nar1, q0, q1, q2, q5, q6, q7, q8, q9, q3, q4, qd, qa, qb, qc, qs, e.2.2.2.2.2.2]
  · intro n w _
    rw [lp_X2_lostOfAll_4]
    simp (disch := first | omega | assumption) only [lt, Option.bind_some, zl, ll, zadd, zsub, zmul, zneg, ladd, lsub, lmul, lneg, zltT, zltF, zleT, zleF, zeqT, zeqF, zidx, ixT, zwide, bIT, bIF, if_true, if_false, ↓reduceIte, Nat.reduceAdd, Int.reduceAdd, Int.reduceMul, Int.reduceSub, Int.reduceNeg, cs_c, cs_o, cs_2, cu_c, cu_o, Int.cast_ofNat_Int, ps_f, ps_g, ps_w, ps_o, ps_2, pu_f, pu_g, pu_w, pu_o, uI_s, uI_o, uI_j, uI_j1, uI_j2, uI_tw, or0, true_or, or_true, false_or, or_false, nar0, nar1, q0, q1, q2, q5, q6, q7, q8, q9, q3, q4, qd, qa, qb, qc, qs]
theorem c_leftOf {b : Int → Int} {p : Int} {L n : Nat} {M : KM} {g : Int → Int → Int → Int} (hL : HL M L b) (hg : GR g b) (hb : WB b) (h1 : 0 ≤ p) (h2 : p < b 2) : f_X2_leftOf n L (zI p) (ps M L g) = some (zI (b (74 + p))) := by
  have hh := hb.1
  unfold WH at hh
  have e := hg.1 p h1 h2
  unfold GP at e
  have e2 := WP_of hb h1 h2
  unfold WP at e2
  have e3 := hb.2.2.2.2.2 p h1 h2
  unfold WL at e3
  unfold f_X2_leftOf
  by_cases w : 0 ≤ b (82 + p)
  · have e4 := hg.1 (b (82 + p)) (by omega) (by omega)
    unfold GP at e4
    simp (disch := first | omega | assumption) only [lt, Option.bind_some, zl, ll, zadd, zsub, zmul, zneg, ladd, lsub, lmul, lneg, zltT, zltF, zleT, zleF, zeqT, zeqF, zidx, ixT, zwide, bIT, bIF, if_true, if_false, ↓reduceIte, Nat.reduceAdd, Int.reduceAdd, Int.reduceMul, Int.reduceSub, Int.reduceNeg, cs_c, cs_o, cs_2, cu_c, cu_o, Int.cast_ofNat_Int, ps_f, ps_g, ps_w, ps_o, ps_2, pu_f, pu_g, pu_w, pu_o, uI_s, uI_o, uI_j, uI_j1, uI_j2, uI_tw, or0, true_or, or_true, false_or, or_false, nar0, nar1, e.2.2.2.2.1, c_hasPlace hL, c_hasRoad hL, c_hasPerson hL]
    rw [show g (b (82 + p)) 0 10 = b (74 + p) by omega]
  · simp (disch := first | omega | assumption) only [lt, Option.bind_some, zl, ll, zadd, zsub, zmul, zneg, ladd, lsub, lmul, lneg, zltT, zltF, zleT, zleF, zeqT, zeqF, zidx, ixT, zwide, bIT, bIF, if_true, if_false, ↓reduceIte, Nat.reduceAdd, Int.reduceAdd, Int.reduceMul, Int.reduceSub, Int.reduceNeg, cs_c, cs_o, cs_2, cu_c, cu_o, Int.cast_ofNat_Int, ps_f, ps_g, ps_w, ps_o, ps_2, pu_f, pu_g, pu_w, pu_o, uI_s, uI_o, uI_j, uI_j1, uI_j2, uI_tw, or0, true_or, or_true, false_or, or_false, nar0, nar1, e.2.2.2.2.1, c_hasPlace hL, c_hasRoad hL, c_hasPerson hL]
    rw [show g p 0 10 = b (74 + p) by omega]
