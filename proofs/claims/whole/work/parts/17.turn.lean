/-! ===== turn ===== -/
theorem c_isWith {p q : Int} {L n : Nat} {M : KM} {g : Int → Int → Int → Int} (h1 : 0 ≤ q) (h2 : q < 8) (h3 : -1 ≤ p) (h4 : p < 8) (h5 : -1 ≤ g q 0 9) (h6 : g q 0 9 < 8) : f_X2_isWith n L (zI q) (zI p) (ps M L g) = some (bI (q = p ∨ g q 0 9 = p)) := by
  unfold f_X2_isWith
  by_cases w : q = p
  · simp (disch := first | omega | assumption) only [↓lt, Option.bind_some, zl, ll, zadd, zsub, zmul, zneg, ladd, lsub, lmul, lneg, zltT, zltF, zleT, zleF, zeqT, zeqF, zidx, ixT, zwide, bIT, bIF, if_true, if_false, ↓reduceIte, Nat.reduceAdd, Int.reduceAdd, Int.reduceMul, Int.reduceSub, Int.reduceNeg, cs_c, cs_o, cs_2, cu_c, cu_o, Int.cast_ofNat_Int, ps_f, ps_g, ps_w, ps_o, ps_2, pu_f, pu_g, pu_w, pu_o, uI_s, uI_o, uI_j, uI_j1, uI_j2, uI_tw, or0, true_or, or_true, false_or, or_false, nar0, nar1]
  · by_cases w2 : g q 0 9 = p
    · simp (disch := first | omega | assumption) only [↓lt, Option.bind_some, zl, ll, zadd, zsub, zmul, zneg, ladd, lsub, lmul, lneg, zltT, zltF, zleT, zleF, zeqT, zeqF, zidx, ixT, zwide, bIT, bIF, if_true, if_false, ↓reduceIte, Nat.reduceAdd, Int.reduceAdd, Int.reduceMul, Int.reduceSub, Int.reduceNeg, cs_c, cs_o, cs_2, cu_c, cu_o, Int.cast_ofNat_Int, ps_f, ps_g, ps_w, ps_o, ps_2, pu_f, pu_g, pu_w, pu_o, uI_s, uI_o, uI_j, uI_j1, uI_j2, uI_tw, or0, true_or, or_true, false_or, or_false, nar0, nar1]
    · simp (disch := first | omega | assumption) only [↓lt, Option.bind_some, zl, ll, zadd, zsub, zmul, zneg, ladd, lsub, lmul, lneg, zltT, zltF, zleT, zleF, zeqT, zeqF, zidx, ixT, zwide, bIT, bIF, if_true, if_false, ↓reduceIte, Nat.reduceAdd, Int.reduceAdd, Int.reduceMul, Int.reduceSub, Int.reduceNeg, cs_c, cs_o, cs_2, cu_c, cu_o, Int.cast_ofNat_Int, ps_f, ps_g, ps_w, ps_o, ps_2, pu_f, pu_g, pu_w, pu_o, uI_s, uI_o, uI_j, uI_j1, uI_j2, uI_tw, or0, true_or, or_true, false_or, or_false, nar0, nar1]
theorem m_isWith {p q : Int} {n : Nat} {M : KM} {b : Int → Int} (h1 : 0 ≤ q) (h2 : q < 8) (h3 : -1 ≤ p) (h4 : p < 8) (h5 : -1 ≤ b (82 + q)) (h6 : b (82 + q) < 8) : f_X12_isWith n 227 (zI q) (zI p) (cs M b) = some (bI (q = p ∨ b (82 + q) = p)) := by
  unfold f_X12_isWith
  by_cases w : q = p
  · simp (disch := first | omega | assumption) only [↓lt, Option.bind_some, zl, ll, zadd, zsub, zmul, zneg, ladd, lsub, lmul, lneg, zltT, zltF, zleT, zleF, zeqT, zeqF, zidx, ixT, zwide, bIT, bIF, if_true, if_false, ↓reduceIte, Nat.reduceAdd, Int.reduceAdd, Int.reduceMul, Int.reduceSub, Int.reduceNeg, cs_c, cs_o, cs_2, cu_c, cu_o, Int.cast_ofNat_Int, ps_f, ps_g, ps_w, ps_o, ps_2, pu_f, pu_g, pu_w, pu_o, uI_s, uI_o, uI_j, uI_j1, uI_j2, uI_tw, or0, true_or, or_true, false_or, or_false, nar0, nar1]
  · by_cases w2 : b (82 + q) = p
    · simp (disch := first | omega | assumption) only [↓lt, Option.bind_some, zl, ll, zadd, zsub, zmul, zneg, ladd, lsub, lmul, lneg, zltT, zltF, zleT, zleF, zeqT, zeqF, zidx, ixT, zwide, bIT, bIF, if_true, if_false, ↓reduceIte, Nat.reduceAdd, Int.reduceAdd, Int.reduceMul, Int.reduceSub, Int.reduceNeg, cs_c, cs_o, cs_2, cu_c, cu_o, Int.cast_ofNat_Int, ps_f, ps_g, ps_w, ps_o, ps_2, pu_f, pu_g, pu_w, pu_o, uI_s, uI_o, uI_j, uI_j1, uI_j2, uI_tw, or0, true_or, or_true, false_or, or_false, nar0, nar1]
    · simp (disch := first | omega | assumption) only [↓lt, Option.bind_some, zl, ll, zadd, zsub, zmul, zneg, ladd, lsub, lmul, lneg, zltT, zltF, zleT, zleF, zeqT, zeqF, zidx, ixT, zwide, bIT, bIF, if_true, if_false, ↓reduceIte, Nat.reduceAdd, Int.reduceAdd, Int.reduceMul, Int.reduceSub, Int.reduceNeg, cs_c, cs_o, cs_2, cu_c, cu_o, Int.cast_ofNat_Int, ps_f, ps_g, ps_w, ps_o, ps_2, pu_f, pu_g, pu_w, pu_o, uI_s, uI_o, uI_j, uI_j1, uI_j2, uI_tw, or0, true_or, or_true, false_or, or_false, nar0, nar1]
theorem c_stayAt {i v : Int} {L : Nat} {M : KM} {g : Int → Int → Int → Int} (h1 : 0 ≤ i) (h2 : i < 8) : f_X7_stayAt (L + 6 + 8 + 3 * i.toNat) (zI v) (ps M L g) = ps M L (gu (gu (gu (gu (gu (gu g i 0 5 v) i 0 6 (-1)) i 0 7 (-1)) i 0 8 (-1)) i 0 9 (-1)) i 0 10 0) := by
  unfold f_X7_stayAt
  simp (disch := first | omega | assumption) only [↓lt, Option.bind_some, zl, ll, zadd, zsub, zmul, zneg, ladd, lsub, lmul, lneg, zltT, zltF, zleT, zleF, zeqT, zeqF, zidx, ixT, zwide, bIT, bIF, if_true, if_false, ↓reduceIte, Nat.reduceAdd, Int.reduceAdd, Int.reduceMul, Int.reduceSub, Int.reduceNeg, cs_c, cs_o, cs_2, cu_c, cu_o, Int.cast_ofNat_Int, ps_f, ps_g, ps_w, ps_o, ps_2, pu_f, pu_g, pu_w, pu_o, uI_s, uI_o, uI_j, uI_j1, uI_j2, uI_tw, or0, true_or, or_true, false_or, or_false, nar0, nar1]
abbrev wiB (b : Int → Int) (p : Int) (q : Int) : Bool := decide (q = p ∨ b (82 + q) = p)
theorem c_turnBack {b : Int → Int} {p : Int} {L n : Nat} {M : KM} {g : Int → Int → Int → Int} (hL : HL M L b) (hg : GR g b) (hb : WB b) (h1 : 0 ≤ p) (h2 : p < b 2) (hn : 20 < n) : f_X2_turnBack n L (zI p) (ps M L g) = some (ps M L (fI (gIf (wiB b p) stG) (b 2).toNat 0 g)) := by
  have hM := hL
  have hh := hb.1
  unfold WH at hh
  obtain ⟨q0, q1, q2, -, -, -, -, -, -, -, -, -, -, -, -⟩ := hM
  have hi : 0 ≤ b 2 ∧ b 2 ≤ 8 := by omega
  clear hh
  unfold f_X2_turnBack
  rw [show (0 : Int32) = zI 0 from rfl]
  refine (loop_f (lp := fun n i g => lp_X2_turnBack_2 n L (zI p) i (ps M L g)) (f := gIf (wiB b p) stG) (fin := fun g => some (ps M L g)) (fun i w => ∀ q j k, i ≤ q → w q j k = g q j k) (N := 0) (R := b 2) ?_ ?_ (b 2).toNat 0 g n (by omega) (by omega) (by omega) (fun _ _ _ _ => rfl)).1
  · intro n i w _ h3 h4 hv
    have e := (hg.1 i h3 h4)
    have e2 := WPb hb h3 h4
    have e3 := hv i 0 9 (by omega)
    have e4 : g i 0 9 = b (82 + i) := e.2.2.2.2.1
    have e5 : -1 ≤ w i 0 9 ∧ w i 0 9 < 8 := by omega
    refine ⟨?_, fun q j k h5 => ?_⟩
    · rw [lp_X2_turnBack_2]
      unfold gIf
      clear e e2 hv
      by_cases t : i = p ∨ b (82 + i) = p
      · rw [if_pos (decide_eq_true t)]
        have t2 : i = p ∨ w i 0 9 = p := by omega
        rw [c_isWith h3 (by omega) (by omega) (by omega) e5.1 e5.2, bIT t2]
        simp (disch := first | omega | assumption) only [↓lt, Option.bind_some, zl, ll, zadd, zsub, zmul, zneg, ladd, lsub, lmul, lneg, zltT, zltF, zleT, zleF, zeqT, zeqF, zidx, ixT, zwide, bIT, bIF, if_true, if_false, ↓reduceIte, Nat.reduceAdd, Int.reduceAdd, Int.reduceMul, Int.reduceSub, Int.reduceNeg, cs_c, cs_o, cs_2, cu_c, cu_o, Int.cast_ofNat_Int, ps_f, ps_g, ps_w, ps_o, ps_2, pu_f, pu_g, pu_w, pu_o, uI_s, uI_o, uI_j, uI_j1, uI_j2, uI_tw, or0, true_or, or_true, false_or, or_false, nar0, nar1, q2]
        rw [c_stayAt h3 (by omega)]
        rfl
      · rw [if_neg (fun z => t (of_decide_eq_true z))]
        have t2 : ¬ (i = p ∨ w i 0 9 = p) := by omega
        rw [c_isWith h3 (by omega) (by omega) (by omega) e5.1 e5.2, bIF t2]
        simp (disch := first | omega | assumption) only [↓lt, Option.bind_some, zl, ll, zadd, zsub, zmul, zneg, ladd, lsub, lmul, lneg, zltT, zltF, zleT, zleF, zeqT, zeqF, zidx, ixT, zwide, bIT, bIF, if_true, if_false, ↓reduceIte, Nat.reduceAdd, Int.reduceAdd, Int.reduceMul, Int.reduceSub, Int.reduceNeg, cs_c, cs_o, cs_2, cu_c, cu_o, Int.cast_ofNat_Int, ps_f, ps_g, ps_w, ps_o, ps_2, pu_f, pu_g, pu_w, pu_o, uI_s, uI_o, uI_j, uI_j1, uI_j2, uI_tw, or0, true_or, or_true, false_or, or_false, nar0, nar1, q2]
    · unfold gIf
      by_cases t : wiB b p i = true
      · rw [if_pos t, stG2 _ _ _ _ _ (by omega)]; exact hv q j k (by omega)
      · rw [if_neg t]; exact hv q j k (by omega)
  · intro n w _ _
    rw [lp_X2_turnBack_2]
    simp (disch := first | omega | assumption) only [↓lt, Option.bind_some, zl, ll, zadd, zsub, zmul, zneg, ladd, lsub, lmul, lneg, zltT, zltF, zleT, zleF, zeqT, zeqF, zidx, ixT, zwide, bIT, bIF, if_true, if_false, ↓reduceIte, Nat.reduceAdd, Int.reduceAdd, Int.reduceMul, Int.reduceSub, Int.reduceNeg, cs_c, cs_o, cs_2, cu_c, cu_o, Int.cast_ofNat_Int, ps_f, ps_g, ps_w, ps_o, ps_2, pu_f, pu_g, pu_w, pu_o, uI_s, uI_o, uI_j, uI_j1, uI_j2, uI_tw, or0, true_or, or_true, false_or, or_false, nar0, nar1, q2]
theorem m_turnLoop {b : Int → Int} {p : Int} {n : Nat} {X : KM} (hb : WB b) (h1 : 0 ≤ p) (h2 : p < b 2) (hn : 20 < n) : lp_X12_turn_53 n 227 (zI p) (zI 0) (cs X b) = some (zI 1, cs X (fI (bIf (wiB b p) stB) (b 2).toNat 0 b)) := by
  have hh := hb.1
  unfold WH at hh
  have hi : 0 ≤ b 2 ∧ b 2 ≤ 8 ∧ b 0 ≤ 8 := by omega
  clear hh
  refine (loop_f (lp := fun n i w => lp_X12_turn_53 n 227 (zI p) i (cs X w)) (f := bIf (wiB b p) stB) (fin := fun w => some (zI 1, cs X w)) (fun i w => (∀ z, i ≤ own z ∨ ¬ (58 ≤ z ∧ z < 226) → w z = b z)) (N := 0) (R := b 2) ?_ ?_ (b 2).toNat 0 b n (by omega) (by omega) (by omega) (fun _ _ => rfl)).1
  · intro n i w _ h3 h4 hv
    have e2 := WPb hb h3 h4
    have e3 := hv (82 + i) (Or.inl (by rw [own_3 h3 (by omega)]; omega))
    have e4 := hv 2 (Or.inr (by omega))
    have e5 : -1 ≤ w (82 + i) ∧ w (82 + i) < 8 := by omega
    refine ⟨?_, fun z h5 => ?_⟩
    · rw [lp_X12_turn_53]
      unfold bIf
      clear e2 hv
      by_cases t : i = p ∨ b (82 + i) = p
      · rw [if_pos (decide_eq_true t)]
        have t2 : i = p ∨ w (82 + i) = p := by omega
        rw [m_isWith h3 (by omega) (by omega) (by omega) e5.1 e5.2, bIT t2]
        simp (disch := first | omega | assumption) only [↓lt, Option.bind_some, zl, ll, zadd, zsub, zmul, zneg, ladd, lsub, lmul, lneg, zltT, zltF, zleT, zleF, zeqT, zeqF, zidx, ixT, zwide, bIT, bIF, if_true, if_false, ↓reduceIte, Nat.reduceAdd, Int.reduceAdd, Int.reduceMul, Int.reduceSub, Int.reduceNeg, cs_c, cs_o, cs_2, cu_c, cu_o, Int.cast_ofNat_Int, ps_f, ps_g, ps_w, ps_o, ps_2, pu_f, pu_g, pu_w, pu_o, uI_s, uI_o, uI_j, uI_j1, uI_j2, uI_tw, or0, true_or, or_true, false_or, or_false, nar0, nar1, bu_o]
        rfl
      · rw [if_neg (fun z => t (of_decide_eq_true z))]
        have t2 : ¬ (i = p ∨ w (82 + i) = p) := by omega
        rw [m_isWith h3 (by omega) (by omega) (by omega) e5.1 e5.2, bIF t2]
        simp (disch := first | omega | assumption) only [↓lt, Option.bind_some, zl, ll, zadd, zsub, zmul, zneg, ladd, lsub, lmul, lneg, zltT, zltF, zleT, zleF, zeqT, zeqF, zidx, ixT, zwide, bIT, bIF, if_true, if_false, ↓reduceIte, Nat.reduceAdd, Int.reduceAdd, Int.reduceMul, Int.reduceSub, Int.reduceNeg, cs_c, cs_o, cs_2, cu_c, cu_o, Int.cast_ofNat_Int, ps_f, ps_g, ps_w, ps_o, ps_2, pu_f, pu_g, pu_w, pu_o, uI_s, uI_o, uI_j, uI_j1, uI_j2, uI_tw, or0, true_or, or_true, false_or, or_false, nar0, nar1]
    · unfold bIf
      by_cases t : wiB b p i = true
      · rw [if_pos t, stB2 _ _ _ h3 (by omega) (fun e => by
          rcases h5 with h5 | h5
          · omega
          · rw [own_n h5] at e; omega)]
        rcases h5 with h5 | h5
        · exact hv z (Or.inl (by omega))
        · exact hv z (Or.inr h5)
      · rw [if_neg t]
        rcases h5 with h5 | h5
        · exact hv z (Or.inl (by omega))
        · exact hv z (Or.inr h5)
  · intro n w _ hv
    have e4 := hv 2 (Or.inr (by omega))
    rw [lp_X12_turn_53]
    simp (disch := first | omega | assumption) only [↓lt, Option.bind_some, zl, ll, zadd, zsub, zmul, zneg, ladd, lsub, lmul, lneg, zltT, zltF, zleT, zleF, zeqT, zeqF, zidx, ixT, zwide, bIT, bIF, if_true, if_false, ↓reduceIte, Nat.reduceAdd, Int.reduceAdd, Int.reduceMul, Int.reduceSub, Int.reduceNeg, cs_c, cs_o, cs_2, cu_c, cu_o, Int.cast_ofNat_Int, ps_f, ps_g, ps_w, ps_o, ps_2, pu_f, pu_g, pu_w, pu_o, uI_s, uI_o, uI_j, uI_j1, uI_j2, uI_tw, or0, true_or, or_true, false_or, or_false, nar0, nar1]
