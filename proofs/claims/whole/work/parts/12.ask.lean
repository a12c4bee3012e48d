/-! ===== calls that ask: dearest, the next glare, what a call told ===== -/
def deF (o : Int → Int) (i : Int) (w : Int × Int) : Int × Int := if o i ≤ w.2 then w else (i, o i)
theorem deF_T {o : Int → Int} {i : Int} {w : Int × Int} (h : o i ≤ w.2) : deF o i w = w := if_pos h
theorem deF_F {o : Int → Int} {i : Int} {w : Int × Int} (h : ¬ o i ≤ w.2) : deF o i w = (i, o i) := if_neg h
def deB (b : Int → Int) (x : Int) : Int := (fI (deF (fun i => b (226 + 8 * x + i))) (b 2).toNat 0 (-1, 0)).1
theorem k_dearest (p : Int32) (n : Nat) (hn : 100 ≤ n) : OKm (f_X11_dearest n 0 p) (f_X12_dearest n 227 p) := by
  obtain ⟨x, hx1, hx2, rfl⟩ := z_ex p
  refine ok_ro (fun M L g b hO => ?_)
  obtain ⟨hP, hL, hg, hb, hm, hC⟩ := hO; have hp0 : M.2.2 0 10 = L := hP.1; have hl := Ptr_L hP; have hM := (HL_cs hl.2).mp hL; have hh := hb.1; unfold WH at hh
  unfold f_X11_dearest f_X12_dearest
  by_cases w1 : 0 ≤ x ∧ x < b 2
  · have V : Int → Int × Int → Prop := fun _ w => -1 ≤ w.1 ∧ w.1 < 8 ∧ 0 ≤ w.2 ∧ w.2 ≤ 9999
    have e1 := loop_f (lp := fun n i (w : Int × Int) => lp_X2_mostOwedBy_7 n L (zI x) (ps (cs M b) L g) (zI w.1) (zI w.2) i) (f := deF (fun i => b (226 + 8 * x + i))) (fin := fun w => some (zI w.1)) (fun _ w => -1 ≤ w.1 ∧ w.1 < 8 ∧ 0 ≤ w.2 ∧ w.2 ≤ 9999) (N := 0) (R := b 2) (by
      intro n i w _ h4 h5 hv
      have e := hg.2.2.1 x i w1.1 w1.2 h4 h5
      have e2 := hb.2.2.2.2.1 x i w1.1 (by omega) h4 (by omega)
      obtain ⟨q0, q1, q2, q5, q6, q7, q8, q9, q3, q4, qd, qa, qb, qc, qs⟩ := hM
      by_cases w2 : b (226 + 8 * x + i) ≤ w.2
      · rw [deF_T (o := fun i => b (226 + 8 * x + i)) w2]
        refine ⟨?_, hv⟩
        rw [lp_X2_mostOwedBy_7]
        simp (disch := first | omega | assumption) only [lt, Option.bind_some, zl, ll, zadd, zsub, zmul, zneg, ladd, lsub, lmul, lneg, zltT, zltF, zleT, zleF, zeqT, zeqF, zidx, ixT, zwide, bIT, bIF, if_true, if_false, ↓reduceIte, Nat.reduceAdd, Int.reduceAdd, Int.reduceMul, Int.reduceSub, Int.reduceNeg, cs_c, cs_o, cs_2, cu_c, cu_o, Int.cast_ofNat_Int, ps_f, ps_g, ps_w, ps_o, ps_2, pu_f, pu_g, pu_w, pu_o, uI_s, uI_o, uI_j, uI_j1, uI_j2, uI_tw, or0, true_or, or_true, false_or, or_false, nar0, nar1, q0, q1, q2, q5, q6, q7, q8, q9, q3, q4, qd, qa, qb, qc, qs, e]
      · rw [deF_F (o := fun i => b (226 + 8 * x + i)) w2]
        refine ⟨?_, by simp only; omega⟩
        rw [lp_X2_mostOwedBy_7]
        simp (disch := first | omega | assumption) only [lt, Option.bind_some, zl, ll, zadd, zsub, zmul, zneg, ladd, lsub, lmul, lneg, zltT, zltF, zleT, zleF, zeqT, zeqF, zidx, ixT, zwide, bIT, bIF, if_true, if_false, ↓reduceIte, Nat.reduceAdd, Int.reduceAdd, Int.reduceMul, Int.reduceSub, Int.reduceNeg, cs_c, cs_o, cs_2, cu_c, cu_o, Int.cast_ofNat_Int, ps_f, ps_g, ps_w, ps_o, ps_2, pu_f, pu_g, pu_w, pu_o, uI_s, uI_o, uI_j, uI_j1, uI_j2, uI_tw, or0, true_or, or_true, false_or, or_false, nar0, nar1, q0, q1, q2, q5, q6, q7, q8, q9, q3, q4, qd, qa, qb, qc, qs, e]) (by
      intro n w _ _
      obtain ⟨q0, q1, q2, q5, q6, q7, q8, q9, q3, q4, qd, qa, qb, qc, qs⟩ := hM
      rw [lp_X2_mostOwedBy_7]
      simp (disch := first | omega | assumption) only [lt, Option.bind_some, zl, ll, zadd, zsub, zmul, zneg, ladd, lsub, lmul, lneg, zltT, zltF, zleT, zleF, zeqT, zeqF, zidx, ixT, zwide, bIT, bIF, if_true, if_false, ↓reduceIte, Nat.reduceAdd, Int.reduceAdd, Int.reduceMul, Int.reduceSub, Int.reduceNeg, cs_c, cs_o, cs_2, cu_c, cu_o, Int.cast_ofNat_Int, ps_f, ps_g, ps_w, ps_o, ps_2, pu_f, pu_g, pu_w, pu_o, uI_s, uI_o, uI_j, uI_j1, uI_j2, uI_tw, or0, true_or, or_true, false_or, or_false, nar0, nar1, q0, q1, q2, q5, q6, q7, q8, q9, q3, q4, qd, qa, qb, qc, qs]) (b 2).toNat 0 (-1, 0) n (by omega) (by omega) (by omega) (by decide)
    have e2 : ∀ N : KM, ∀ k : Int32 → Option (Int32 × KM), lp_X12_dearest_31 n 227 (zI x) (cs N b) (zI (-1)) (zI 0) (zI 0) k = k (zI (deB b x)) := fun N k => by
      refine (loop_f (lp := fun n i (w : Int × Int) => lp_X12_dearest_31 n 227 (zI x) (cs N b) (zI w.1) (zI w.2) i k) (f := deF (fun i => b (226 + 8 * x + i))) (fin := fun w => k (zI w.1)) (fun _ w => -1 ≤ w.1 ∧ w.1 < 8 ∧ 0 ≤ w.2 ∧ w.2 ≤ 9999) (N := 0) (R := b 2) (by
        intro n i w _ h4 h5 hv
        have e2 := hb.2.2.2.2.1 x i w1.1 (by omega) h4 (by omega)
        by_cases w2 : b (226 + 8 * x + i) ≤ w.2
        · rw [deF_T (o := fun i => b (226 + 8 * x + i)) w2]
          refine ⟨?_, hv⟩
          rw [lp_X12_dearest_31]
          simp (disch := first | omega | assumption) only [lt, Option.bind_some, zl, ll, zadd, zsub, zmul, zneg, ladd, lsub, lmul, lneg, zltT, zltF, zleT, zleF, zeqT, zeqF, zidx, ixT, zwide, bIT, bIF, if_true, if_false, ↓reduceIte, Nat.reduceAdd, Int.reduceAdd, Int.reduceMul, Int.reduceSub, Int.reduceNeg, cs_c, cs_o, cs_2, cu_c, cu_o, Int.cast_ofNat_Int, ps_f, ps_g, ps_w, ps_o, ps_2, pu_f, pu_g, pu_w, pu_o, uI_s, uI_o, uI_j, uI_j1, uI_j2, uI_tw, or0, true_or, or_true, false_or, or_false, nar0, nar1]
        · rw [deF_F (o := fun i => b (226 + 8 * x + i)) w2]
          refine ⟨?_, by simp only; omega⟩
          rw [lp_X12_dearest_31]
          simp (disch := first | omega | assumption) only [lt, Option.bind_some, zl, ll, zadd, zsub, zmul, zneg, ladd, lsub, lmul, lneg, zltT, zltF, zleT, zleF, zeqT, zeqF, zidx, ixT, zwide, bIT, bIF, if_true, if_false, ↓reduceIte, Nat.reduceAdd, Int.reduceAdd, Int.reduceMul, Int.reduceSub, Int.reduceNeg, cs_c, cs_o, cs_2, cu_c, cu_o, Int.cast_ofNat_Int, ps_f, ps_g, ps_w, ps_o, ps_2, pu_f, pu_g, pu_w, pu_o, uI_s, uI_o, uI_j, uI_j1, uI_j2, uI_tw, or0, true_or, or_true, false_or, or_false, nar0, nar1]) (by
        intro n w _ _
        rw [lp_X12_dearest_31]
        simp (disch := first | omega | assumption) only [lt, Option.bind_some, zl, ll, zadd, zsub, zmul, zneg, ladd, lsub, lmul, lneg, zltT, zltF, zleT, zleF, zeqT, zeqF, zidx, ixT, zwide, bIT, bIF, if_true, if_false, ↓reduceIte, Nat.reduceAdd, Int.reduceAdd, Int.reduceMul, Int.reduceSub, Int.reduceNeg, cs_c, cs_o, cs_2, cu_c, cu_o, Int.cast_ofNat_Int, ps_f, ps_g, ps_w, ps_o, ps_2, pu_f, pu_g, pu_w, pu_o, uI_s, uI_o, uI_j, uI_j1, uI_j2, uI_tw, or0, true_or, or_true, false_or, or_false, nar0, nar1]) (b 2).toNat 0 (-1, 0) n (by omega) (by omega) (by omega) (by decide)).1
    have e3 := e1.2
    have e4 : f_X2_mostOwedBy n L (zI x) (ps (cs M b) L g) = some (zI (deB b x)) := e1.1
    have e5 : -1 ≤ deB b x ∧ deB b x < 8 := ⟨e3.1, e3.2.1⟩
    by_cases w2 : deB b x = -1
    · refine ⟨zI (-1), zI 8, ?_, fun N => ?_⟩
      · simp (disch := first | omega | assumption) only [lt, Option.bind_some, zl, ll, zadd, zsub, zmul, zneg, ladd, lsub, lmul, lneg, zltT, zltF, zleT, zleF, zeqT, zeqF, zidx, ixT, zwide, bIT, bIF, if_true, if_false, ↓reduceIte, Nat.reduceAdd, Int.reduceAdd, Int.reduceMul, Int.reduceSub, Int.reduceNeg, cs_c, cs_o, cs_2, cu_c, cu_o, Int.cast_ofNat_Int, ps_f, ps_g, ps_w, ps_o, ps_2, pu_f, pu_g, pu_w, pu_o, uI_s, uI_o, uI_j, uI_j1, uI_j2, uI_tw, or0, true_or, or_true, false_or, or_false, nar0, nar1, f_X11_tell, f_X11_refuse, f_X11_tellIf, f_X11_tellOrNone, f_X11_deny, f_X11_succeed, f_X12_refuse, f_X12_no, hp0, c_hasPlace hL, c_hasRoad hL, c_hasPerson hL, e4, w2]
      · simp (disch := first | omega | assumption) only [lt, Option.bind_some, zl, ll, zadd, zsub, zmul, zneg, ladd, lsub, lmul, lneg, zltT, zltF, zleT, zleF, zeqT, zeqF, zidx, ixT, zwide, bIT, bIF, if_true, if_false, ↓reduceIte, Nat.reduceAdd, Int.reduceAdd, Int.reduceMul, Int.reduceSub, Int.reduceNeg, cs_c, cs_o, cs_2, cu_c, cu_o, Int.cast_ofNat_Int, ps_f, ps_g, ps_w, ps_o, ps_2, pu_f, pu_g, pu_w, pu_o, uI_s, uI_o, uI_j, uI_j1, uI_j2, uI_tw, or0, true_or, or_true, false_or, or_false, nar0, nar1, f_X11_tell, f_X11_refuse, f_X11_tellIf, f_X11_tellOrNone, f_X11_deny, f_X11_succeed, f_X12_refuse, f_X12_no, hp0, m_isPlaceAt, m_isRoadAt, m_isPerson, m_isIn, e2, w2]
    · refine ⟨zI (deB b x), zI 0, ?_, fun N => ?_⟩
      · simp (disch := first | omega | assumption) only [lt, Option.bind_some, zl, ll, zadd, zsub, zmul, zneg, ladd, lsub, lmul, lneg, zltT, zltF, zleT, zleF, zeqT, zeqF, zidx, ixT, zwide, bIT, bIF, if_true, if_false, ↓reduceIte, Nat.reduceAdd, Int.reduceAdd, Int.reduceMul, Int.reduceSub, Int.reduceNeg, cs_c, cs_o, cs_2, cu_c, cu_o, Int.cast_ofNat_Int, ps_f, ps_g, ps_w, ps_o, ps_2, pu_f, pu_g, pu_w, pu_o, uI_s, uI_o, uI_j, uI_j1, uI_j2, uI_tw, or0, true_or, or_true, false_or, or_false, nar0, nar1, f_X11_tell, f_X11_refuse, f_X11_tellIf, f_X11_tellOrNone, f_X11_deny, f_X11_succeed, f_X12_refuse, f_X12_no, hp0, c_hasPlace hL, c_hasRoad hL, c_hasPerson hL, e4]
      · simp (disch := first | omega | assumption) only [lt, Option.bind_some, zl, ll, zadd, zsub, zmul, zneg, ladd, lsub, lmul, lneg, zltT, zltF, zleT, zleF, zeqT, zeqF, zidx, ixT, zwide, bIT, bIF, if_true, if_false, ↓reduceIte, Nat.reduceAdd, Int.reduceAdd, Int.reduceMul, Int.reduceSub, Int.reduceNeg, cs_c, cs_o, cs_2, cu_c, cu_o, Int.cast_ofNat_Int, ps_f, ps_g, ps_w, ps_o, ps_2, pu_f, pu_g, pu_w, pu_o, uI_s, uI_o, uI_j, uI_j1, uI_j2, uI_tw, or0, true_or, or_true, false_or, or_false, nar0, nar1, f_X11_tell, f_X11_refuse, f_X11_tellIf, f_X11_tellOrNone, f_X11_deny, f_X11_succeed, f_X12_refuse, f_X12_no, hp0, m_isPlaceAt, m_isRoadAt, m_isPerson, m_isIn, e2]
  · refine ⟨zI (-1), zI 2, ?_, fun N => ?_⟩
    · simp (disch := first | omega | assumption) only [lt, Option.bind_some, zl, ll, zadd, zsub, zmul, zneg, ladd, lsub, lmul, lneg, zltT, zltF, zleT, zleF, zeqT, zeqF, zidx, ixT, zwide, bIT, bIF, if_true, if_false, ↓reduceIte, Nat.reduceAdd, Int.reduceAdd, Int.reduceMul, Int.reduceSub, Int.reduceNeg, cs_c, cs_o, cs_2, cu_c, cu_o, Int.cast_ofNat_Int, ps_f, ps_g, ps_w, ps_o, ps_2, pu_f, pu_g, pu_w, pu_o, uI_s, uI_o, uI_j, uI_j1, uI_j2, uI_tw, or0, true_or, or_true, false_or, or_false, nar0, nar1, f_X11_tell, f_X11_refuse, f_X11_tellIf, f_X11_tellOrNone, f_X11_deny, f_X11_succeed, f_X12_refuse, f_X12_no, hp0, c_hasPlace hL, c_hasRoad hL, c_hasPerson hL]
    · simp (disch := first | omega | assumption) only [lt, Option.bind_some, zl, ll, zadd, zsub, zmul, zneg, ladd, lsub, lmul, lneg, zltT, zltF, zleT, zleF, zeqT, zeqF, zidx, ixT, zwide, bIT, bIF, if_true, if_false, ↓reduceIte, Nat.reduceAdd, Int.reduceAdd, Int.reduceMul, Int.reduceSub, Int.reduceNeg, cs_c, cs_o, cs_2, cu_c, cu_o, Int.cast_ofNat_Int, ps_f, ps_g, ps_w, ps_o, ps_2, pu_f, pu_g, pu_w, pu_o, uI_s, uI_o, uI_j, uI_j1, uI_j2, uI_tw, or0, true_or, or_true, false_or, or_false, nar0, nar1, f_X11_tell, f_X11_refuse, f_X11_tellIf, f_X11_tellOrNone, f_X11_deny, f_X11_succeed, f_X12_refuse, f_X12_no, hp0, m_isPlaceAt, m_isRoadAt, m_isPerson, m_isIn]
theorem fst_skip {P : Int → Bool} : ∀ (d k : Nat) (i : Int), (∀ j, i ≤ j → j < i + d → P j = false) → fstI P k i = if d ≤ k then fstI P (k - d) (i + d) else -1 := by
  intro d
  induction d with
  | zero => intro k i _; simp
  | succ d ih =>
    intro k i h
    cases k with
    | zero => simp [fstI]
    | succ k =>
      have h0 : ¬ P i = true := by rw [h i (by omega) (by omega)]; decide
      simp only [fstI]
      rw [if_neg h0, ih k (i + 1) (fun j a c => h j (by omega) (by omega))]
      by_cases q : d ≤ k
      · rw [if_pos q, if_pos (by omega)]
        congr 1
        · omega
        · omega
      · rw [if_neg q, if_neg (by omega)]
theorem k_nextGlare (p : Int32) (n : Nat) (hn : 2000 ≤ n) : OKm (f_X11_nextGlare n 0 p) (f_X12_nextGlare n 227 p) := by
  obtain ⟨x, hx1, hx2, rfl⟩ := z_ex p
  refine ok_ro (fun M L g b hO => ?_)
  obtain ⟨hP, hL, hg, hb, hm, hC⟩ := hO; have hp0 : M.2.2 0 10 = L := hP.1; have hl := Ptr_L hP; have hM := (HL_cs hl.2).mp hL; have hh := hb.1; unfold WH at hh
  unfold f_X11_nextGlare f_X12_nextGlare
  by_cases w1 : x = 0 ∨ x = 1
  · have hP : ∀ t, decide (glB b (b 5 + t) ↔ x = 1) = true ↔ (glB b (b 5 + t) ↔ x = 1) := fun t => decide_eq_true_iff
    have e2 : ∀ N : KM, ∀ k : Option (Int32 × KM), lp_X12_nextGlare_28 n 227 (zI x) (cs N b) (zI 0) k = (fun i => if i = -1 then k else some (zI i, cs N b)) (fstI (fun t => decide (glB b (b 5 + t) ↔ x = 1)) 1441 0) := fun N k => by
      refine loop_fst (lp := fun n i => lp_X12_nextGlare_28 n 227 (zI x) (cs N b) i k) (P := fun t => decide (glB b (b 5 + t) ↔ x = 1)) (res := fun i => if i = -1 then k else some (zI i, cs N b)) (N := 0) (R := 1441) ?_ ?_ 1441 0 n (by omega) (by omega) (by omega)
      · intro n i _ h1 h2
        by_cases w3 : glB b (b 5 + i)
        · rcases w1 with rfl | rfl
          · rw [if_neg (fun z => absurd (((hP i).mp z).mp w3) (by decide)), lp_X12_nextGlare_28]
            simp (disch := first | omega | assumption) only [lt, Option.bind_some, zl, ll, zadd, zsub, zmul, zneg, ladd, lsub, lmul, lneg, zltT, zltF, zleT, zleF, zeqT, zeqF, zidx, ixT, zwide, bIT, bIF, if_true, if_false, ↓reduceIte, Nat.reduceAdd, Int.reduceAdd, Int.reduceMul, Int.reduceSub, Int.reduceNeg, cs_c, cs_o, cs_2, cu_c, cu_o, Int.cast_ofNat_Int, ps_f, ps_g, ps_w, ps_o, ps_2, pu_f, pu_g, pu_w, pu_o, uI_s, uI_o, uI_j, uI_j1, uI_j2, uI_tw, or0, true_or, or_true, false_or, or_false, nar0, nar1, m_glares hb.1]
          · rw [if_pos ((hP i).mpr ⟨fun _ => rfl, fun _ => w3⟩), if_neg (by omega), lp_X12_nextGlare_28]
            simp (disch := first | omega | assumption) only [lt, Option.bind_some, zl, ll, zadd, zsub, zmul, zneg, ladd, lsub, lmul, lneg, zltT, zltF, zleT, zleF, zeqT, zeqF, zidx, ixT, zwide, bIT, bIF, if_true, if_false, ↓reduceIte, Nat.reduceAdd, Int.reduceAdd, Int.reduceMul, Int.reduceSub, Int.reduceNeg, cs_c, cs_o, cs_2, cu_c, cu_o, Int.cast_ofNat_Int, ps_f, ps_g, ps_w, ps_o, ps_2, pu_f, pu_g, pu_w, pu_o, uI_s, uI_o, uI_j, uI_j1, uI_j2, uI_tw, or0, true_or, or_true, false_or, or_false, nar0, nar1, m_glares hb.1]
        · rcases w1 with rfl | rfl
          · rw [if_pos ((hP i).mpr ⟨fun z => absurd z w3, fun z => absurd z (by decide)⟩), if_neg (by omega), lp_X12_nextGlare_28]
            simp (disch := first | omega | assumption) only [lt, Option.bind_some, zl, ll, zadd, zsub, zmul, zneg, ladd, lsub, lmul, lneg, zltT, zltF, zleT, zleF, zeqT, zeqF, zidx, ixT, zwide, bIT, bIF, if_true, if_false, ↓reduceIte, Nat.reduceAdd, Int.reduceAdd, Int.reduceMul, Int.reduceSub, Int.reduceNeg, cs_c, cs_o, cs_2, cu_c, cu_o, Int.cast_ofNat_Int, ps_f, ps_g, ps_w, ps_o, ps_2, pu_f, pu_g, pu_w, pu_o, uI_s, uI_o, uI_j, uI_j1, uI_j2, uI_tw, or0, true_or, or_true, false_or, or_false, nar0, nar1, m_glares hb.1]
          · rw [if_neg (fun z => w3 (((hP i).mp z).mpr rfl)), lp_X12_nextGlare_28]
            simp (disch := first | omega | assumption) only [lt, Option.bind_some, zl, ll, zadd, zsub, zmul, zneg, ladd, lsub, lmul, lneg, zltT, zltF, zleT, zleF, zeqT, zeqF, zidx, ixT, zwide, bIT, bIF, if_true, if_false, ↓reduceIte, Nat.reduceAdd, Int.reduceAdd, Int.reduceMul, Int.reduceSub, Int.reduceNeg, cs_c, cs_o, cs_2, cu_c, cu_o, Int.cast_ofNat_Int, ps_f, ps_g, ps_w, ps_o, ps_2, pu_f, pu_g, pu_w, pu_o, uI_s, uI_o, uI_j, uI_j1, uI_j2, uI_tw, or0, true_or, or_true, false_or, or_false, nar0, nar1, m_glares hb.1]
      · intro n _
        rw [if_pos rfl, lp_X12_nextGlare_28]
        simp (disch := first | omega | assumption) only [lt, Option.bind_some, zl, ll, zadd, zsub, zmul, zneg, ladd, lsub, lmul, lneg, zltT, zltF, zleT, zleF, zeqT, zeqF, zidx, ixT, zwide, bIT, bIF, if_true, if_false, ↓reduceIte, Nat.reduceAdd, Int.reduceAdd, Int.reduceMul, Int.reduceSub, Int.reduceNeg, cs_c, cs_o, cs_2, cu_c, cu_o, Int.cast_ofNat_Int, ps_f, ps_g, ps_w, ps_o, ps_2, pu_f, pu_g, pu_w, pu_o, uI_s, uI_o, uI_j, uI_j1, uI_j2, uI_tw, or0, true_or, or_true, false_or, or_false, nar0, nar1]
    have e1 : ∀ (k53 : Int32 → Option (Int32 × KM)) (k80 : Option (Int32 × KM)), ∀ (m k : Nat) (i : Int), k ≤ m → 0 ≤ i → i + k = 1441 → ∀ n, k < n → lp_X11_nextGlare_17 n 0 (zI x) (ps (cs M b) L g) (zI i) k53 k80 = (fun i => if i = -1 then k80 else k53 (zI i)) (fstI (fun t => decide (glB b (b 5 + t) ↔ x = 1)) k i) := by
      intro k53 k80 m
      induction m with
      | zero =>
        intro k i hk hi he n hn
        obtain ⟨n, rfl⟩ : ∃ m, n = m + 1 := ⟨n - 1, by omega⟩
        have : k = 0 := by omega
        subst this
        rw [lp_X11_nextGlare_17]
        simp (disch := first | omega | assumption) only [lt, Option.bind_some, zl, ll, zadd, zsub, zmul, zneg, ladd, lsub, lmul, lneg, zltT, zltF, zleT, zleF, zeqT, zeqF, zidx, ixT, zwide, bIT, bIF, if_true, if_false, ↓reduceIte, Nat.reduceAdd, Int.reduceAdd, Int.reduceMul, Int.reduceSub, Int.reduceNeg, cs_c, cs_o, cs_2, cu_c, cu_o, Int.cast_ofNat_Int, ps_f, ps_g, ps_w, ps_o, ps_2, pu_f, pu_g, pu_w, pu_o, uI_s, uI_o, uI_j, uI_j1, uI_j2, uI_tw, or0, true_or, or_true, false_or, or_false, nar0, nar1, fstI]
      | succ m ih =>
        intro k i hk hi he n hn
        obtain ⟨n, rfl⟩ : ∃ m, n = m + 1 := ⟨n - 1, by omega⟩
        cases k with
        | zero =>
          rw [lp_X11_nextGlare_17]
          simp (disch := first | omega | assumption) only [lt, Option.bind_some, zl, ll, zadd, zsub, zmul, zneg, ladd, lsub, lmul, lneg, zltT, zltF, zleT, zleF, zeqT, zeqF, zidx, ixT, zwide, bIT, bIF, if_true, if_false, ↓reduceIte, Nat.reduceAdd, Int.reduceAdd, Int.reduceMul, Int.reduceSub, Int.reduceNeg, cs_c, cs_o, cs_2, cu_c, cu_o, Int.cast_ofNat_Int, ps_f, ps_g, ps_w, ps_o, ps_2, pu_f, pu_g, pu_w, pu_o, uI_s, uI_o, uI_j, uI_j1, uI_j2, uI_tw, or0, true_or, or_true, false_or, or_false, nar0, nar1, fstI]
        | succ k =>
          obtain ⟨q0, q1, q2, q5, q6, q7, q8, q9, q3, q4, qd, qa, qb, qc, qs⟩ := hM
          have hd : 0 ≤ (b 5 + i) / 60 := by omega
          have key : ∀ c : Prop, (¬ (glB b (b 5 + i) ↔ x = 1)) → lp_X11_nextGlare_17 n 0 (zI x) (ps (cs M b) L g) (zI (i + (60 - (b 5 + i - (b 5 + i) / 60 * 60)))) k53 k80 = (fun i => if i = -1 then k80 else k53 (zI i)) (fstI (fun t => decide (glB b (b 5 + t) ↔ x = 1)) (k + 1) i) := by
            intro _ hq
            rw [fst_skip (60 - (b 5 + i - (b 5 + i) / 60 * 60)).toNat (k + 1) i (fun j a c => by
              have : (b 5 + j) / 60 = (b 5 + i) / 60 := by omega
              have e : glB b (b 5 + j) ↔ glB b (b 5 + i) := by simp only [glB, this]
              exact decide_eq_false (fun z => hq (e.symm.trans z)))]
            by_cases w5 : (60 - (b 5 + i - (b 5 + i) / 60 * 60)).toNat ≤ k + 1
            · rw [if_pos w5]
              have := ih (k + 1 - (60 - (b 5 + i - (b 5 + i) / 60 * 60)).toNat) (i + ((60 - (b 5 + i - (b 5 + i) / 60 * 60)).toNat : Int)) (by omega) (by omega) (by omega) n (by omega)
              rw [← this]
              congr 2
              omega
            · rw [if_neg w5]
              show _ = (if (-1 : Int) = -1 then k80 else k53 (zI (-1)))
              rw [if_pos rfl]
              obtain ⟨n, rfl⟩ : ∃ m, n = m + 1 := ⟨n - 1, by omega⟩
              rw [lp_X11_nextGlare_17]
              simp (disch := first | omega | assumption) only [lt, Option.bind_some, zl, ll, zadd, zsub, zmul, zneg, ladd, lsub, lmul, lneg, zltT, zltF, zleT, zleF, zeqT, zeqF, zidx, ixT, zwide, bIT, bIF, if_true, if_false, ↓reduceIte, Nat.reduceAdd, Int.reduceAdd, Int.reduceMul, Int.reduceSub, Int.reduceNeg, cs_c, cs_o, cs_2, cu_c, cu_o, Int.cast_ofNat_Int, ps_f, ps_g, ps_w, ps_o, ps_2, pu_f, pu_g, pu_w, pu_o, uI_s, uI_o, uI_j, uI_j1, uI_j2, uI_tw, or0, true_or, or_true, false_or, or_false, nar0, nar1]
          have key2 : (glB b (b 5 + i) ↔ x = 1) → (fun i => if i = -1 then k80 else k53 (zI i)) (fstI (fun t => decide (glB b (b 5 + t) ↔ x = 1)) (k + 1) i) = k53 (zI i) := by
            intro hq
            have eq : fstI (fun t => decide (glB b (b 5 + t) ↔ x = 1)) (k + 1) i = i := by simp only [fstI]; exact if_pos (decide_eq_true hq)
            rw [eq]
            exact if_neg (by omega)
          rw [lp_X11_nextGlare_17]
          by_cases w3 : glB b (b 5 + i)
          · rcases w1 with rfl | rfl
            · rw [← key True (fun z => absurd (z.mp w3) (by decide))]
              simp (disch := first | omega | assumption) only [lt, Option.bind_some, zl, ll, zadd, zsub, zmul, zneg, ladd, lsub, lmul, lneg, zltT, zltF, zleT, zleF, zeqT, zeqF, zidx, ixT, zwide, bIT, bIF, if_true, if_false, ↓reduceIte, Nat.reduceAdd, Int.reduceAdd, Int.reduceMul, Int.reduceSub, Int.reduceNeg, cs_c, cs_o, cs_2, cu_c, cu_o, Int.cast_ofNat_Int, ps_f, ps_g, ps_w, ps_o, ps_2, pu_f, pu_g, pu_w, pu_o, uI_s, uI_o, uI_j, uI_j1, uI_j2, uI_tw, or0, true_or, or_true, false_or, or_false, nar0, nar1, q0, q1, q2, q5, q6, q7, q8, q9, q3, q4, qd, qa, qb, qc, qs, hp0, c_isGlaring hL hb.1, zdiv]
            · rw [key2 ⟨fun _ => rfl, fun _ => w3⟩]
              simp (disch := first | omega | assumption) only [lt, Option.bind_some, zl, ll, zadd, zsub, zmul, zneg, ladd, lsub, lmul, lneg, zltT, zltF, zleT, zleF, zeqT, zeqF, zidx, ixT, zwide, bIT, bIF, if_true, if_false, ↓reduceIte, Nat.reduceAdd, Int.reduceAdd, Int.reduceMul, Int.reduceSub, Int.reduceNeg, cs_c, cs_o, cs_2, cu_c, cu_o, Int.cast_ofNat_Int, ps_f, ps_g, ps_w, ps_o, ps_2, pu_f, pu_g, pu_w, pu_o, uI_s, uI_o, uI_j, uI_j1, uI_j2, uI_tw, or0, true_or, or_true, false_or, or_false, nar0, nar1, q0, q1, q2, q5, q6, q7, q8, q9, q3, q4, qd, qa, qb, qc, qs, hp0, c_isGlaring hL hb.1, zdiv]
          · rcases w1 with rfl | rfl
            · rw [key2 ⟨fun z => absurd z w3, fun z => absurd z (by decide)⟩]
              simp (disch := first | omega | assumption) only [lt, Option.bind_some, zl, ll, zadd, zsub, zmul, zneg, ladd, lsub, lmul, lneg, zltT, zltF, zleT, zleF, zeqT, zeqF, zidx, ixT, zwide, bIT, bIF, if_true, if_false, ↓reduceIte, Nat.reduceAdd, Int.reduceAdd, Int.reduceMul, Int.reduceSub, Int.reduceNeg, cs_c, cs_o, cs_2, cu_c, cu_o, Int.cast_ofNat_Int, ps_f, ps_g, ps_w, ps_o, ps_2, pu_f, pu_g, pu_w, pu_o, uI_s, uI_o, uI_j, uI_j1, uI_j2, uI_tw, or0, true_or, or_true, false_or, or_false, nar0, nar1, q0, q1, q2, q5, q6, q7, q8, q9, q3, q4, qd, qa, qb, qc, qs, hp0, c_isGlaring hL hb.1, zdiv]
            · rw [← key True (fun z => w3 (z.mpr rfl))]
              simp (disch := first | omega | assumption) only [lt, Option.bind_some, zl, ll, zadd, zsub, zmul, zneg, ladd, lsub, lmul, lneg, zltT, zltF, zleT, zleF, zeqT, zeqF, zidx, ixT, zwide, bIT, bIF, if_true, if_false, ↓reduceIte, Nat.reduceAdd, Int.reduceAdd, Int.reduceMul, Int.reduceSub, Int.reduceNeg, cs_c, cs_o, cs_2, cu_c, cu_o, Int.cast_ofNat_Int, ps_f, ps_g, ps_w, ps_o, ps_2, pu_f, pu_g, pu_w, pu_o, uI_s, uI_o, uI_j, uI_j1, uI_j2, uI_tw, or0, true_or, or_true, false_or, or_false, nar0, nar1, q0, q1, q2, q5, q6, q7, q8, q9, q3, q4, qd, qa, qb, qc, qs, hp0, c_isGlaring hL hb.1, zdiv]
    have e1 := fun k53 k80 => e1 k53 k80 1441 1441 0 (by omega) (by omega) (by omega) n (by omega)
    have er := fst_r (P := fun t => decide (glB b (b 5 + t) ↔ x = 1)) 1441 0 (by omega)
    generalize fstI (fun t => decide (glB b (b 5 + t) ↔ x = 1)) 1441 0 = v at *
    by_cases w2 : v = -1
    · refine ⟨zI (-1), zI 8, ?_, fun N => ?_⟩
      · rcases w1 with rfl | rfl
        · simp (disch := first | omega | assumption) only [lt, Option.bind_some, zl, ll, zadd, zsub, zmul, zneg, ladd, lsub, lmul, lneg, zltT, zltF, zleT, zleF, zeqT, zeqF, zidx, ixT, zwide, bIT, bIF, if_true, if_false, ↓reduceIte, Nat.reduceAdd, Int.reduceAdd, Int.reduceMul, Int.reduceSub, Int.reduceNeg, cs_c, cs_o, cs_2, cu_c, cu_o, Int.cast_ofNat_Int, ps_f, ps_g, ps_w, ps_o, ps_2, pu_f, pu_g, pu_w, pu_o, uI_s, uI_o, uI_j, uI_j1, uI_j2, uI_tw, or0, true_or, or_true, false_or, or_false, nar0, nar1, f_X11_tell, f_X11_refuse, f_X11_tellIf, f_X11_tellOrNone, f_X11_deny, f_X11_succeed, f_X12_refuse, f_X12_no, hp0, e1, w2]
        · simp (disch := first | omega | assumption) only [lt, Option.bind_some, zl, ll, zadd, zsub, zmul, zneg, ladd, lsub, lmul, lneg, zltT, zltF, zleT, zleF, zeqT, zeqF, zidx, ixT, zwide, bIT, bIF, if_true, if_false, ↓reduceIte, Nat.reduceAdd, Int.reduceAdd, Int.reduceMul, Int.reduceSub, Int.reduceNeg, cs_c, cs_o, cs_2, cu_c, cu_o, Int.cast_ofNat_Int, ps_f, ps_g, ps_w, ps_o, ps_2, pu_f, pu_g, pu_w, pu_o, uI_s, uI_o, uI_j, uI_j1, uI_j2, uI_tw, or0, true_or, or_true, false_or, or_false, nar0, nar1, f_X11_tell, f_X11_refuse, f_X11_tellIf, f_X11_tellOrNone, f_X11_deny, f_X11_succeed, f_X12_refuse, f_X12_no, hp0, e1, w2]
      · rcases w1 with rfl | rfl
        · simp (disch := first | omega | assumption) only [lt, Option.bind_some, zl, ll, zadd, zsub, zmul, zneg, ladd, lsub, lmul, lneg, zltT, zltF, zleT, zleF, zeqT, zeqF, zidx, ixT, zwide, bIT, bIF, if_true, if_false, ↓reduceIte, Nat.reduceAdd, Int.reduceAdd, Int.reduceMul, Int.reduceSub, Int.reduceNeg, cs_c, cs_o, cs_2, cu_c, cu_o, Int.cast_ofNat_Int, ps_f, ps_g, ps_w, ps_o, ps_2, pu_f, pu_g, pu_w, pu_o, uI_s, uI_o, uI_j, uI_j1, uI_j2, uI_tw, or0, true_or, or_true, false_or, or_false, nar0, nar1, f_X11_tell, f_X11_refuse, f_X11_tellIf, f_X11_tellOrNone, f_X11_deny, f_X11_succeed, f_X12_refuse, f_X12_no, hp0, m_isPlaceAt, m_isRoadAt, m_isPerson, m_isIn, e2, w2]
        · simp (disch := first | omega | assumption) only [lt, Option.bind_some, zl, ll, zadd, zsub, zmul, zneg, ladd, lsub, lmul, lneg, zltT, zltF, zleT, zleF, zeqT, zeqF, zidx, ixT, zwide, bIT, bIF, if_true, if_false, ↓reduceIte, Nat.reduceAdd, Int.reduceAdd, Int.reduceMul, Int.reduceSub, Int.reduceNeg, cs_c, cs_o, cs_2, cu_c, cu_o, Int.cast_ofNat_Int, ps_f, ps_g, ps_w, ps_o, ps_2, pu_f, pu_g, pu_w, pu_o, uI_s, uI_o, uI_j, uI_j1, uI_j2, uI_tw, or0, true_or, or_true, false_or, or_false, nar0, nar1, f_X11_tell, f_X11_refuse, f_X11_tellIf, f_X11_tellOrNone, f_X11_deny, f_X11_succeed, f_X12_refuse, f_X12_no, hp0, m_isPlaceAt, m_isRoadAt, m_isPerson, m_isIn, e2, w2]
    · refine ⟨zI v, zI 0, ?_, fun N => ?_⟩
      · rcases w1 with rfl | rfl
        · simp (disch := first | omega | assumption) only [lt, Option.bind_some, zl, ll, zadd, zsub, zmul, zneg, ladd, lsub, lmul, lneg, zltT, zltF, zleT, zleF, zeqT, zeqF, zidx, ixT, zwide, bIT, bIF, if_true, if_false, ↓reduceIte, Nat.reduceAdd, Int.reduceAdd, Int.reduceMul, Int.reduceSub, Int.reduceNeg, cs_c, cs_o, cs_2, cu_c, cu_o, Int.cast_ofNat_Int, ps_f, ps_g, ps_w, ps_o, ps_2, pu_f, pu_g, pu_w, pu_o, uI_s, uI_o, uI_j, uI_j1, uI_j2, uI_tw, or0, true_or, or_true, false_or, or_false, nar0, nar1, f_X11_tell, f_X11_refuse, f_X11_tellIf, f_X11_tellOrNone, f_X11_deny, f_X11_succeed, f_X12_refuse, f_X12_no, hp0, e1, if_neg w2]
        · simp (disch := first | omega | assumption) only [lt, Option.bind_some, zl, ll, zadd, zsub, zmul, zneg, ladd, lsub, lmul, lneg, zltT, zltF, zleT, zleF, zeqT, zeqF, zidx, ixT, zwide, bIT, bIF, if_true, if_false, ↓reduceIte, Nat.reduceAdd, Int.reduceAdd, Int.reduceMul, Int.reduceSub, Int.reduceNeg, cs_c, cs_o, cs_2, cu_c, cu_o, Int.cast_ofNat_Int, ps_f, ps_g, ps_w, ps_o, ps_2, pu_f, pu_g, pu_w, pu_o, uI_s, uI_o, uI_j, uI_j1, uI_j2, uI_tw, or0, true_or, or_true, false_or, or_false, nar0, nar1, f_X11_tell, f_X11_refuse, f_X11_tellIf, f_X11_tellOrNone, f_X11_deny, f_X11_succeed, f_X12_refuse, f_X12_no, hp0, e1, if_neg w2]
      · rcases w1 with rfl | rfl
        · simp (disch := first | omega | assumption) only [lt, Option.bind_some, zl, ll, zadd, zsub, zmul, zneg, ladd, lsub, lmul, lneg, zltT, zltF, zleT, zleF, zeqT, zeqF, zidx, ixT, zwide, bIT, bIF, if_true, if_false, ↓reduceIte, Nat.reduceAdd, Int.reduceAdd, Int.reduceMul, Int.reduceSub, Int.reduceNeg, cs_c, cs_o, cs_2, cu_c, cu_o, Int.cast_ofNat_Int, ps_f, ps_g, ps_w, ps_o, ps_2, pu_f, pu_g, pu_w, pu_o, uI_s, uI_o, uI_j, uI_j1, uI_j2, uI_tw, or0, true_or, or_true, false_or, or_false, nar0, nar1, f_X11_tell, f_X11_refuse, f_X11_tellIf, f_X11_tellOrNone, f_X11_deny, f_X11_succeed, f_X12_refuse, f_X12_no, hp0, m_isPlaceAt, m_isRoadAt, m_isPerson, m_isIn, e2, if_neg w2]
        · simp (disch := first | omega | assumption) only [lt, Option.bind_some, zl, ll, zadd, zsub, zmul, zneg, ladd, lsub, lmul, lneg, zltT, zltF, zleT, zleF, zeqT, zeqF, zidx, ixT, zwide, bIT, bIF, if_true, if_false, ↓reduceIte, Nat.reduceAdd, Int.reduceAdd, Int.reduceMul, Int.reduceSub, Int.reduceNeg, cs_c, cs_o, cs_2, cu_c, cu_o, Int.cast_ofNat_Int, ps_f, ps_g, ps_w, ps_o, ps_2, pu_f, pu_g, pu_w, pu_o, uI_s, uI_o, uI_j, uI_j1, uI_j2, uI_tw, or0, true_or, or_true, false_or, or_false, nar0, nar1, f_X11_tell, f_X11_refuse, f_X11_tellIf, f_X11_tellOrNone, f_X11_deny, f_X11_succeed, f_X12_refuse, f_X12_no, hp0, m_isPlaceAt, m_isRoadAt, m_isPerson, m_isIn, e2, if_neg w2]
  · refine ⟨zI (-1), zI 5, ?_, fun N => ?_⟩
    · simp (disch := first | omega | assumption) only [lt, Option.bind_some, zl, ll, zadd, zsub, zmul, zneg, ladd, lsub, lmul, lneg, zltT, zltF, zleT, zleF, zeqT, zeqF, zidx, ixT, zwide, bIT, bIF, if_true, if_false, ↓reduceIte, Nat.reduceAdd, Int.reduceAdd, Int.reduceMul, Int.reduceSub, Int.reduceNeg, cs_c, cs_o, cs_2, cu_c, cu_o, Int.cast_ofNat_Int, ps_f, ps_g, ps_w, ps_o, ps_2, pu_f, pu_g, pu_w, pu_o, uI_s, uI_o, uI_j, uI_j1, uI_j2, uI_tw, or0, true_or, or_true, false_or, or_false, nar0, nar1, f_X11_tell, f_X11_refuse, f_X11_tellIf, f_X11_tellOrNone, f_X11_deny, f_X11_succeed, f_X12_refuse, f_X12_no, hp0]
    · simp (disch := first | omega | assumption) only [lt, Option.bind_some, zl, ll, zadd, zsub, zmul, zneg, ladd, lsub, lmul, lneg, zltT, zltF, zleT, zleF, zeqT, zeqF, zidx, ixT, zwide, bIT, bIF, if_true, if_false, ↓reduceIte, Nat.reduceAdd, Int.reduceAdd, Int.reduceMul, Int.reduceSub, Int.reduceNeg, cs_c, cs_o, cs_2, cu_c, cu_o, Int.cast_ofNat_Int, ps_f, ps_g, ps_w, ps_o, ps_2, pu_f, pu_g, pu_w, pu_o, uI_s, uI_o, uI_j, uI_j1, uI_j2, uI_tw, or0, true_or, or_true, false_or, or_false, nar0, nar1, f_X11_tell, f_X11_refuse, f_X11_tellIf, f_X11_tellOrNone, f_X11_deny, f_X11_succeed, f_X12_refuse, f_X12_no, hp0, m_isPlaceAt, m_isRoadAt, m_isPerson, m_isIn]
