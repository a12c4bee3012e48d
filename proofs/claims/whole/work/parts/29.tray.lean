/-! ===== copyPlaces ===== -/
theorem k_copyPlaces (p : Int32) (n : Nat) (hn : 100 ≤ n) : OKm (f_X11_copyPlaces n 0 p) (f_X12_copyPlaces n 227 p) := by
  obtain ⟨x, hx1, hx2, rfl⟩ := z_ex p
  refine ok_cr (fun M L g b hO => ?_)
  have hO2 := hO
  have hq := Ptr_P hO.1
  obtain ⟨hP, hL, hg, hb, hm, hC⟩ := hO; have hp0 : M.2.2 0 10 = L := hP.1; have hl := Ptr_L hP; have hT := TR_at hl hC; have hM := (HL_cs hl.2).mp hL
  obtain ⟨q0, q1, q2, -, -, -, -, -, -, -, -, -, -, -, -⟩ := hM
  have hh := hb.1
  unfold WH at hh
  have hi : 0 ≤ b 2 ∧ b 2 ≤ 8 ∧ b 0 ≤ 8 := by omega
  clear hh
  obtain ⟨m, m1, m2, m3, m4, m5⟩ := TR_m hT x
  by_cases w : 0 ≤ x ∧ x < 4
  · have m3 := m3 w.1 w.2
    have m4 := m4 w.1 w.2
    obtain ⟨s, s1, s2, s3, s4, s5⟩ := m5 w.1 w.2
    by_cases w2 : m < 0
    · refine cr_no (c := f_X11_copyPlaces n 0 (zI x)) (m := f_X12_copyPlaces n 227 (zI x)) hO2 (r := zI (-1)) (s := zI 3) ?_ ?_
      · unfold f_X11_copyPlaces f_X10_isMissing
        simp (disch := first | omega | assumption) only [↓lt, Option.bind_some, zl, ll, zadd, zsub, zmul, zneg, ladd, lsub, lmul, lneg, zltT, zltF, zleT, zleF, zeqT, zeqF, zidx, ixT, zwide, bIT, bIF, if_true, if_false, ↓reduceIte, Nat.reduceAdd, Int.reduceAdd, Int.reduceMul, Int.reduceSub, Int.reduceNeg, cs_c, cs_o, cs_2, cu_c, cu_o, Int.cast_ofNat_Int, ps_f, ps_g, ps_w, ps_o, ps_2, pu_f, pu_g, pu_w, pu_o, uI_s, uI_o, uI_j, uI_j1, uI_j2, uI_tw, or0, true_or, or_true, false_or, or_false, nar0, nar1, f_X11_tell, f_X11_refuse, f_X11_tellIf, f_X11_tellOrNone, f_X11_deny, f_X11_succeed, f_X12_refuse, f_X12_no, hp0, c_isTray, m3]
      · unfold f_X12_copyPlaces
        simp (disch := first | omega | assumption) only [↓lt, Option.bind_some, zl, ll, zadd, zsub, zmul, zneg, ladd, lsub, lmul, lneg, zltT, zltF, zleT, zleF, zeqT, zeqF, zidx, ixT, zwide, bIT, bIF, if_true, if_false, ↓reduceIte, Nat.reduceAdd, Int.reduceAdd, Int.reduceMul, Int.reduceSub, Int.reduceNeg, cs_c, cs_o, cs_2, cu_c, cu_o, Int.cast_ofNat_Int, ps_f, ps_g, ps_w, ps_o, ps_2, pu_f, pu_g, pu_w, pu_o, uI_s, uI_o, uI_j, uI_j1, uI_j2, uI_tw, or0, true_or, or_true, false_or, or_false, nar0, nar1, f_X11_tell, f_X11_refuse, f_X11_tellIf, f_X11_tellOrNone, f_X11_deny, f_X11_succeed, f_X12_refuse, f_X12_no, hp0, m_isTray, m_isIn, m4]
    · by_cases w3 : b 2 ≤ m
      · have hat : ∀ i, 0 ≤ i → i < b 2 → -1 ≤ g i 0 5 ∧ g i 0 5 < 8 ∧ (0 ≤ b (66 + i) → g i 0 5 = -1) ∧ (b (66 + i) < 0 → g i 0 5 = b (58 + i)) ∧ -1 ≤ b (66 + i) ∧ b (66 + i) < 8 := fun i u v => by
          have e := hg.1 i u v
          have e2 := WPb hb u v
          unfold GP at e
          omega
        clear hg hb hL hm
        refine ⟨zI (b 2), uI (fI (fun i W => uJ W (0 + 1 + 104 + 2 * x.toNat + 1) (0 + i).toNat (lI (g i 0 5))) (b 2).toNat 0 M) 0 15 (zI 0), fI (fun i W => uJ W 230 (60 * x + i).toNat (lI (g i 0 5))) (b 2).toNat 0 (uI (uI (uI (fI (fun i W => uJ W (0 + 1 + 104 + 2 * x.toNat + 1) (0 + i).toNat (lI (g i 0 5))) (b 2).toNat 0 M) 0 15 (zI 0)) 227 1 (zI 0)) 227 0 (zI 0)), ?_, ?_, ?_, ?_, ?_, ?_⟩
        · have e : ∀ k, lp_X11_copyPlaces_55 n 0 (0 + 1 + 104 + 2 * x.toNat) (zI 0) (ps (cs M b) L g) k = k (ps (cs (fI (fun i W => uJ W (0 + 1 + 104 + 2 * x.toNat + 1) (0 + i).toNat (lI (g i 0 5))) (b 2).toNat 0 M) b) L g) := fun k => (loop_f (lp := fun n i W => lp_X11_copyPlaces_55 n 0 (0 + 1 + 104 + 2 * x.toNat) i (ps (cs W b) L g) k) (f := fun i W => uJ W (0 + 1 + 104 + 2 * x.toNat + 1) (0 + i).toNat (lI (g i 0 5))) (fin := fun W => k (ps (cs W b) L g)) (fun _ W => W.1 = M.1 ∧ W.2.2 = M.2.2) (N := 0) (R := b 2) (fun n i W _ h1 h2 hv => ⟨by
            have e := hat i h1 h2
            have ec : f_X10_cut (0 + 1 + 104 + 2 * x.toNat) (lI (g i 0 5)) (ps (cs W b) L g) = lI (g i 0 5) := cut_small (by rw [ps_o (by omega), cs_o (by omega), hv.1]; exact s3) s1 s2 e.1 e.2.1
            have hp0' : W.2.2 0 10 = L := by rw [hv.2]; exact hp0
            have q2' : W.1 L 10 = zI (b 2) := by rw [hv.1]; exact q2
            have m3' : W.1 (0 + 1 + 104 + 2 * x.toNat) 2 = zI m := by rw [hv.1]; exact m3
            rw [lp_X11_copyPlaces_55]
            unfold f_X10_put
            simp (disch := first | omega | assumption) only [↓lt, Option.bind_some, zl, ll, zadd, zsub, zmul, zneg, ladd, lsub, lmul, lneg, zltT, zltF, zleT, zleF, zeqT, zeqF, zidx, ixT, zwide, bIT, bIF, if_true, if_false, ↓reduceIte, Nat.reduceAdd, Int.reduceAdd, Int.reduceMul, Int.reduceSub, Int.reduceNeg, cs_c, cs_o, cs_2, cu_c, cu_o, Int.cast_ofNat_Int, ps_f, ps_g, ps_w, ps_o, ps_2, pu_f, pu_g, pu_w, pu_o, uI_s, uI_o, uI_j, uI_j1, uI_j2, uI_tw, or0, true_or, or_true, false_or, or_false, nar0, nar1, psJ, csJ, uJ_i, uJ_r, uJ_s, uJ_o, hp0', q2', m3', ec, Int.zero_add], ⟨hv.1, hv.2⟩⟩) (fun n W _ hv => by
            have hp0' : W.2.2 0 10 = L := by rw [hv.2]; exact hp0
            have q2' : W.1 L 10 = zI (b 2) := by rw [hv.1]; exact q2
            rw [lp_X11_copyPlaces_55]
            simp (disch := first | omega | assumption) only [↓lt, Option.bind_some, zl, ll, zadd, zsub, zmul, zneg, ladd, lsub, lmul, lneg, zltT, zltF, zleT, zleF, zeqT, zeqF, zidx, ixT, zwide, bIT, bIF, if_true, if_false, ↓reduceIte, Nat.reduceAdd, Int.reduceAdd, Int.reduceMul, Int.reduceSub, Int.reduceNeg, cs_c, cs_o, cs_2, cu_c, cu_o, Int.cast_ofNat_Int, ps_f, ps_g, ps_w, ps_o, ps_2, pu_f, pu_g, pu_w, pu_o, uI_s, uI_o, uI_j, uI_j1, uI_j2, uI_tw, or0, true_or, or_true, false_or, or_false, nar0, nar1, hp0', q2']) (b 2).toNat 0 M n (by omega) (by omega) (by omega) ⟨rfl, rfl⟩).1
          have hF := fI_J (a := 0 + 1 + 104 + 2 * x.toNat + 1) (o := 0) (F := fun i => lI (g i 0 5)) (by omega) (b 2).toNat 0 M (by omega)
          unfold f_X11_copyPlaces f_X10_isMissing
          have q2' : (fI (fun i W => uJ W (0 + 1 + 104 + 2 * x.toNat + 1) (0 + i).toNat (lI (g i 0 5))) (b 2).toNat 0 M).1 L 10 = zI (b 2) := by rw [hF]; exact q2
          have hp0' : (fI (fun i W => uJ W (0 + 1 + 104 + 2 * x.toNat + 1) (0 + i).toNat (lI (g i 0 5))) (b 2).toNat 0 M).2.2 0 10 = L := by rw [hF]; exact hp0
          simp (disch := first | omega | assumption) only [↓lt, Option.bind_some, zl, zneg, c_isTray, bIT, zeqF, zleT, if_false, if_true, ↓reduceIte, ixT, zidx, ps_o, cs_o, ps_2, cs_2, cu_o, pu_o, m3, q2, e, f_X11_tell, hp0, hp0', q2']
        · have e := fun W0 => (loop_f (lp := fun n i W => lp_X12_copyPlaces_62 n 227 (zI x) i (cs (ps W L g) b)) (f := fun i W => uJ W 230 (60 * x + i).toNat (lI (g i 0 5))) (fin := fun W => some (zI (b 2), cs (ps W L g) b)) (fun _ _ => True) (N := 0) (R := b 2) (fun n i W _ h1 h2 _ => ⟨by
            obtain ⟨a1, a2, a3, a4, a5, a6⟩ := hat i h1 h2
            rw [lp_X12_copyPlaces_62]
            by_cases w4 : 0 ≤ b (66 + i)
            · have a3 := a3 w4
              clear a4
              simp (disch := first | omega | assumption) only [↓lt, Option.bind_some, zl, ll, zadd, zsub, zmul, zneg, ladd, lsub, lmul, lneg, zltT, zltF, zleT, zleF, zeqT, zeqF, zidx, ixT, zwide, bIT, bIF, if_true, if_false, ↓reduceIte, Nat.reduceAdd, Int.reduceAdd, Int.reduceMul, Int.reduceSub, Int.reduceNeg, cs_c, cs_o, cs_2, cu_c, cu_o, Int.cast_ofNat_Int, ps_f, ps_g, ps_w, ps_o, ps_2, pu_f, pu_g, pu_w, pu_o, uI_s, uI_o, uI_j, uI_j1, uI_j2, uI_tw, or0, true_or, or_true, false_or, or_false, nar0, nar1, psJ, csJ, uJ_i, uJ_r, uJ_s, uJ_o, m_isGoing, a3]
            · have a4 := a4 (by omega)
              clear a3
              simp (disch := first | omega | assumption) only [↓lt, Option.bind_some, zl, ll, zadd, zsub, zmul, zneg, ladd, lsub, lmul, lneg, zltT, zltF, zleT, zleF, zeqT, zeqF, zidx, ixT, zwide, bIT, bIF, if_true, if_false, ↓reduceIte, Nat.reduceAdd, Int.reduceAdd, Int.reduceMul, Int.reduceSub, Int.reduceNeg, cs_c, cs_o, cs_2, cu_c, cu_o, Int.cast_ofNat_Int, ps_f, ps_g, ps_w, ps_o, ps_2, pu_f, pu_g, pu_w, pu_o, uI_s, uI_o, uI_j, uI_j1, uI_j2, uI_tw, or0, true_or, or_true, false_or, or_false, nar0, nar1, psJ, csJ, uJ_i, uJ_r, uJ_s, uJ_o, m_isGoing, ← a4], trivial⟩) (fun n W _ _ => by
            rw [lp_X12_copyPlaces_62]
            simp (disch := first | omega | assumption) only [↓lt, Option.bind_some, zl, ll, zadd, zsub, zmul, zneg, ladd, lsub, lmul, lneg, zltT, zltF, zleT, zleF, zeqT, zeqF, zidx, ixT, zwide, bIT, bIF, if_true, if_false, ↓reduceIte, Nat.reduceAdd, Int.reduceAdd, Int.reduceMul, Int.reduceSub, Int.reduceNeg, cs_c, cs_o, cs_2, cu_c, cu_o, Int.cast_ofNat_Int, ps_f, ps_g, ps_w, ps_o, ps_2, pu_f, pu_g, pu_w, pu_o, uI_s, uI_o, uI_j, uI_j1, uI_j2, uI_tw, or0, true_or, or_true, false_or, or_false, nar0, nar1]) (b 2).toNat 0 W0 n (by omega) (by omega) (by omega) trivial).1
          have hF := fI_J (a := 0 + 1 + 104 + 2 * x.toNat + 1) (o := 0) (F := fun i => lI (g i 0 5)) (by omega) (b 2).toNat 0 M (by omega)
          have m4' : (fI (fun i W => uJ W (0 + 1 + 104 + 2 * x.toNat + 1) (0 + i).toNat (lI (g i 0 5))) (b 2).toNat 0 M).1 229 x.toNat = zI m := by rw [hF]; exact m4
          unfold f_X12_copyPlaces
          simp (disch := first | omega | assumption) only [↓lt, Option.bind_some, zl, m_isTray, bIT, zeqF, zleT, if_false, if_true, ↓reduceIte, ixT, zidx, cs_c, ps_o, cs_o, cu_o, pu_o, uI_o, m4', Nat.reduceAdd, e]
        · rw [fI_J (F := fun i => lI (g i 0 5)) (by omega) _ _ _ (by omega), fI_J (F := fun i => lI (g i 0 5)) (by omega) _ _ _ (by omega)]
          dsimp only
          rw [uI_o (by omega), uI_o (by omega), uI_s, uI_s]
        · rw [fI_J (F := fun i => lI (g i 0 5)) (by omega) _ _ _ (by omega), fI_J (F := fun i => lI (g i 0 5)) (by omega) _ _ _ (by omega)]
          rfl
        · intro a k h1 h2
          rw [fI_J (F := fun i => lI (g i 0 5)) (by omega) _ _ _ (by omega), fI_J (F := fun i => lI (g i 0 5)) (by omega) _ _ _ (by omega)]
          dsimp only
          rw [uI_o (by omega), uI_o (by omega), uI_o (by omega)]
        · refine CR_tr hO2 (fun a k h1 h2 h3 h4 h5 => ?_) (fun a k h1 h2 => ?_) ?_ (fun t h1 h2 => ?_)
          · rw [fI_J (F := fun i => lI (g i 0 5)) (by omega) _ _ _ (by omega), fI_J (F := fun i => lI (g i 0 5)) (by omega) _ _ _ (by omega)]
            dsimp only
            rw [uI_o (by omega), uI_o (by omega), uI_o (by omega)]
          · rw [fI_J (F := fun i => lI (g i 0 5)) (by omega) _ _ _ (by omega), fI_J (F := fun i => lI (g i 0 5)) (by omega) _ _ _ (by omega)]
            show (if _ then _ else if _ then _ else M.2.1 a k) = _
            rw [if_neg (by omega), if_neg (by omega)]
          · rw [fI_J (F := fun i => lI (g i 0 5)) (by omega) _ _ _ (by omega), fI_J (F := fun i => lI (g i 0 5)) (by omega) _ _ _ (by omega)]
            rfl
          · rw [fI_J (F := fun i => lI (g i 0 5)) (by omega) _ _ _ (by omega), fI_J (F := fun i => lI (g i 0 5)) (by omega) _ _ _ (by omega)]
            obtain ⟨s', m', c1, c2, c3, c4, c5, c6, c7, c8, c9⟩ := hT t h1 h2
            refine ⟨s', m', c1, c2, c3, c4, ?_, ?_, ?_, ?_, fun k h3 h4 => ?_⟩
            · dsimp only
              rw [uI_o (by omega), uI_o (by omega), uI_o (by omega)]; exact c5
            · dsimp only
              rw [uI_o (by omega), uI_o (by omega), uI_o (by omega)]; exact c6
            · dsimp only
              rw [uI_o (by omega), uI_o (by omega), uI_o (by omega)]; exact c7
            · dsimp only
              rw [uI_o (by omega), uI_o (by omega), uI_o (by omega)]; exact c8
            · show (if _ then _ else if _ then _ else M.2.1 _ _) = (if _ then _ else if _ then _ else M.2.1 _ _)
              by_cases w4 : t = x ∧ k < b 2
              · rw [if_neg (by omega), if_pos (by omega), if_pos (by omega)]
                congr 2
                omega
              · rw [if_neg (by omega), if_neg (by omega), if_neg (by omega), if_neg (by omega)]
                exact c9 k h3 h4
      · refine cr_no (c := f_X11_copyPlaces n 0 (zI x)) (m := f_X12_copyPlaces n 227 (zI x)) hO2 (r := zI (-1)) (s := zI 4) ?_ ?_
        · unfold f_X11_copyPlaces f_X10_isMissing
          simp (disch := first | omega | assumption) only [↓lt, Option.bind_some, zl, ll, zadd, zsub, zmul, zneg, ladd, lsub, lmul, lneg, zltT, zltF, zleT, zleF, zeqT, zeqF, zidx, ixT, zwide, bIT, bIF, if_true, if_false, ↓reduceIte, Nat.reduceAdd, Int.reduceAdd, Int.reduceMul, Int.reduceSub, Int.reduceNeg, cs_c, cs_o, cs_2, cu_c, cu_o, Int.cast_ofNat_Int, ps_f, ps_g, ps_w, ps_o, ps_2, pu_f, pu_g, pu_w, pu_o, uI_s, uI_o, uI_j, uI_j1, uI_j2, uI_tw, or0, true_or, or_true, false_or, or_false, nar0, nar1, f_X11_tell, f_X11_refuse, f_X11_tellIf, f_X11_tellOrNone, f_X11_deny, f_X11_succeed, f_X12_refuse, f_X12_no, hp0, c_isTray, m3, q2]
        · unfold f_X12_copyPlaces
          simp (disch := first | omega | assumption) only [↓lt, Option.bind_some, zl, ll, zadd, zsub, zmul, zneg, ladd, lsub, lmul, lneg, zltT, zltF, zleT, zleF, zeqT, zeqF, zidx, ixT, zwide, bIT, bIF, if_true, if_false, ↓reduceIte, Nat.reduceAdd, Int.reduceAdd, Int.reduceMul, Int.reduceSub, Int.reduceNeg, cs_c, cs_o, cs_2, cu_c, cu_o, Int.cast_ofNat_Int, ps_f, ps_g, ps_w, ps_o, ps_2, pu_f, pu_g, pu_w, pu_o, uI_s, uI_o, uI_j, uI_j1, uI_j2, uI_tw, or0, true_or, or_true, false_or, or_false, nar0, nar1, f_X11_tell, f_X11_refuse, f_X11_tellIf, f_X11_tellOrNone, f_X11_deny, f_X11_succeed, f_X12_refuse, f_X12_no, hp0, m_isTray, m_isIn, m4]
  · refine cr_no (c := f_X11_copyPlaces n 0 (zI x)) (m := f_X12_copyPlaces n 227 (zI x)) hO2 (r := zI (-1)) (s := zI 1) ?_ ?_
    · unfold f_X11_copyPlaces
      simp (disch := first | omega | assumption) only [↓lt, Option.bind_some, zl, ll, zadd, zsub, zmul, zneg, ladd, lsub, lmul, lneg, zltT, zltF, zleT, zleF, zeqT, zeqF, zidx, ixT, zwide, bIT, bIF, if_true, if_false, ↓reduceIte, Nat.reduceAdd, Int.reduceAdd, Int.reduceMul, Int.reduceSub, Int.reduceNeg, cs_c, cs_o, cs_2, cu_c, cu_o, Int.cast_ofNat_Int, ps_f, ps_g, ps_w, ps_o, ps_2, pu_f, pu_g, pu_w, pu_o, uI_s, uI_o, uI_j, uI_j1, uI_j2, uI_tw, or0, true_or, or_true, false_or, or_false, nar0, nar1, f_X11_tell, f_X11_refuse, f_X11_tellIf, f_X11_tellOrNone, f_X11_deny, f_X11_succeed, f_X12_refuse, f_X12_no, hp0, c_isTray]
    · unfold f_X12_copyPlaces
      simp (disch := first | omega | assumption) only [↓lt, Option.bind_some, zl, ll, zadd, zsub, zmul, zneg, ladd, lsub, lmul, lneg, zltT, zltF, zleT, zleF, zeqT, zeqF, zidx, ixT, zwide, bIT, bIF, if_true, if_false, ↓reduceIte, Nat.reduceAdd, Int.reduceAdd, Int.reduceMul, Int.reduceSub, Int.reduceNeg, cs_c, cs_o, cs_2, cu_c, cu_o, Int.cast_ofNat_Int, ps_f, ps_g, ps_w, ps_o, ps_2, pu_f, pu_g, pu_w, pu_o, uI_s, uI_o, uI_j, uI_j1, uI_j2, uI_tw, or0, true_or, or_true, false_or, or_false, nar0, nar1, f_X11_tell, f_X11_refuse, f_X11_tellIf, f_X11_tellOrNone, f_X11_deny, f_X11_succeed, f_X12_refuse, f_X12_no, hp0, m_isTray, m_isIn]
