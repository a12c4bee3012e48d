/-! ===== lead ===== -/
abbrev tmB (b : Int → Int) (x z : Int) : Prop := 1 ≤ z ∧ z < 2 ^ (b 2).toNat ∧ ¬ hasS z x = true ∧ szS z ≤ b 6
theorem c_isTeam {b : Int → Int} {x z : Int} {L : Nat} {M : KM} {g : Int → Int → Int → Int} (hL : HL M L b) (hb : WB b) (h1 : 0 ≤ x) (h2 : x < b 2) (h3 : -2147483648 ≤ z) (h4 : z < 2147483648) : f_X2_isTeam L (zI x) (zI z) (ps M L g) = bI (tmB b x z) := by
  have hh := hb.1
  unfold WH at hh
  obtain ⟨q0, q1, q2, q5, q6, -, -, -, -, -, -, -, -, -, -⟩ := hL
  have hi : 0 ≤ b 2 ∧ b 2 ≤ 8 ∧ 1 ≤ b 6 ∧ b 6 ≤ 9 := by omega
  clear hh hb
  have hp := p2_r (i := b 2) hi.1 (by omega)
  have hsl := sl_1 (i := b 2) hi.1 (by omega)
  unfold f_X2_isTeam
  by_cases w1 : 1 ≤ z
  · by_cases w2 : z < 2 ^ (b 2).toNat
    · have hz := sz_r (s := z) (by omega) (by omega)
      by_cases w3 : hasS z x = true
      · rw [bIF (c := tmB b x z) (fun t => t.2.2.1 w3)]
        simp (disch := first | omega | assumption) only [↓lt, Option.bind_some, zl, ll, zadd, zsub, zmul, zneg, ladd, lsub, lmul, lneg, zltT, zltF, zleT, zleF, zeqT, zeqF, zidx, ixT, zwide, bIT, bIF, if_true, if_false, ↓reduceIte, Nat.reduceAdd, Int.reduceAdd, Int.reduceMul, Int.reduceSub, Int.reduceNeg, cs_c, cs_o, cs_2, cu_c, cu_o, Int.cast_ofNat_Int, ps_f, ps_g, ps_w, ps_o, ps_2, pu_f, pu_g, pu_w, pu_o, uI_s, uI_o, uI_j, uI_j1, uI_j2, uI_tw, or0, true_or, or_true, false_or, or_false, nar0, nar1, q2, q6, hsl, hs_c, w3, not_true_eq_false]
      · have w4 : hasS z x = false := by simpa using w3
        by_cases w5 : szS z ≤ b 6
        · rw [bIT (c := tmB b x z) ⟨w1, w2, w3, w5⟩]
          simp (disch := first | omega | assumption) only [↓lt, Option.bind_some, zl, ll, zadd, zsub, zmul, zneg, ladd, lsub, lmul, lneg, zltT, zltF, zleT, zleF, zeqT, zeqF, zidx, ixT, zwide, bIT, bIF, if_true, if_false, ↓reduceIte, Nat.reduceAdd, Int.reduceAdd, Int.reduceMul, Int.reduceSub, Int.reduceNeg, cs_c, cs_o, cs_2, cu_c, cu_o, Int.cast_ofNat_Int, ps_f, ps_g, ps_w, ps_o, ps_2, pu_f, pu_g, pu_w, pu_o, uI_s, uI_o, uI_j, uI_j1, uI_j2, uI_tw, or0, true_or, or_true, false_or, or_false, nar0, nar1, q2, q6, hsl, hs_c, w4, Bool.false_eq_true, not_false_eq_true, c_bitCount]
        · rw [bIF (c := tmB b x z) (fun t => w5 t.2.2.2)]
          simp (disch := first | omega | assumption) only [↓lt, Option.bind_some, zl, ll, zadd, zsub, zmul, zneg, ladd, lsub, lmul, lneg, zltT, zltF, zleT, zleF, zeqT, zeqF, zidx, ixT, zwide, bIT, bIF, if_true, if_false, ↓reduceIte, Nat.reduceAdd, Int.reduceAdd, Int.reduceMul, Int.reduceSub, Int.reduceNeg, cs_c, cs_o, cs_2, cu_c, cu_o, Int.cast_ofNat_Int, ps_f, ps_g, ps_w, ps_o, ps_2, pu_f, pu_g, pu_w, pu_o, uI_s, uI_o, uI_j, uI_j1, uI_j2, uI_tw, or0, true_or, or_true, false_or, or_false, nar0, nar1, q2, q6, hsl, hs_c, w4, Bool.false_eq_true, not_false_eq_true, c_bitCount]
    · rw [bIF (c := tmB b x z) (fun t => w2 t.2.1)]
      simp (disch := first | omega | assumption) only [↓lt, Option.bind_some, zl, ll, zadd, zsub, zmul, zneg, ladd, lsub, lmul, lneg, zltT, zltF, zleT, zleF, zeqT, zeqF, zidx, ixT, zwide, bIT, bIF, if_true, if_false, ↓reduceIte, Nat.reduceAdd, Int.reduceAdd, Int.reduceMul, Int.reduceSub, Int.reduceNeg, cs_c, cs_o, cs_2, cu_c, cu_o, Int.cast_ofNat_Int, ps_f, ps_g, ps_w, ps_o, ps_2, pu_f, pu_g, pu_w, pu_o, uI_s, uI_o, uI_j, uI_j1, uI_j2, uI_tw, or0, true_or, or_true, false_or, or_false, nar0, nar1, q2, hsl]
  · rw [bIF (c := tmB b x z) (fun t => w1 t.1)]
    simp (disch := first | omega | assumption) only [↓lt, Option.bind_some, zl, ll, zadd, zsub, zmul, zneg, ladd, lsub, lmul, lneg, zltT, zltF, zleT, zleF, zeqT, zeqF, zidx, ixT, zwide, bIT, bIF, if_true, if_false, ↓reduceIte, Nat.reduceAdd, Int.reduceAdd, Int.reduceMul, Int.reduceSub, Int.reduceNeg, cs_c, cs_o, cs_2, cu_c, cu_o, Int.cast_ofNat_Int, ps_f, ps_g, ps_w, ps_o, ps_2, pu_f, pu_g, pu_w, pu_o, uI_s, uI_o, uI_j, uI_j1, uI_j2, uI_tw, or0, true_or, or_true, false_or, or_false, nar0, nar1, q2, hsl]
theorem k_lead (p q s : Int32) (n : Nat) (hn : 100 ≤ n) : OKm (f_X11_lead n 0 p s q) (f_X12_lead n 227 p s q) := by
  obtain ⟨x, hx1, hx2, rfl⟩ := z_ex p
  obtain ⟨y, hy1, hy2, rfl⟩ := z_ex q
  obtain ⟨z, hz1, hz2, rfl⟩ := z_ex s
  refine ok_wr (fun M L g b hO => ?_)
  have hO2 := hO
  obtain ⟨hP, hL, hg, hb, hm, hC⟩ := hO; have hp0 : M.2.2 0 10 = L := hP.1; have hl := Ptr_L hP; have hM := (HL_cs hl.2).mp hL; have hh := hb.1; unfold WH at hh
  have hi : 0 ≤ b 2 ∧ b 2 ≤ 8 ∧ b 0 ≤ 8 ∧ 0 ≤ b 0 ∧ b 1 ≤ 12 ∧ 1 ≤ b 6 ∧ b 6 ≤ 9 := by omega
  clear hh hM
  have hp := p2_r (i := b 2) hi.1 (by omega)
  have hsl := sl_1 (i := b 2) hi.1 (by omega)
  by_cases w1 : 0 ≤ x ∧ x < b 2
  · by_cases w2 : 0 ≤ y ∧ y < b 0
    · by_cases w0 : tmB b x z
      · have w0b := w0.2.1
        have w0c : hasS z x = false := by simpa using w0.2.2.1
        have hsz := w0.2.2.2
        have w0n : ¬ hasS z x = true := w0.2.2.1
        have hsr := sz_r (s := z) (by have := w0.1; omega) (by omega)
        have hz0 : 0 ≤ z ∧ z < 256 := ⟨by have := w0.1; omega, by omega⟩
        have hz1' : 1 ≤ z := w0.1
        by_cases w3 : stOK b x y ∧ awB b x z = -1
        · have hT := ou_T (b := b) (p := x) (s := z) (to := y) hi.1 hi.2.1 w1.1 w1.2 w0c
          have hgr := go_r hb w3.1
          have h74 := (hT.2.2.1 x w1.1 w1.2 (Or.inl rfl)).2.1
          refine wr_p (c := f_X11_lead n 0 (zI x) (zI z) (zI y)) (m := f_X12_lead n 227 (zI x) (zI z) (zI y)) hO2 (r := zI (b (34 + goR b x y))) (g' := ouG b g x z y) (b' := ouB b x z y) ?_ (fun X => ?_) (fun z u v => hT.1 z (by omega)) (fun z u v => hT.1 z (by omega)) (out_GR hb hg w3.1 w3.2 w0c w2.1 w1.1 w1.2) (fun p u v => out_WP hb hT w3.1 w2.1 w2.2 w1.1 w1.2 u v) (fun p r u v i j => ?_) (fun p r u v i j => ?_) (fun p u v => out_WL hb hT w3.1 w3.2 w2.1 w1.1 w1.2 u v)
          · unfold f_X11_lead
            simp (disch := first | omega | assumption) only [↓lt, Option.bind_some, zl, ll, zadd, zsub, zmul, zneg, ladd, lsub, lmul, lneg, zltT, zltF, zleT, zleF, zeqT, zeqF, zidx, ixT, zwide, bIT, bIF, if_true, if_false, ↓reduceIte, Nat.reduceAdd, Int.reduceAdd, Int.reduceMul, Int.reduceSub, Int.reduceNeg, cs_c, cs_o, cs_2, cu_c, cu_o, Int.cast_ofNat_Int, ps_f, ps_g, ps_w, ps_o, ps_2, pu_f, pu_g, pu_w, pu_o, uI_s, uI_o, uI_j, uI_j1, uI_j2, uI_tw, or0, true_or, or_true, false_or, or_false, nar0, nar1, c_hasPlace hL, c_hasRoad hL, c_hasPerson hL, f_X11_tell, f_X11_refuse, f_X11_tellIf, f_X11_tellOrNone, f_X11_deny, f_X11_succeed, f_X12_refuse, f_X12_no, hp0, c_isTeam hL hb, c_setOut_T hL hg hb w1.1 w1.2 hz0.1 hz0.2 w2.1 w2.2 (show 20 < n by omega) w3.1 w3.2]
          · unfold f_X12_lead
            simp (disch := first | omega | assumption) only [↓lt, Option.bind_some, zl, ll, zadd, zsub, zmul, zneg, ladd, lsub, lmul, lneg, zltT, zltF, zleT, zleF, zeqT, zeqF, zidx, ixT, zwide, bIT, bIF, if_true, if_false, ↓reduceIte, Nat.reduceAdd, Int.reduceAdd, Int.reduceMul, Int.reduceSub, Int.reduceNeg, cs_c, cs_o, cs_2, cu_c, cu_o, Int.cast_ofNat_Int, ps_f, ps_g, ps_w, ps_o, ps_2, pu_f, pu_g, pu_w, pu_o, uI_s, uI_o, uI_j, uI_j1, uI_j2, uI_tw, or0, true_or, or_true, false_or, or_false, nar0, nar1, f_X11_tell, f_X11_refuse, f_X11_tellIf, f_X11_tellOrNone, f_X11_deny, f_X11_succeed, f_X12_refuse, f_X12_no, hp0, m_isPlaceAt, m_isRoadAt, m_isPerson, m_isIn, hsl, hs_m, m_sizeOf, m_leads_T hb w1.1 w1.2 hz0.1 hz0.2 w2.1 w2.2 (show 20 < n by omega) w3.1 w3.2 w0c, h74]
          · rw [hT.1 _ (by omega)]
            exact hb.2.2.2.1 p r u v i j
          · rw [hT.1 _ (by omega), hT.1 _ (by omega)]
            exact hb.2.2.2.2.1 p r u v i j
        · refine wr_no (c := f_X11_lead n 0 (zI x) (zI z) (zI y)) (m := f_X12_lead n 227 (zI x) (zI z) (zI y)) hO2 (r := zI (-1)) (s := zI 9) ?_ (fun X => ?_)
          · unfold f_X11_lead
            simp (disch := first | omega | assumption) only [↓lt, Option.bind_some, zl, ll, zadd, zsub, zmul, zneg, ladd, lsub, lmul, lneg, zltT, zltF, zleT, zleF, zeqT, zeqF, zidx, ixT, zwide, bIT, bIF, if_true, if_false, ↓reduceIte, Nat.reduceAdd, Int.reduceAdd, Int.reduceMul, Int.reduceSub, Int.reduceNeg, cs_c, cs_o, cs_2, cu_c, cu_o, Int.cast_ofNat_Int, ps_f, ps_g, ps_w, ps_o, ps_2, pu_f, pu_g, pu_w, pu_o, uI_s, uI_o, uI_j, uI_j1, uI_j2, uI_tw, or0, true_or, or_true, false_or, or_false, nar0, nar1, c_hasPlace hL, c_hasRoad hL, c_hasPerson hL, f_X11_tell, f_X11_refuse, f_X11_tellIf, f_X11_tellOrNone, f_X11_deny, f_X11_succeed, f_X12_refuse, f_X12_no, hp0, c_isTeam hL hb, c_setOut_F hL hg hb w1.1 w1.2 hz0.1 hz0.2 w2.1 w2.2 (show 20 < n by omega) w3]
          · unfold f_X12_lead
            simp (disch := first | omega | assumption) only [↓lt, Option.bind_some, zl, ll, zadd, zsub, zmul, zneg, ladd, lsub, lmul, lneg, zltT, zltF, zleT, zleF, zeqT, zeqF, zidx, ixT, zwide, bIT, bIF, if_true, if_false, ↓reduceIte, Nat.reduceAdd, Int.reduceAdd, Int.reduceMul, Int.reduceSub, Int.reduceNeg, cs_c, cs_o, cs_2, cu_c, cu_o, Int.cast_ofNat_Int, ps_f, ps_g, ps_w, ps_o, ps_2, pu_f, pu_g, pu_w, pu_o, uI_s, uI_o, uI_j, uI_j1, uI_j2, uI_tw, or0, true_or, or_true, false_or, or_false, nar0, nar1, f_X11_tell, f_X11_refuse, f_X11_tellIf, f_X11_tellOrNone, f_X11_deny, f_X11_succeed, f_X12_refuse, f_X12_no, hp0, m_isPlaceAt, m_isRoadAt, m_isPerson, m_isIn, hsl, hs_m, m_sizeOf, m_leads_F hb w1.1 w1.2 hz0.1 hz0.2 w2.1 w2.2 (show 20 < n by omega) w3]
      · refine wr_no (c := f_X11_lead n 0 (zI x) (zI z) (zI y)) (m := f_X12_lead n 227 (zI x) (zI z) (zI y)) hO2 (r := zI (-1)) (s := zI 5) ?_ (fun X => ?_)
        · unfold f_X11_lead
          simp (disch := first | omega | assumption) only [↓lt, Option.bind_some, zl, ll, zadd, zsub, zmul, zneg, ladd, lsub, lmul, lneg, zltT, zltF, zleT, zleF, zeqT, zeqF, zidx, ixT, zwide, bIT, bIF, if_true, if_false, ↓reduceIte, Nat.reduceAdd, Int.reduceAdd, Int.reduceMul, Int.reduceSub, Int.reduceNeg, cs_c, cs_o, cs_2, cu_c, cu_o, Int.cast_ofNat_Int, ps_f, ps_g, ps_w, ps_o, ps_2, pu_f, pu_g, pu_w, pu_o, uI_s, uI_o, uI_j, uI_j1, uI_j2, uI_tw, or0, true_or, or_true, false_or, or_false, nar0, nar1, c_hasPlace hL, c_hasRoad hL, c_hasPerson hL, f_X11_tell, f_X11_refuse, f_X11_tellIf, f_X11_tellOrNone, f_X11_deny, f_X11_succeed, f_X12_refuse, f_X12_no, hp0, c_isTeam hL hb]
        · unfold f_X12_lead
          by_cases v1 : 1 ≤ z ∧ z < 2 ^ (b 2).toNat
          · have hsr := sz_r (s := z) (by omega) (by omega)
            by_cases v2 : hasS z x = true
            · simp (disch := first | omega | assumption) only [↓lt, Option.bind_some, zl, ll, zadd, zsub, zmul, zneg, ladd, lsub, lmul, lneg, zltT, zltF, zleT, zleF, zeqT, zeqF, zidx, ixT, zwide, bIT, bIF, if_true, if_false, ↓reduceIte, Nat.reduceAdd, Int.reduceAdd, Int.reduceMul, Int.reduceSub, Int.reduceNeg, cs_c, cs_o, cs_2, cu_c, cu_o, Int.cast_ofNat_Int, ps_f, ps_g, ps_w, ps_o, ps_2, pu_f, pu_g, pu_w, pu_o, uI_s, uI_o, uI_j, uI_j1, uI_j2, uI_tw, or0, true_or, or_true, false_or, or_false, nar0, nar1, f_X11_tell, f_X11_refuse, f_X11_tellIf, f_X11_tellOrNone, f_X11_deny, f_X11_succeed, f_X12_refuse, f_X12_no, hp0, m_isPlaceAt, m_isRoadAt, m_isPerson, m_isIn, hsl, hs_m]
            · have v3 : hasS z x = false := by simpa using v2
              have v4 : ¬ szS z ≤ b 6 := fun t => w0 ⟨v1.1, v1.2, v2, t⟩
              simp (disch := first | omega | assumption) only [↓lt, Option.bind_some, zl, ll, zadd, zsub, zmul, zneg, ladd, lsub, lmul, lneg, zltT, zltF, zleT, zleF, zeqT, zeqF, zidx, ixT, zwide, bIT, bIF, if_true, if_false, ↓reduceIte, Nat.reduceAdd, Int.reduceAdd, Int.reduceMul, Int.reduceSub, Int.reduceNeg, cs_c, cs_o, cs_2, cu_c, cu_o, Int.cast_ofNat_Int, ps_f, ps_g, ps_w, ps_o, ps_2, pu_f, pu_g, pu_w, pu_o, uI_s, uI_o, uI_j, uI_j1, uI_j2, uI_tw, or0, true_or, or_true, false_or, or_false, nar0, nar1, f_X11_tell, f_X11_refuse, f_X11_tellIf, f_X11_tellOrNone, f_X11_deny, f_X11_succeed, f_X12_refuse, f_X12_no, hp0, m_isPlaceAt, m_isRoadAt, m_isPerson, m_isIn, hsl, hs_m, m_sizeOf]
          · simp (disch := first | omega | assumption) only [↓lt, Option.bind_some, zl, ll, zadd, zsub, zmul, zneg, ladd, lsub, lmul, lneg, zltT, zltF, zleT, zleF, zeqT, zeqF, zidx, ixT, zwide, bIT, bIF, if_true, if_false, ↓reduceIte, Nat.reduceAdd, Int.reduceAdd, Int.reduceMul, Int.reduceSub, Int.reduceNeg, cs_c, cs_o, cs_2, cu_c, cu_o, Int.cast_ofNat_Int, ps_f, ps_g, ps_w, ps_o, ps_2, pu_f, pu_g, pu_w, pu_o, uI_s, uI_o, uI_j, uI_j1, uI_j2, uI_tw, or0, true_or, or_true, false_or, or_false, nar0, nar1, f_X11_tell, f_X11_refuse, f_X11_tellIf, f_X11_tellOrNone, f_X11_deny, f_X11_succeed, f_X12_refuse, f_X12_no, hp0, m_isPlaceAt, m_isRoadAt, m_isPerson, m_isIn, hsl]
    · refine wr_no (c := f_X11_lead n 0 (zI x) (zI z) (zI y)) (m := f_X12_lead n 227 (zI x) (zI z) (zI y)) hO2 (r := zI (-1)) (s := zI 2) ?_ (fun X => ?_)
      · unfold f_X11_lead
        simp (disch := first | omega | assumption) only [↓lt, Option.bind_some, zl, ll, zadd, zsub, zmul, zneg, ladd, lsub, lmul, lneg, zltT, zltF, zleT, zleF, zeqT, zeqF, zidx, ixT, zwide, bIT, bIF, if_true, if_false, ↓reduceIte, Nat.reduceAdd, Int.reduceAdd, Int.reduceMul, Int.reduceSub, Int.reduceNeg, cs_c, cs_o, cs_2, cu_c, cu_o, Int.cast_ofNat_Int, ps_f, ps_g, ps_w, ps_o, ps_2, pu_f, pu_g, pu_w, pu_o, uI_s, uI_o, uI_j, uI_j1, uI_j2, uI_tw, or0, true_or, or_true, false_or, or_false, nar0, nar1, c_hasPlace hL, c_hasRoad hL, c_hasPerson hL, f_X11_tell, f_X11_refuse, f_X11_tellIf, f_X11_tellOrNone, f_X11_deny, f_X11_succeed, f_X12_refuse, f_X12_no, hp0]
      · unfold f_X12_lead
        simp (disch := first | omega | assumption) only [↓lt, Option.bind_some, zl, ll, zadd, zsub, zmul, zneg, ladd, lsub, lmul, lneg, zltT, zltF, zleT, zleF, zeqT, zeqF, zidx, ixT, zwide, bIT, bIF, if_true, if_false, ↓reduceIte, Nat.reduceAdd, Int.reduceAdd, Int.reduceMul, Int.reduceSub, Int.reduceNeg, cs_c, cs_o, cs_2, cu_c, cu_o, Int.cast_ofNat_Int, ps_f, ps_g, ps_w, ps_o, ps_2, pu_f, pu_g, pu_w, pu_o, uI_s, uI_o, uI_j, uI_j1, uI_j2, uI_tw, or0, true_or, or_true, false_or, or_false, nar0, nar1, f_X11_tell, f_X11_refuse, f_X11_tellIf, f_X11_tellOrNone, f_X11_deny, f_X11_succeed, f_X12_refuse, f_X12_no, hp0, m_isPlaceAt, m_isRoadAt, m_isPerson, m_isIn]
  · refine wr_no (c := f_X11_lead n 0 (zI x) (zI z) (zI y)) (m := f_X12_lead n 227 (zI x) (zI z) (zI y)) hO2 (r := zI (-1)) (s := zI 2) ?_ (fun X => ?_)
    · unfold f_X11_lead
      simp (disch := first | omega | assumption) only [↓lt, Option.bind_some, zl, ll, zadd, zsub, zmul, zneg, ladd, lsub, lmul, lneg, zltT, zltF, zleT, zleF, zeqT, zeqF, zidx, ixT, zwide, bIT, bIF, if_true, if_false, ↓reduceIte, Nat.reduceAdd, Int.reduceAdd, Int.reduceMul, Int.reduceSub, Int.reduceNeg, cs_c, cs_o, cs_2, cu_c, cu_o, Int.cast_ofNat_Int, ps_f, ps_g, ps_w, ps_o, ps_2, pu_f, pu_g, pu_w, pu_o, uI_s, uI_o, uI_j, uI_j1, uI_j2, uI_tw, or0, true_or, or_true, false_or, or_false, nar0, nar1, c_hasPlace hL, c_hasRoad hL, c_hasPerson hL, f_X11_tell, f_X11_refuse, f_X11_tellIf, f_X11_tellOrNone, f_X11_deny, f_X11_succeed, f_X12_refuse, f_X12_no, hp0]
    · unfold f_X12_lead
      simp (disch := first | omega | assumption) only [↓lt, Option.bind_some, zl, ll, zadd, zsub, zmul, zneg, ladd, lsub, lmul, lneg, zltT, zltF, zleT, zleF, zeqT, zeqF, zidx, ixT, zwide, bIT, bIF, if_true, if_false, ↓reduceIte, Nat.reduceAdd, Int.reduceAdd, Int.reduceMul, Int.reduceSub, Int.reduceNeg, cs_c, cs_o, cs_2, cu_c, cu_o, Int.cast_ofNat_Int, ps_f, ps_g, ps_w, ps_o, ps_2, pu_f, pu_g, pu_w, pu_o, uI_s, uI_o, uI_j, uI_j1, uI_j2, uI_tw, or0, true_or, or_true, false_or, or_false, nar0, nar1, f_X11_tell, f_X11_refuse, f_X11_tellIf, f_X11_tellOrNone, f_X11_deny, f_X11_succeed, f_X12_refuse, f_X12_no, hp0, m_isPlaceAt, m_isRoadAt, m_isPerson, m_isIn]
