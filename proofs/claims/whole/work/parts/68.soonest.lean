/-! ===== soonest, soonestTwo ===== -/
/-- why somebody can't be asked: the class -/
theorem c_whyNotAt {b : Int → Int} {x : Int} {L n : Nat} {M : KM} {g : Int → Int → Int → Int} (hL : HL M L b) (hg : GR g b) (hb : WB b) (hp0 : M.2.2 0 10 = L) (h1 : -2147483648 ≤ x) (h2 : x < 2147483648) : f_X11_whyNotAtPlace n 0 (zI x) (ps M L g) = some (zI (if 0 ≤ x ∧ x < b 2 then (if 0 ≤ b (66 + x) then 9 else 0) else 2)) := by
  have hh := hb.1
  unfold WH at hh
  have hi : 0 ≤ b 2 ∧ b 2 ≤ 8 := by omega
  clear hh
  unfold f_X11_whyNotAtPlace f_X7_isAtPlace
  by_cases w : 0 ≤ x ∧ x < b 2
  · have gp := hg.1 x w.1 w.2
    have ez := WPb hb w.1 w.2
    unfold GP at gp
    rw [if_pos w]
    by_cases y : 0 ≤ b (66 + x)
    · have g5 : g x 0 5 = -1 := by omega
      rw [if_pos y]
      clear gp ez
      simp (disch := first | omega | assumption) only [↓lt, Option.bind_some, zl, ll, zadd, zsub, zmul, zneg, ladd, lsub, lmul, lneg, zltT, zltF, zleT, zleF, zeqT, zeqF, zidx, ixT, zwide, bIT, bIF, if_true, if_false, ↓reduceIte, Nat.reduceAdd, Int.reduceAdd, Int.reduceMul, Int.reduceSub, Int.reduceNeg, cs_c, cs_o, cs_2, cu_c, cu_o, Int.cast_ofNat_Int, ps_f, ps_g, ps_w, ps_o, ps_2, pu_f, pu_g, pu_w, pu_o, uI_s, uI_o, uI_j, uI_j1, uI_j2, uI_tw, or0, true_or, or_true, false_or, or_false, nar0, nar1, hp0, c_hasPerson hL, g5]
    · have g5 : g x 0 5 = b (58 + x) := by omega
      have i5 : 0 ≤ b (58 + x) ∧ b (58 + x) < 8 := by
        have := hb.1
        unfold WH at this
        omega
      rw [if_neg y]
      clear gp ez
      simp (disch := first | omega | assumption) only [↓lt, Option.bind_some, zl, ll, zadd, zsub, zmul, zneg, ladd, lsub, lmul, lneg, zltT, zltF, zleT, zleF, zeqT, zeqF, zidx, ixT, zwide, bIT, bIF, if_true, if_false, ↓reduceIte, Nat.reduceAdd, Int.reduceAdd, Int.reduceMul, Int.reduceSub, Int.reduceNeg, cs_c, cs_o, cs_2, cu_c, cu_o, Int.cast_ofNat_Int, ps_f, ps_g, ps_w, ps_o, ps_2, pu_f, pu_g, pu_w, pu_o, uI_s, uI_o, uI_j, uI_j1, uI_j2, uI_tw, or0, true_or, or_true, false_or, or_false, nar0, nar1, hp0, c_hasPerson hL, g5]
  · rw [if_neg w]
    simp (disch := first | omega | assumption) only [↓lt, Option.bind_some, zl, ll, zadd, zsub, zmul, zneg, ladd, lsub, lmul, lneg, zltT, zltF, zleT, zleF, zeqT, zeqF, zidx, ixT, zwide, bIT, bIF, if_true, if_false, ↓reduceIte, Nat.reduceAdd, Int.reduceAdd, Int.reduceMul, Int.reduceSub, Int.reduceNeg, cs_c, cs_o, cs_2, cu_c, cu_o, Int.cast_ofNat_Int, ps_f, ps_g, ps_w, ps_o, ps_2, pu_f, pu_g, pu_w, pu_o, uI_s, uI_o, uI_j, uI_j1, uI_j2, uI_tw, or0, true_or, or_true, false_or, or_false, nar0, nar1, hp0, c_hasPerson hL]
theorem TT_v {b : Int → Int} {p q f s j : Int} (hb : WB b) (h1 : 0 ≤ s) (h2 : s ≤ 110000) (j1 : 0 ≤ j) (j2 : j < 8) : 0 ≤ TT b p q f s j ∧ (TT b p q f s j ≤ 700000 ∨ TT b p q f s j = 1000000000) := TT_ok hb h1 (Or.inl h2) j j1 j2
/-- the class's answer: minutes from the present one, or none -/
theorem c_minutesTo {b : Int → Int} {x q y : Int} {L n : Nat} {M : KM} {g : Int → Int → Int → Int} (hL : HL (cs M b) L b) (hl : 23 ≤ L ∧ L ≤ 61) (hg : GR g b) (hb : WB b) (h5 : b 5 ≤ 99999) (h1 : 0 ≤ x) (h2 : x < b 2) (h6 : b (66 + x) = -1) (hq : q = -1 ∨ (0 ≤ q ∧ q < b 2)) (y1 : 0 ≤ y) (y2 : y < b 0) (hn : 200 < n) : f_X6_minutesTo n 14 L (zI x) (zI q) (zI y) (ps (cs M b) L g) = some (zI (if TT b x q (b (58 + x)) (b 5) y < 1000000000 then TT b x q (b (58 + x)) (b 5) y - b 5 else 1000000000), ps (cs (rs M 15 (TT b x q (b (58 + x)) (b 5))) b) L g) := by
  have hh := hb.1
  unfold WH at hh
  have hi : 0 ≤ b 2 ∧ b 2 ≤ 8 ∧ 0 ≤ b 0 ∧ b 0 ≤ 8 ∧ 0 ≤ b 5 := by omega
  clear hh
  have gp := hg.1 x h1 h2
  have ez := WPb hb h1 h2
  unfold GP at gp
  have g5 : g x 0 5 = b (58 + x) := by omega
  have i5 : 0 ≤ b (58 + x) ∧ b (58 + x) < b 0 := by omega
  clear gp ez
  have q5 : M.1 L 11 = zI (b 5) := ((HL_cs hl.2).mp hL).2.2.2.1
  have e := c_findTimes (n := n) (M := M) (g := g) (f := b (58 + x)) (s := b 5) hL hl hg hb h1 h2 hq i5.1 i5.2 (by omega) (by omega) hn
  have tv := TT_v (p := x) (q := q) (f := b (58 + x)) (s := b 5) (j := y) hb (by omega) (by omega) y1 (by omega)
  generalize TT b x q (b (58 + x)) (b 5) = T at *
  unfold f_X6_minutesTo f_X6_minutesFrom
  by_cases w : T y < 1000000000
  · rw [if_pos w]
    simp (disch := first | omega | assumption) only [↓lt, Option.bind_some, zl, ll, zadd, zsub, zmul, zneg, ladd, lsub, lmul, lneg, zltT, zltF, zleT, zleF, zeqT, zeqF, zidx, ixT, zwide, bIT, bIF, if_true, if_false, ↓reduceIte, Nat.reduceAdd, Int.reduceAdd, Int.reduceMul, Int.reduceSub, Int.reduceNeg, cs_c, cs_o, cs_2, cu_c, cu_o, Int.cast_ofNat_Int, ps_f, ps_g, ps_w, ps_o, ps_2, pu_f, pu_g, pu_w, pu_o, uI_s, uI_o, uI_j, uI_j1, uI_j2, uI_tw, or0, true_or, or_true, false_or, or_false, nar0, nar1, rs_o, rs_s, q5, g5, e]
  · rw [if_neg w]
    simp (disch := first | omega | assumption) only [↓lt, Option.bind_some, zl, ll, zadd, zsub, zmul, zneg, ladd, lsub, lmul, lneg, zltT, zltF, zleT, zleF, zeqT, zeqF, zidx, ixT, zwide, bIT, bIF, if_true, if_false, ↓reduceIte, Nat.reduceAdd, Int.reduceAdd, Int.reduceMul, Int.reduceSub, Int.reduceNeg, cs_c, cs_o, cs_2, cu_c, cu_o, Int.cast_ofNat_Int, ps_f, ps_g, ps_w, ps_o, ps_2, pu_f, pu_g, pu_w, pu_o, uI_s, uI_o, uI_j, uI_j1, uI_j2, uI_tw, or0, true_or, or_true, false_or, or_false, nar0, nar1, rs_o, rs_s, q5, g5, e]
theorem k_soonest (p q : Int32) (n : Nat) (hn : 3300 ≤ n) : OKm (f_X11_soonest n 0 p q) (f_X12_soonest n 227 p q) := by
  obtain ⟨x, hx1, hx2, rfl⟩ := z_ex p
  obtain ⟨y, hy1, hy2, rfl⟩ := z_ex q
  refine ok_sc (fun M L g b hO => ?_)
  have hO2 := hO
  obtain ⟨hP, hL, hg, hb, hm, hC⟩ := hO; have hp0 : M.2.2 0 10 = L := hP.1; have hl := Ptr_L hP; have hM := (HL_cs hl.2).mp hL; have hh := hb.1; unfold WH at hh
  have hi : 0 ≤ b 2 ∧ b 2 ≤ 8 ∧ 0 ≤ b 0 ∧ b 0 ≤ 8 ∧ 0 ≤ b 5 := by omega
  clear hC hh
  have ew := c_whyNotAt (n := n) (M := cs M b) (g := g) (x := x) hL hg hb hp0 hx1 hx2
  by_cases w : 0 ≤ x ∧ x < b 2
  · have ez := WPb hb w.1 w.2
    have eg := fun X => m_isGoing (b := b) (n := n) (M := X) w.1 (show x < 8 by omega) (by omega) (by omega)
    rw [if_pos w] at ew
    by_cases v : 0 ≤ y ∧ y < b 0
    · by_cases u : 0 ≤ b (66 + x)
      · rw [if_pos u] at ew
        simp only [bIT u] at eg
        clear ez
        refine sc_no (c := f_X11_soonest n 0 (zI x) (zI y)) (m := f_X12_soonest n 227 (zI x) (zI y)) hO2 (r := zI (-1)) (s := zI 9) ?_ (fun X => ?_)
        · unfold f_X11_soonest f_X11_whyNoWay
          simp (disch := first | omega | assumption) only [↓lt, Option.bind_some, zl, ll, zadd, zsub, zmul, zneg, ladd, lsub, lmul, lneg, zltT, zltF, zleT, zleF, zeqT, zeqF, zidx, ixT, zwide, bIT, bIF, if_true, if_false, ↓reduceIte, Nat.reduceAdd, Int.reduceAdd, Int.reduceMul, Int.reduceSub, Int.reduceNeg, cs_c, cs_o, cs_2, cu_c, cu_o, Int.cast_ofNat_Int, ps_f, ps_g, ps_w, ps_o, ps_2, pu_f, pu_g, pu_w, pu_o, uI_s, uI_o, uI_j, uI_j1, uI_j2, uI_tw, or0, true_or, or_true, false_or, or_false, nar0, nar1, f_X11_tell, f_X11_refuse, f_X11_tellIf, f_X11_tellOrNone, f_X11_tellSooner, f_X11_deny, f_X11_succeed, f_X12_refuse, f_X12_no, hp0, c_hasPlace hL, ew]
        · unfold f_X12_soonest f_X12_whyNotSoon
          simp (disch := first | omega | assumption) only [↓lt, Option.bind_some, zl, ll, zadd, zsub, zmul, zneg, ladd, lsub, lmul, lneg, zltT, zltF, zleT, zleF, zeqT, zeqF, zidx, ixT, zwide, bIT, bIF, if_true, if_false, ↓reduceIte, Nat.reduceAdd, Int.reduceAdd, Int.reduceMul, Int.reduceSub, Int.reduceNeg, cs_c, cs_o, cs_2, cu_c, cu_o, Int.cast_ofNat_Int, ps_f, ps_g, ps_w, ps_o, ps_2, pu_f, pu_g, pu_w, pu_o, uI_s, uI_o, uI_j, uI_j1, uI_j2, uI_tw, or0, true_or, or_true, false_or, or_false, nar0, nar1, f_X11_tell, f_X11_refuse, f_X11_tellIf, f_X11_tellOrNone, f_X11_tellSooner, f_X11_deny, f_X11_succeed, f_X12_refuse, f_X12_no, hp0, m_isPerson, m_isPlaceAt, eg]
      · rw [if_neg u] at ew
        simp only [bIF u] at eg
        have i5 : 0 ≤ b (58 + x) ∧ b (58 + x) < b 0 ∧ b (66 + x) = -1 := by omega
        clear ez
        have ec := c_minutesTo (n := n) (M := M) (g := g) (q := -1) hL hl hg hb hm w.1 w.2 i5.2.2 (Or.inl rfl) v.1 v.2 (by omega)
        have em := fun X => m_laysWhen (n := n) (a := 236) (X := X) (p := x) (q := -1) (f := b (58 + x)) (s := b 5) (by decide) hb w.1 w.2 (Or.inl rfl) i5.1 i5.2.1 hi.2.2.2.2 (by omega) (by omega)
        have tv := TT_v (p := x) (q := -1) (f := b (58 + x)) (s := b 5) (j := y) hb (by omega) (by omega) v.1 (by omega)
        generalize TT b x (-1) (b (58 + x)) (b 5) = T at *
        by_cases k : T y < 1000000000
        · rw [if_pos k] at ec
          have nk : nT T y = T y := if_pos k
          refine ⟨zI (T y - b 5), zI 0, uI (rs M 15 T) 0 15 (zI 0), ?_, uI_s, SC_of hP rfl (fun a k h1 h2 => by rw [uI_o h1, rs_o (by omega)]), fun X => ⟨rs (uI (uI X 227 1 (zI 0)) 227 0 (zI 0)) 236 (nT T), ?_, by rw [rs_o (by decide), uI_s], SM_tr SM_st (SM_rs (Or.inl rfl))⟩⟩
          · unfold f_X11_soonest f_X11_whyNoWay
            simp (disch := first | omega | assumption) only [↓lt, Option.bind_some, zl, ll, zadd, zsub, zmul, zneg, ladd, lsub, lmul, lneg, zltT, zltF, zleT, zleF, zeqT, zeqF, zidx, ixT, zwide, bIT, bIF, if_true, if_false, ↓reduceIte, Nat.reduceAdd, Int.reduceAdd, Int.reduceMul, Int.reduceSub, Int.reduceNeg, cs_c, cs_o, cs_2, cu_c, cu_o, Int.cast_ofNat_Int, ps_f, ps_g, ps_w, ps_o, ps_2, pu_f, pu_g, pu_w, pu_o, uI_s, uI_o, uI_j, uI_j1, uI_j2, uI_tw, or0, true_or, or_true, false_or, or_false, nar0, nar1, f_X11_tell, f_X11_refuse, f_X11_tellIf, f_X11_tellOrNone, f_X11_tellSooner, f_X11_deny, f_X11_succeed, f_X12_refuse, f_X12_no, hp0, c_hasPlace hL, ew, ec]
          · unfold f_X12_soonest f_X12_whyNotSoon
            simp (disch := first | omega | assumption) only [↓lt, Option.bind_some, zl, ll, zadd, zsub, zmul, zneg, ladd, lsub, lmul, lneg, zltT, zltF, zleT, zleF, zeqT, zeqF, zidx, ixT, zwide, bIT, bIF, if_true, if_false, ↓reduceIte, Nat.reduceAdd, Int.reduceAdd, Int.reduceMul, Int.reduceSub, Int.reduceNeg, cs_c, cs_o, cs_2, cu_c, cu_o, Int.cast_ofNat_Int, ps_f, ps_g, ps_w, ps_o, ps_2, pu_f, pu_g, pu_w, pu_o, uI_s, uI_o, uI_j, uI_j1, uI_j2, uI_tw, or0, true_or, or_true, false_or, or_false, nar0, nar1, f_X11_tell, f_X11_refuse, f_X11_tellIf, f_X11_tellOrNone, f_X11_tellSooner, f_X11_deny, f_X11_succeed, f_X12_refuse, f_X12_no, hp0, m_isPerson, m_isPlaceAt, eg, em, rs_s, rs_o, nk]
        · rw [if_neg k] at ec
          have nk : nT T y = -1 := if_neg k
          refine ⟨zI (-1), zI 8, uI (rs M 15 T) 0 15 (zI 8), ?_, uI_s, SC_of hP rfl (fun a k h1 h2 => by rw [uI_o h1, rs_o (by omega)]), fun X => ⟨uI (rs (uI (uI X 227 1 (zI 0)) 227 0 (zI 0)) 236 (nT T)) 227 0 (zI 8), ?_, uI_s, SM_tr (SM_tr SM_st (SM_rs (Or.inl rfl))) SM_s⟩⟩
          · unfold f_X11_soonest f_X11_whyNoWay
            simp (disch := first | omega | assumption) only [↓lt, Option.bind_some, zl, ll, zadd, zsub, zmul, zneg, ladd, lsub, lmul, lneg, zltT, zltF, zleT, zleF, zeqT, zeqF, zidx, ixT, zwide, bIT, bIF, if_true, if_false, ↓reduceIte, Nat.reduceAdd, Int.reduceAdd, Int.reduceMul, Int.reduceSub, Int.reduceNeg, cs_c, cs_o, cs_2, cu_c, cu_o, Int.cast_ofNat_Int, ps_f, ps_g, ps_w, ps_o, ps_2, pu_f, pu_g, pu_w, pu_o, uI_s, uI_o, uI_j, uI_j1, uI_j2, uI_tw, or0, true_or, or_true, false_or, or_false, nar0, nar1, f_X11_tell, f_X11_refuse, f_X11_tellIf, f_X11_tellOrNone, f_X11_tellSooner, f_X11_deny, f_X11_succeed, f_X12_refuse, f_X12_no, hp0, c_hasPlace hL, ew, ec]
          · unfold f_X12_soonest f_X12_whyNotSoon
            simp (disch := first | omega | assumption) only [↓lt, Option.bind_some, zl, ll, zadd, zsub, zmul, zneg, ladd, lsub, lmul, lneg, zltT, zltF, zleT, zleF, zeqT, zeqF, zidx, ixT, zwide, bIT, bIF, if_true, if_false, ↓reduceIte, Nat.reduceAdd, Int.reduceAdd, Int.reduceMul, Int.reduceSub, Int.reduceNeg, cs_c, cs_o, cs_2, cu_c, cu_o, Int.cast_ofNat_Int, ps_f, ps_g, ps_w, ps_o, ps_2, pu_f, pu_g, pu_w, pu_o, uI_s, uI_o, uI_j, uI_j1, uI_j2, uI_tw, or0, true_or, or_true, false_or, or_false, nar0, nar1, f_X11_tell, f_X11_refuse, f_X11_tellIf, f_X11_tellOrNone, f_X11_tellSooner, f_X11_deny, f_X11_succeed, f_X12_refuse, f_X12_no, hp0, m_isPerson, m_isPlaceAt, eg, em, rs_s, rs_o, nk]
    · refine sc_no (c := f_X11_soonest n 0 (zI x) (zI y)) (m := f_X12_soonest n 227 (zI x) (zI y)) hO2 (r := zI (-1)) (s := zI 2) ?_ (fun X => ?_)
      · unfold f_X11_soonest f_X11_whyNoWay
        simp (disch := first | omega | assumption) only [↓lt, Option.bind_some, zl, ll, zadd, zsub, zmul, zneg, ladd, lsub, lmul, lneg, zltT, zltF, zleT, zleF, zeqT, zeqF, zidx, ixT, zwide, bIT, bIF, if_true, if_false, ↓reduceIte, Nat.reduceAdd, Int.reduceAdd, Int.reduceMul, Int.reduceSub, Int.reduceNeg, cs_c, cs_o, cs_2, cu_c, cu_o, Int.cast_ofNat_Int, ps_f, ps_g, ps_w, ps_o, ps_2, pu_f, pu_g, pu_w, pu_o, uI_s, uI_o, uI_j, uI_j1, uI_j2, uI_tw, or0, true_or, or_true, false_or, or_false, nar0, nar1, f_X11_tell, f_X11_refuse, f_X11_tellIf, f_X11_tellOrNone, f_X11_tellSooner, f_X11_deny, f_X11_succeed, f_X12_refuse, f_X12_no, hp0, c_hasPlace hL]
      · unfold f_X12_soonest f_X12_whyNotSoon
        simp (disch := first | omega | assumption) only [↓lt, Option.bind_some, zl, ll, zadd, zsub, zmul, zneg, ladd, lsub, lmul, lneg, zltT, zltF, zleT, zleF, zeqT, zeqF, zidx, ixT, zwide, bIT, bIF, if_true, if_false, ↓reduceIte, Nat.reduceAdd, Int.reduceAdd, Int.reduceMul, Int.reduceSub, Int.reduceNeg, cs_c, cs_o, cs_2, cu_c, cu_o, Int.cast_ofNat_Int, ps_f, ps_g, ps_w, ps_o, ps_2, pu_f, pu_g, pu_w, pu_o, uI_s, uI_o, uI_j, uI_j1, uI_j2, uI_tw, or0, true_or, or_true, false_or, or_false, nar0, nar1, f_X11_tell, f_X11_refuse, f_X11_tellIf, f_X11_tellOrNone, f_X11_tellSooner, f_X11_deny, f_X11_succeed, f_X12_refuse, f_X12_no, hp0, m_isPerson, m_isPlaceAt]
  · rw [if_neg w] at ew
    refine sc_no (c := f_X11_soonest n 0 (zI x) (zI y)) (m := f_X12_soonest n 227 (zI x) (zI y)) hO2 (r := zI (-1)) (s := zI 2) ?_ (fun X => ?_)
    · unfold f_X11_soonest f_X11_whyNoWay
      by_cases v : 0 ≤ y ∧ y < b 0
      · simp (disch := first | omega | assumption) only [↓lt, Option.bind_some, zl, ll, zadd, zsub, zmul, zneg, ladd, lsub, lmul, lneg, zltT, zltF, zleT, zleF, zeqT, zeqF, zidx, ixT, zwide, bIT, bIF, if_true, if_false, ↓reduceIte, Nat.reduceAdd, Int.reduceAdd, Int.reduceMul, Int.reduceSub, Int.reduceNeg, cs_c, cs_o, cs_2, cu_c, cu_o, Int.cast_ofNat_Int, ps_f, ps_g, ps_w, ps_o, ps_2, pu_f, pu_g, pu_w, pu_o, uI_s, uI_o, uI_j, uI_j1, uI_j2, uI_tw, or0, true_or, or_true, false_or, or_false, nar0, nar1, f_X11_tell, f_X11_refuse, f_X11_tellIf, f_X11_tellOrNone, f_X11_tellSooner, f_X11_deny, f_X11_succeed, f_X12_refuse, f_X12_no, hp0, c_hasPlace hL, ew]
      · simp (disch := first | omega | assumption) only [↓lt, Option.bind_some, zl, ll, zadd, zsub, zmul, zneg, ladd, lsub, lmul, lneg, zltT, zltF, zleT, zleF, zeqT, zeqF, zidx, ixT, zwide, bIT, bIF, if_true, if_false, ↓reduceIte, Nat.reduceAdd, Int.reduceAdd, Int.reduceMul, Int.reduceSub, Int.reduceNeg, cs_c, cs_o, cs_2, cu_c, cu_o, Int.cast_ofNat_Int, ps_f, ps_g, ps_w, ps_o, ps_2, pu_f, pu_g, pu_w, pu_o, uI_s, uI_o, uI_j, uI_j1, uI_j2, uI_tw, or0, true_or, or_true, false_or, or_false, nar0, nar1, f_X11_tell, f_X11_refuse, f_X11_tellIf, f_X11_tellOrNone, f_X11_tellSooner, f_X11_deny, f_X11_succeed, f_X12_refuse, f_X12_no, hp0, c_hasPlace hL]
    · unfold f_X12_soonest f_X12_whyNotSoon
      simp (disch := first | omega | assumption) only [↓lt, Option.bind_some, zl, ll, zadd, zsub, zmul, zneg, ladd, lsub, lmul, lneg, zltT, zltF, zleT, zleF, zeqT, zeqF, zidx, ixT, zwide, bIT, bIF, if_true, if_false, ↓reduceIte, Nat.reduceAdd, Int.reduceAdd, Int.reduceMul, Int.reduceSub, Int.reduceNeg, cs_c, cs_o, cs_2, cu_c, cu_o, Int.cast_ofNat_Int, ps_f, ps_g, ps_w, ps_o, ps_2, pu_f, pu_g, pu_w, pu_o, uI_s, uI_o, uI_j, uI_j1, uI_j2, uI_tw, or0, true_or, or_true, false_or, or_false, nar0, nar1, f_X11_tell, f_X11_refuse, f_X11_tellIf, f_X11_tellOrNone, f_X11_tellSooner, f_X11_deny, f_X11_succeed, f_X12_refuse, f_X12_no, hp0, m_isPerson]
