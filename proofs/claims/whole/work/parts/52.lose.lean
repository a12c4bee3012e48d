/-! ===== lostIn, lostBy, arrives ===== -/
theorem k_lostIn (p : Int32) (n : Nat) (hn : 2000 ≤ n) : OKm (f_X11_lostIn n 0 p) (f_X12_lostIn n 227 p) := by
  obtain ⟨x, hx1, hx2, rfl⟩ := z_ex p
  refine ok_wr (fun M L g b hO => ?_)
  have hO2 := hO
  obtain ⟨hP, hL, hg, hb, hm, hC⟩ := hO
  have hp0 : M.2.2 0 10 = L := hP.1
  have hl := Ptr_L hP
  have hh := hb.1
  unfold WH at hh
  have i3 : 0 ≤ b 3 ∧ b 3 ≤ 23 ∧ b 3 < b 4 ∧ b 4 ≤ 24 := by omega
  clear hC hh
  by_cases w : 0 ≤ x ∧ x ≤ 999
  · have e := c_lostWithin (n := n) (N := x) hL hg hb (HL_H hL) i3.1 i3.2.1 i3.2.2.1 i3.2.2.2 w.1 (by omega) (by omega)
    refine wr_sc (c := f_X11_lostIn n 0 (zI x)) (m := f_X12_lostIn n 227 (zI x)) (N := uI M 0 15 (zI 0)) (r := zI (lT (hB b (b 3) (b 4)) x)) (s := zI 0) hO2 ?_ uI_s rfl (fun a k h1 h2 => uI_o h1) (fun X => ?_)
    · unfold f_X11_lostIn
      simp (disch := first | omega | assumption) only [↓lt, Option.bind_some, zl, ll, zadd, zsub, zmul, zneg, ladd, lsub, lmul, lneg, zltT, zltF, zleT, zleF, zeqT, zeqF, zidx, ixT, zwide, bIT, bIF, if_true, if_false, ↓reduceIte, Nat.reduceAdd, Int.reduceAdd, Int.reduceMul, Int.reduceSub, Int.reduceNeg, cs_c, cs_o, cs_2, cu_c, cu_o, Int.cast_ofNat_Int, ps_f, ps_g, ps_w, ps_o, ps_2, pu_f, pu_g, pu_w, pu_o, uI_s, uI_o, uI_j, uI_j1, uI_j2, uI_tw, or0, true_or, or_true, false_or, or_false, nar0, nar1, f_X11_tell, f_X11_refuse, f_X11_tellIf, f_X11_tellOrNone, f_X11_deny, f_X11_succeed, f_X12_refuse, f_X12_no, hp0, e]
    · obtain ⟨Y, e1, e2, e3⟩ := m_losesBy (n := n) (X := uI (uI X 227 1 (zI 0)) 227 0 (zI 0)) hb hm i3.1 i3.2.1 i3.2.2.1 i3.2.2.2 w.1 w.2 hn
      refine ⟨Y, ?_, by rw [e3, uI_s], MF_tr MF_st e2⟩
      unfold f_X12_lostIn
      simp (disch := first | omega | assumption) only [↓lt, Option.bind_some, zl, ll, zadd, zsub, zmul, zneg, ladd, lsub, lmul, lneg, zltT, zltF, zleT, zleF, zeqT, zeqF, zidx, ixT, zwide, bIT, bIF, if_true, if_false, ↓reduceIte, Nat.reduceAdd, Int.reduceAdd, Int.reduceMul, Int.reduceSub, Int.reduceNeg, cs_c, cs_o, cs_2, cu_c, cu_o, Int.cast_ofNat_Int, ps_f, ps_g, ps_w, ps_o, ps_2, pu_f, pu_g, pu_w, pu_o, uI_s, uI_o, uI_j, uI_j1, uI_j2, uI_tw, or0, true_or, or_true, false_or, or_false, nar0, nar1, f_X11_tell, f_X11_refuse, f_X11_tellIf, f_X11_tellOrNone, f_X11_deny, f_X11_succeed, f_X12_refuse, f_X12_no, m_isIn, e1]
  · refine wr_no (c := f_X11_lostIn n 0 (zI x)) (m := f_X12_lostIn n 227 (zI x)) hO2 (r := zI (-1)) (s := zI 5) ?_ (fun X => ?_)
    · unfold f_X11_lostIn
      by_cases v : x < 0
      · simp (disch := first | omega | assumption) only [↓lt, Option.bind_some, zl, ll, zadd, zsub, zmul, zneg, ladd, lsub, lmul, lneg, zltT, zltF, zleT, zleF, zeqT, zeqF, zidx, ixT, zwide, bIT, bIF, if_true, if_false, ↓reduceIte, Nat.reduceAdd, Int.reduceAdd, Int.reduceMul, Int.reduceSub, Int.reduceNeg, cs_c, cs_o, cs_2, cu_c, cu_o, Int.cast_ofNat_Int, ps_f, ps_g, ps_w, ps_o, ps_2, pu_f, pu_g, pu_w, pu_o, uI_s, uI_o, uI_j, uI_j1, uI_j2, uI_tw, or0, true_or, or_true, false_or, or_false, nar0, nar1, f_X11_tell, f_X11_refuse, f_X11_tellIf, f_X11_tellOrNone, f_X11_deny, f_X11_succeed, f_X12_refuse, f_X12_no]
      · simp (disch := first | omega | assumption) only [↓lt, Option.bind_some, zl, ll, zadd, zsub, zmul, zneg, ladd, lsub, lmul, lneg, zltT, zltF, zleT, zleF, zeqT, zeqF, zidx, ixT, zwide, bIT, bIF, if_true, if_false, ↓reduceIte, Nat.reduceAdd, Int.reduceAdd, Int.reduceMul, Int.reduceSub, Int.reduceNeg, cs_c, cs_o, cs_2, cu_c, cu_o, Int.cast_ofNat_Int, ps_f, ps_g, ps_w, ps_o, ps_2, pu_f, pu_g, pu_w, pu_o, uI_s, uI_o, uI_j, uI_j1, uI_j2, uI_tw, or0, true_or, or_true, false_or, or_false, nar0, nar1, f_X11_tell, f_X11_refuse, f_X11_tellIf, f_X11_tellOrNone, f_X11_deny, f_X11_succeed, f_X12_refuse, f_X12_no]
    · unfold f_X12_lostIn
      simp (disch := first | omega | assumption) only [↓lt, Option.bind_some, zl, ll, zadd, zsub, zmul, zneg, ladd, lsub, lmul, lneg, zltT, zltF, zleT, zleF, zeqT, zeqF, zidx, ixT, zwide, bIT, bIF, if_true, if_false, ↓reduceIte, Nat.reduceAdd, Int.reduceAdd, Int.reduceMul, Int.reduceSub, Int.reduceNeg, cs_c, cs_o, cs_2, cu_c, cu_o, Int.cast_ofNat_Int, ps_f, ps_g, ps_w, ps_o, ps_2, pu_f, pu_g, pu_w, pu_o, uI_s, uI_o, uI_j, uI_j1, uI_j2, uI_tw, or0, true_or, or_true, false_or, or_false, nar0, nar1, f_X11_tell, f_X11_refuse, f_X11_tellIf, f_X11_tellOrNone, f_X11_deny, f_X11_succeed, f_X12_refuse, f_X12_no, m_isIn]
def s22 (M : KM) (f t : Int) : KM := uI (uI (uI M 22 0 (zI f)) 22 1 (zI t)) 22 2 (zI ((t - f) * 60))
theorem c_set {f t : Int} {L : Nat} {M : KM} {b : Int → Int} {g : Int → Int → Int → Int} (hl : 23 ≤ L) : f_X1_set (0 + 22) (zI f) (zI t) (ps (cs M b) L g) = ps (cs (s22 M f t) b) L g := by
  unfold f_X1_set s22
  simp (disch := first | omega | assumption) only [↓lt, Option.bind_some, zl, ll, zadd, zsub, zmul, zneg, ladd, lsub, lmul, lneg, zltT, zltF, zleT, zleF, zeqT, zeqF, zidx, ixT, zwide, bIT, bIF, if_true, if_false, ↓reduceIte, Nat.reduceAdd, Int.reduceAdd, Int.reduceMul, Int.reduceSub, Int.reduceNeg, cs_c, cs_o, cs_2, cu_c, cu_o, Int.cast_ofNat_Int, ps_f, ps_g, ps_w, ps_o, ps_2, pu_f, pu_g, pu_w, pu_o, uI_s, uI_o, uI_j, uI_j1, uI_j2, uI_tw, or0, true_or, or_true, false_or, or_false, nar0, nar1]
theorem s22_o {M : KM} {f t : Int} {a k : Nat} (h : ¬ a = 22) : (s22 M f t).1 a k = M.1 a k := by
  unfold s22
  rw [uI_o (by omega), uI_o (by omega), uI_o (by omega)]
theorem s22_H {M : KM} {f t : Int} {L : Nat} {b : Int → Int} {g : Int → Int → Int → Int} (hl : 23 ≤ L) : HH (ps (cs (s22 M f t) b) L g) (0 + 22) f t := by
  unfold HH s22
  rw [ps_o (by omega), cs_o (by omega), ps_o (by omega), cs_o (by omega), ps_o (by omega), cs_o (by omega)]
  refine ⟨?_, ?_, ?_⟩
  · rw [uI_o (by omega), uI_o (by omega), uI_s]
  · rw [uI_o (by omega), uI_s]
  · rw [uI_s]
theorem s22_L {M : KM} {f t : Int} {L : Nat} {b : Int → Int} (hl : 23 ≤ L ∧ L ≤ 61) (h : HL (cs M b) L b) : HL (cs (s22 M f t) b) L b :=
  (HL_cs hl.2).mpr (HL_of (fun a k x y => s22_o (by omega)) ((HL_cs hl.2).mp h))
theorem c_canBe3 {f t : Int} {M : KM} (h1 : -2147483648 ≤ f) (h2 : f < 2147483648) (h3 : -2147483648 ≤ t) (h4 : t < 2147483648) : f_X1_canBe (zI f) (zI t) M = bI (0 ≤ f ∧ f ≤ 23 ∧ f < t ∧ t ≤ 24) := by
  unfold f_X1_canBe
  by_cases w1 : 0 ≤ f
  · by_cases w2 : f ≤ 23
    · by_cases w3 : f < t
      · by_cases w4 : t ≤ 24
        · simp (disch := first | omega | assumption) only [↓lt, Option.bind_some, zl, ll, zadd, zsub, zmul, zneg, ladd, lsub, lmul, lneg, zltT, zltF, zleT, zleF, zeqT, zeqF, zidx, ixT, zwide, bIT, bIF, if_true, if_false, ↓reduceIte, Nat.reduceAdd, Int.reduceAdd, Int.reduceMul, Int.reduceSub, Int.reduceNeg, cs_c, cs_o, cs_2, cu_c, cu_o, Int.cast_ofNat_Int, ps_f, ps_g, ps_w, ps_o, ps_2, pu_f, pu_g, pu_w, pu_o, uI_s, uI_o, uI_j, uI_j1, uI_j2, uI_tw, or0, true_or, or_true, false_or, or_false, nar0, nar1]
        · simp (disch := first | omega | assumption) only [↓lt, Option.bind_some, zl, ll, zadd, zsub, zmul, zneg, ladd, lsub, lmul, lneg, zltT, zltF, zleT, zleF, zeqT, zeqF, zidx, ixT, zwide, bIT, bIF, if_true, if_false, ↓reduceIte, Nat.reduceAdd, Int.reduceAdd, Int.reduceMul, Int.reduceSub, Int.reduceNeg, cs_c, cs_o, cs_2, cu_c, cu_o, Int.cast_ofNat_Int, ps_f, ps_g, ps_w, ps_o, ps_2, pu_f, pu_g, pu_w, pu_o, uI_s, uI_o, uI_j, uI_j1, uI_j2, uI_tw, or0, true_or, or_true, false_or, or_false, nar0, nar1]
      · simp (disch := first | omega | assumption) only [↓lt, Option.bind_some, zl, ll, zadd, zsub, zmul, zneg, ladd, lsub, lmul, lneg, zltT, zltF, zleT, zleF, zeqT, zeqF, zidx, ixT, zwide, bIT, bIF, if_true, if_false, ↓reduceIte, Nat.reduceAdd, Int.reduceAdd, Int.reduceMul, Int.reduceSub, Int.reduceNeg, cs_c, cs_o, cs_2, cu_c, cu_o, Int.cast_ofNat_Int, ps_f, ps_g, ps_w, ps_o, ps_2, pu_f, pu_g, pu_w, pu_o, uI_s, uI_o, uI_j, uI_j1, uI_j2, uI_tw, or0, true_or, or_true, false_or, or_false, nar0, nar1]
    · simp (disch := first | omega | assumption) only [↓lt, Option.bind_some, zl, ll, zadd, zsub, zmul, zneg, ladd, lsub, lmul, lneg, zltT, zltF, zleT, zleF, zeqT, zeqF, zidx, ixT, zwide, bIT, bIF, if_true, if_false, ↓reduceIte, Nat.reduceAdd, Int.reduceAdd, Int.reduceMul, Int.reduceSub, Int.reduceNeg, cs_c, cs_o, cs_2, cu_c, cu_o, Int.cast_ofNat_Int, ps_f, ps_g, ps_w, ps_o, ps_2, pu_f, pu_g, pu_w, pu_o, uI_s, uI_o, uI_j, uI_j1, uI_j2, uI_tw, or0, true_or, or_true, false_or, or_false, nar0, nar1]
  · simp (disch := first | omega | assumption) only [↓lt, Option.bind_some, zl, ll, zadd, zsub, zmul, zneg, ladd, lsub, lmul, lneg, zltT, zltF, zleT, zleF, zeqT, zeqF, zidx, ixT, zwide, bIT, bIF, if_true, if_false, ↓reduceIte, Nat.reduceAdd, Int.reduceAdd, Int.reduceMul, Int.reduceSub, Int.reduceNeg, cs_c, cs_o, cs_2, cu_c, cu_o, Int.cast_ofNat_Int, ps_f, ps_g, ps_w, ps_o, ps_2, pu_f, pu_g, pu_w, pu_o, uI_s, uI_o, uI_j, uI_j1, uI_j2, uI_tw, or0, true_or, or_true, false_or, or_false, nar0, nar1]
theorem m_areHours3 {f t : Int} {M : KM} (h1 : -2147483648 ≤ f) (h2 : f < 2147483648) (h3 : -2147483648 ≤ t) (h4 : t < 2147483648) : f_X12_areHours (zI f) (zI t) M = bI (0 ≤ f ∧ f ≤ 23 ∧ f < t ∧ t ≤ 24) := by
  unfold f_X12_areHours
  by_cases w1 : 0 ≤ f ∧ f ≤ 23
  · by_cases w3 : f + 1 ≤ t ∧ t ≤ 24
    · simp (disch := first | omega | assumption) only [↓lt, Option.bind_some, zl, ll, zadd, zsub, zmul, zneg, ladd, lsub, lmul, lneg, zltT, zltF, zleT, zleF, zeqT, zeqF, zidx, ixT, zwide, bIT, bIF, if_true, if_false, ↓reduceIte, Nat.reduceAdd, Int.reduceAdd, Int.reduceMul, Int.reduceSub, Int.reduceNeg, cs_c, cs_o, cs_2, cu_c, cu_o, Int.cast_ofNat_Int, ps_f, ps_g, ps_w, ps_o, ps_2, pu_f, pu_g, pu_w, pu_o, uI_s, uI_o, uI_j, uI_j1, uI_j2, uI_tw, or0, true_or, or_true, false_or, or_false, nar0, nar1, m_isIn]
    · simp (disch := first | omega | assumption) only [↓lt, Option.bind_some, zl, ll, zadd, zsub, zmul, zneg, ladd, lsub, lmul, lneg, zltT, zltF, zleT, zleF, zeqT, zeqF, zidx, ixT, zwide, bIT, bIF, if_true, if_false, ↓reduceIte, Nat.reduceAdd, Int.reduceAdd, Int.reduceMul, Int.reduceSub, Int.reduceNeg, cs_c, cs_o, cs_2, cu_c, cu_o, Int.cast_ofNat_Int, ps_f, ps_g, ps_w, ps_o, ps_2, pu_f, pu_g, pu_w, pu_o, uI_s, uI_o, uI_j, uI_j1, uI_j2, uI_tw, or0, true_or, or_true, false_or, or_false, nar0, nar1, m_isIn]
  · simp (disch := first | omega | assumption) only [↓lt, Option.bind_some, zl, ll, zadd, zsub, zmul, zneg, ladd, lsub, lmul, lneg, zltT, zltF, zleT, zleF, zeqT, zeqF, zidx, ixT, zwide, bIT, bIF, if_true, if_false, ↓reduceIte, Nat.reduceAdd, Int.reduceAdd, Int.reduceMul, Int.reduceSub, Int.reduceNeg, cs_c, cs_o, cs_2, cu_c, cu_o, Int.cast_ofNat_Int, ps_f, ps_g, ps_w, ps_o, ps_2, pu_f, pu_g, pu_w, pu_o, uI_s, uI_o, uI_j, uI_j1, uI_j2, uI_tw, or0, true_or, or_true, false_or, or_false, nar0, nar1, m_isIn]
theorem k_lostBy (p q r : Int32) (n : Nat) (hn : 2000 ≤ n) : OKm (f_X11_lostBy n 0 p q r) (f_X12_lostBy n 227 p q r) := by
  obtain ⟨x, hx1, hx2, rfl⟩ := z_ex p
  obtain ⟨f, hf1, hf2, rfl⟩ := z_ex q
  obtain ⟨t, ht1, ht2, rfl⟩ := z_ex r
  refine ok_wr (fun M L g b hO => ?_)
  have hO2 := hO
  obtain ⟨hP, hL, hg, hb, hm, hC⟩ := hO
  have hp0 : M.2.2 0 10 = L := hP.1
  have hl := Ptr_L hP
  clear hC
  by_cases w : 0 ≤ x ∧ x ≤ 999
  · by_cases i3 : 0 ≤ f ∧ f ≤ 23 ∧ f < t ∧ t ≤ 24
    · have e := c_lostWithin (n := n) (N := x) (s22_L hl hL) hg hb (s22_H (f := f) (t := t) hl.1) i3.1 i3.2.1 i3.2.2.1 i3.2.2.2 w.1 (by omega) (by omega)
      refine wr_sc (c := f_X11_lostBy n 0 (zI x) (zI f) (zI t)) (m := f_X12_lostBy n 227 (zI x) (zI f) (zI t)) (N := uI (s22 M f t) 0 15 (zI 0)) (r := zI (lT (hB b f t) x)) (s := zI 0) hO2 ?_ uI_s rfl (fun a k h1 h2 => by rw [uI_o h1, s22_o h2]) (fun X => ?_)
      · have hp1 : (s22 M f t).2.2 0 10 = L := hp0
        unfold f_X11_lostBy
        rw [c_canBe3 hf1 hf2 ht1 ht2, bIT i3, c_set hl.1]
        simp (disch := first | omega | assumption) only [↓lt, Option.bind_some, zl, zltF, zleT, zeqF, if_false, if_true, ps_2, cs_2, hp1, e, f_X11_tell, pu_o, cu_o]
      · obtain ⟨Y, e1, e2, e3⟩ := m_losesBy (n := n) (X := uI (uI X 227 1 (zI 0)) 227 0 (zI 0)) hb hm i3.1 i3.2.1 i3.2.2.1 i3.2.2.2 w.1 w.2 hn
        refine ⟨Y, ?_, by rw [e3, uI_s], MF_tr MF_st e2⟩
        unfold f_X12_lostBy
        simp (disch := first | omega | assumption) only [↓lt, Option.bind_some, zl, ll, zadd, zsub, zmul, zneg, ladd, lsub, lmul, lneg, zltT, zltF, zleT, zleF, zeqT, zeqF, zidx, ixT, zwide, bIT, bIF, if_true, if_false, ↓reduceIte, Nat.reduceAdd, Int.reduceAdd, Int.reduceMul, Int.reduceSub, Int.reduceNeg, cs_c, cs_o, cs_2, cu_c, cu_o, Int.cast_ofNat_Int, ps_f, ps_g, ps_w, ps_o, ps_2, pu_f, pu_g, pu_w, pu_o, uI_s, uI_o, uI_j, uI_j1, uI_j2, uI_tw, or0, true_or, or_true, false_or, or_false, nar0, nar1, f_X11_tell, f_X11_refuse, f_X11_tellIf, f_X11_tellOrNone, f_X11_deny, f_X11_succeed, f_X12_refuse, f_X12_no, m_isIn, m_areHours3, e1]
    · refine wr_no (c := f_X11_lostBy n 0 (zI x) (zI f) (zI t)) (m := f_X12_lostBy n 227 (zI x) (zI f) (zI t)) hO2 (r := zI (-1)) (s := zI 5) ?_ (fun X => ?_)
      · unfold f_X11_lostBy
        rw [c_canBe3 hf1 hf2 ht1 ht2, bIF i3]
        simp (disch := first | omega | assumption) only [↓lt, Option.bind_some, zl, ll, zadd, zsub, zmul, zneg, ladd, lsub, lmul, lneg, zltT, zltF, zleT, zleF, zeqT, zeqF, zidx, ixT, zwide, bIT, bIF, if_true, if_false, ↓reduceIte, Nat.reduceAdd, Int.reduceAdd, Int.reduceMul, Int.reduceSub, Int.reduceNeg, cs_c, cs_o, cs_2, cu_c, cu_o, Int.cast_ofNat_Int, ps_f, ps_g, ps_w, ps_o, ps_2, pu_f, pu_g, pu_w, pu_o, uI_s, uI_o, uI_j, uI_j1, uI_j2, uI_tw, or0, true_or, or_true, false_or, or_false, nar0, nar1, f_X11_tell, f_X11_refuse, f_X11_tellIf, f_X11_tellOrNone, f_X11_deny, f_X11_succeed, f_X12_refuse, f_X12_no]
      · unfold f_X12_lostBy
        simp (disch := first | omega | assumption) only [↓lt, Option.bind_some, zl, ll, zadd, zsub, zmul, zneg, ladd, lsub, lmul, lneg, zltT, zltF, zleT, zleF, zeqT, zeqF, zidx, ixT, zwide, bIT, bIF, if_true, if_false, ↓reduceIte, Nat.reduceAdd, Int.reduceAdd, Int.reduceMul, Int.reduceSub, Int.reduceNeg, cs_c, cs_o, cs_2, cu_c, cu_o, Int.cast_ofNat_Int, ps_f, ps_g, ps_w, ps_o, ps_2, pu_f, pu_g, pu_w, pu_o, uI_s, uI_o, uI_j, uI_j1, uI_j2, uI_tw, or0, true_or, or_true, false_or, or_false, nar0, nar1, f_X11_tell, f_X11_refuse, f_X11_tellIf, f_X11_tellOrNone, f_X11_deny, f_X11_succeed, f_X12_refuse, f_X12_no, m_isIn, m_areHours3]
  · refine wr_no (c := f_X11_lostBy n 0 (zI x) (zI f) (zI t)) (m := f_X12_lostBy n 227 (zI x) (zI f) (zI t)) hO2 (r := zI (-1)) (s := zI 5) ?_ (fun X => ?_)
    · unfold f_X11_lostBy
      by_cases v : x < 0
      · simp (disch := first | omega | assumption) only [↓lt, Option.bind_some, zl, ll, zadd, zsub, zmul, zneg, ladd, lsub, lmul, lneg, zltT, zltF, zleT, zleF, zeqT, zeqF, zidx, ixT, zwide, bIT, bIF, if_true, if_false, ↓reduceIte, Nat.reduceAdd, Int.reduceAdd, Int.reduceMul, Int.reduceSub, Int.reduceNeg, cs_c, cs_o, cs_2, cu_c, cu_o, Int.cast_ofNat_Int, ps_f, ps_g, ps_w, ps_o, ps_2, pu_f, pu_g, pu_w, pu_o, uI_s, uI_o, uI_j, uI_j1, uI_j2, uI_tw, or0, true_or, or_true, false_or, or_false, nar0, nar1, f_X11_tell, f_X11_refuse, f_X11_tellIf, f_X11_tellOrNone, f_X11_deny, f_X11_succeed, f_X12_refuse, f_X12_no]
      · simp (disch := first | omega | assumption) only [↓lt, Option.bind_some, zl, ll, zadd, zsub, zmul, zneg, ladd, lsub, lmul, lneg, zltT, zltF, zleT, zleF, zeqT, zeqF, zidx, ixT, zwide, bIT, bIF, if_true, if_false, ↓reduceIte, Nat.reduceAdd, Int.reduceAdd, Int.reduceMul, Int.reduceSub, Int.reduceNeg, cs_c, cs_o, cs_2, cu_c, cu_o, Int.cast_ofNat_Int, ps_f, ps_g, ps_w, ps_o, ps_2, pu_f, pu_g, pu_w, pu_o, uI_s, uI_o, uI_j, uI_j1, uI_j2, uI_tw, or0, true_or, or_true, false_or, or_false, nar0, nar1, f_X11_tell, f_X11_refuse, f_X11_tellIf, f_X11_tellOrNone, f_X11_deny, f_X11_succeed, f_X12_refuse, f_X12_no]
    · unfold f_X12_lostBy
      simp (disch := first | omega | assumption) only [↓lt, Option.bind_some, zl, ll, zadd, zsub, zmul, zneg, ladd, lsub, lmul, lneg, zltT, zltF, zleT, zleF, zeqT, zeqF, zidx, ixT, zwide, bIT, bIF, if_true, if_false, ↓reduceIte, Nat.reduceAdd, Int.reduceAdd, Int.reduceMul, Int.reduceSub, Int.reduceNeg, cs_c, cs_o, cs_2, cu_c, cu_o, Int.cast_ofNat_Int, ps_f, ps_g, ps_w, ps_o, ps_2, pu_f, pu_g, pu_w, pu_o, uI_s, uI_o, uI_j, uI_j1, uI_j2, uI_tw, or0, true_or, or_true, false_or, or_false, nar0, nar1, f_X11_tell, f_X11_refuse, f_X11_tellIf, f_X11_tellOrNone, f_X11_deny, f_X11_succeed, f_X12_refuse, f_X12_no, m_isIn]
