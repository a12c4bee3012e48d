/-! ===== going out, alone and with others ===== -/
def lvG (r to m l : Int) (g : Int → Int → Int → Int) (i : Int) : Int → Int → Int → Int := gu (gu (gu (gu (gu (gu g i 0 7 (g i 0 5)) i 0 5 (-1)) i 0 6 r) i 0 8 to) i 0 9 l) i 0 10 m
def lvB2 (r to m l : Int) (b : Int → Int) (i : Int) : Int → Int := bu (bu (bu (bu (bu b (114 + i) (b (58 + i))) (122 + i) r) (66 + i) to) (74 + i) m) (82 + i) l
theorem lvG1 (r to m l : Int) (g g' : Int → Int → Int → Int) (i : Int) (h : ∀ j k, g i j k = g' i j k) (j k : Int) : lvG r to m l g i i j k = lvG r to m l g' i i j k := by
  simp only [lvG, gu, h]
theorem lvG2 (r to m l : Int) (g : Int → Int → Int → Int) (i q j k : Int) (h : ¬ q = i) : lvG r to m l g i q j k = g q j k := by
  simp only [lvG, gu, h, false_and, if_false]
theorem lvB1 (r to m l : Int) (b b' : Int → Int) (i : Int) (h1 : 0 ≤ i) (h2 : i < 8) (h : ∀ z, own z = i ∨ ¬ (58 ≤ z ∧ z < 226) → b z = b' z) (z : Int) (hz : own z = i) : lvB2 r to m l b i z = lvB2 r to m l b' i z := by
  simp only [lvB2, bu]
  rw [h z (Or.inl hz), h (58 + i) (Or.inl (own_0 h1 h2))]
theorem lvB2' (r to m l : Int) (b : Int → Int) (i z : Int) (h1 : 0 ≤ i) (h2 : i < 8) (h : ¬ own z = i) : lvB2 r to m l b i z = b z := by
  unfold lvB2
  rw [bu_o (fun e => h (by rw [e]; exact own_3 h1 h2)), bu_o (fun e => h (by rw [e]; exact own_2 h1 h2)), bu_o (fun e => h (by rw [e]; exact own_1 h1 h2)), bu_o (fun e => h (by rw [e]; exact own_8 h1 h2)), bu_o (fun e => h (by rw [e]; exact own_7 h1 h2))]
theorem c_leaveBy {i r to m l : Int} {L : Nat} {M : KM} {g : Int → Int → Int → Int} (h1 : 0 ≤ i) (h2 : i < 8) : f_X7_leaveBy (L + 6 + 8 + 3 * i.toNat) (zI r) (zI to) (zI l) (zI m) (ps M L g) = ps M L (lvG r to m l g i) := by
  unfold f_X7_leaveBy
  simp (disch := first | omega | assumption) only [↓lt, Option.bind_some, zl, ll, zadd, zsub, zmul, zneg, ladd, lsub, lmul, lneg, zltT, zltF, zleT, zleF, zeqT, zeqF, zidx, ixT, zwide, bIT, bIF, if_true, if_false, ↓reduceIte, Nat.reduceAdd, Int.reduceAdd, Int.reduceMul, Int.reduceSub, Int.reduceNeg, cs_c, cs_o, cs_2, cu_c, cu_o, Int.cast_ofNat_Int, ps_f, ps_g, ps_w, ps_o, ps_2, pu_f, pu_g, pu_w, pu_o, uI_s, uI_o, uI_j, uI_j1, uI_j2, uI_tw, or0, true_or, or_true, false_or, or_false, nar0, nar1]
  rfl
/-- who of a set is not there -/
def awB (b : Int → Int) (p s : Int) : Int := fstI (fun q => hasS s q && !(decide (b (66 + q) < 0 ∧ b (58 + q) = b (58 + p)))) (b 2).toNat 0
theorem c_areAllAt {b : Int → Int} {p s : Int} {L n : Nat} {M : KM} {g : Int → Int → Int → Int} (hL : HL M L b) (hg : GR g b) (hb : WB b) (h1 : 0 ≤ p) (h2 : p < b 2) (h3 : 0 ≤ s) (h4 : s < 256) (hn : 20 < n) : f_X2_areAllAt n L (zI s) (zI (b (58 + p))) (ps M L g) = some (zI (if awB b p s = -1 then 1 else 0)) := by
  have hM := hL
  have hh := hb.1
  unfold WH at hh
  have e2 := WPb hb h1 h2
  obtain ⟨q0, q1, q2, -, -, -, -, -, -, -, -, -, -, -, -⟩ := hM
  have hi : 0 ≤ b 2 ∧ b 2 ≤ 8 ∧ b 0 ≤ 8 := by omega
  clear hh
  unfold f_X2_areAllAt awB
  rw [show (0 : Int32) = zI 0 from rfl]
  refine loop_fst (lp := fun n i => lp_X2_areAllAt_2 n L (zI s) (zI (b (58 + p))) (ps M L g) i) (P := fun q => hasS s q && !(decide (b (66 + q) < 0 ∧ b (58 + q) = b (58 + p)))) (res := fun i => some (zI (if i = -1 then 1 else 0))) (N := 0) (R := b 2) ?_ ?_ _ 0 n (by omega) (by omega) (by omega)
  · intro n i _ h5 h6
    have e := hg.1 i h5 h6
    have e3 := WPb hb h5 h6
    unfold GP at e
    rw [lp_X2_areAllAt_2]
    have e4 : -1 ≤ g i 0 5 ∧ g i 0 5 < 8 := by omega
    by_cases t : hasS s i = true
    · by_cases t2 : b (66 + i) < 0 ∧ b (58 + i) = b (58 + p)
      · have e5 : g i 0 5 = b (58 + p) := by omega
        clear e e3
        rw [t, decide_eq_true t2]
        simp (disch := first | omega | assumption) only [↓lt, Option.bind_some, zl, ll, zadd, zsub, zmul, zneg, ladd, lsub, lmul, lneg, zltT, zltF, zleT, zleF, zeqT, zeqF, zidx, ixT, zwide, bIT, bIF, if_true, if_false, ↓reduceIte, Nat.reduceAdd, Int.reduceAdd, Int.reduceMul, Int.reduceSub, Int.reduceNeg, cs_c, cs_o, cs_2, cu_c, cu_o, Int.cast_ofNat_Int, ps_f, ps_g, ps_w, ps_o, ps_2, pu_f, pu_g, pu_w, pu_o, uI_s, uI_o, uI_j, uI_j1, uI_j2, uI_tw, or0, true_or, or_true, false_or, or_false, nar0, nar1, q2, hs_c, t, not_true_eq_false, Bool.not_true, Bool.and_false, Bool.false_eq_true]
      · have e5 : ¬ g i 0 5 = b (58 + p) := by omega
        clear e e3
        rw [t, decide_eq_false t2]
        simp (disch := first | omega | assumption) only [↓lt, Option.bind_some, zl, ll, zadd, zsub, zmul, zneg, ladd, lsub, lmul, lneg, zltT, zltF, zleT, zleF, zeqT, zeqF, zidx, ixT, zwide, bIT, bIF, if_true, if_false, ↓reduceIte, Nat.reduceAdd, Int.reduceAdd, Int.reduceMul, Int.reduceSub, Int.reduceNeg, cs_c, cs_o, cs_2, cu_c, cu_o, Int.cast_ofNat_Int, ps_f, ps_g, ps_w, ps_o, ps_2, pu_f, pu_g, pu_w, pu_o, uI_s, uI_o, uI_j, uI_j1, uI_j2, uI_tw, or0, true_or, or_true, false_or, or_false, nar0, nar1, q2, hs_c, t, not_true_eq_false, Bool.not_false, Bool.and_true]
        rw [if_neg (by omega)]
    · have t2 : hasS s i = false := by simpa using t
      clear e e3
      rw [t2]
      simp (disch := first | omega | assumption) only [↓lt, Option.bind_some, zl, ll, zadd, zsub, zmul, zneg, ladd, lsub, lmul, lneg, zltT, zltF, zleT, zleF, zeqT, zeqF, zidx, ixT, zwide, bIT, bIF, if_true, if_false, ↓reduceIte, Nat.reduceAdd, Int.reduceAdd, Int.reduceMul, Int.reduceSub, Int.reduceNeg, cs_c, cs_o, cs_2, cu_c, cu_o, Int.cast_ofNat_Int, ps_f, ps_g, ps_w, ps_o, ps_2, pu_f, pu_g, pu_w, pu_o, uI_s, uI_o, uI_j, uI_j1, uI_j2, uI_tw, or0, true_or, or_true, false_or, or_false, nar0, nar1, q2, hs_c, t2, Bool.false_and, Bool.false_eq_true, not_false_eq_true]
  · intro n _
    rw [lp_X2_areAllAt_2]
    simp (disch := first | omega | assumption) only [↓lt, Option.bind_some, zl, ll, zadd, zsub, zmul, zneg, ladd, lsub, lmul, lneg, zltT, zltF, zleT, zleF, zeqT, zeqF, zidx, ixT, zwide, bIT, bIF, if_true, if_false, ↓reduceIte, Nat.reduceAdd, Int.reduceAdd, Int.reduceMul, Int.reduceSub, Int.reduceNeg, cs_c, cs_o, cs_2, cu_c, cu_o, Int.cast_ofNat_Int, ps_f, ps_g, ps_w, ps_o, ps_2, pu_f, pu_g, pu_w, pu_o, uI_s, uI_o, uI_j, uI_j1, uI_j2, uI_tw, or0, true_or, or_true, false_or, or_false, nar0, nar1, q2]

