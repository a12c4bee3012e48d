/-! ===== pairs, what must be planted ===== -/
def pmB (b : Int → Int) : Int → Int := (itS b 64 s0).1
def paB (b : Int → Int) : Int → Int → Bool := (itS b 64 s0).2
theorem pm_GS {b : Int → Int} (h0 : 0 ≤ b 2) : GS b (pmB b, paB b) := (itS_R h0 64 s0 s0_R).1
theorem Sc_pq {M : KM} {m : Int → Int} {A : Int → Int → Bool} : Sc M (pq M 20 21 m A) := ⟨rfl, fun a k u v => pq_o (by omega) (by omega)⟩
theorem e_pairs {M : KM} {L n : Nat} {g : Int → Int → Int → Int} {b : Int → Int} (h : CI M L g b) (hn : 300 ≤ n) : f_X5_findPairs n 19 L (ps M L g) = some (ps (pq M 20 21 (pmB b) (paB b)) L g) := by
  obtain ⟨hP, hL, hg, hb, hm, hC⟩ := h; have hp0 : M.2.2 0 10 = L := hP.1; have hl := Ptr_L hP; have hq := Ptr_P hP; have hh := hb.1; unfold WH at hh
  clear hh
  have ec := c_findPairs (n := n) (M := M) (g := g) (HL_rw hl hL) hl hg hb (by omega)
  rw [cs_rw (M := M) (N := M) (fun _ => rfl), cs_rw (M := M) (N := pq M 20 21 (itS b 64 s0).1 (itS b 64 s0).2) (fun k => pq_o (by omega) (by omega))] at ec
  exact ec
theorem q_pair {x : Int} {M : KM} {L n : Nat} {g : Int → Int → Int → Int} {b : Int → Int} (h : CI M L g b) (hn : 300 ≤ n) (w : 0 ≤ x ∧ x < b 2) : Ro (f_X11_pair n 0 (zI x)) M L g (zI (pmB b x)) := by
  have ec := e_pairs (n := n) h hn
  obtain ⟨hP, hL, hg, hb, hm, hC⟩ := h; have hp0 : M.2.2 0 10 = L := hP.1; have hl := Ptr_L hP; have hq := Ptr_P hP; have hh := hb.1; unfold WH at hh
  have hi : 0 ≤ b 2 ∧ b 2 ≤ 8 := by omega
  clear hh
  have mr := mr_of hb (pm_GS (b := b) hi.1) (j := x)
  have ep := c_hasPerson (g := g) (p := x) hL (by omega) (by omega) hi.1 hi.2
  rw [bIT w] at ep
  generalize paB b = A at *
  generalize pmB b = m at *
  by_cases k : m x = -1
  · refine ⟨uI (pq M 20 21 m A) 0 15 (zI 8), ?_, Sc_s2 Sc_pq⟩
    unfold f_X11_pair
    simp (disch := first | omega | assumption) only [↓lt, Option.bind_some, zl, ll, zadd, zsub, zmul, zneg, ladd, lsub, lmul, lneg, zltT, zltF, zleT, zleF, zeqT, zeqF, zidx, ixT, zwide, bIT, bIF, if_true, if_false, ↓reduceIte, Nat.reduceAdd, Int.reduceAdd, Int.reduceMul, Int.reduceSub, Int.reduceNeg, cs_c, cs_o, cs_2, cu_c, cu_o, Int.cast_ofNat_Int, ps_f, ps_g, ps_w, ps_o, ps_2, pu_f, pu_g, pu_w, pu_o, uI_s, uI_o, uI_j, uI_j1, uI_j2, uI_tw, or0, true_or, or_true, false_or, or_false, nar0, nar1, pq_m, pq_a, pq_o, pq_um, pq_uA, f_X11_tell, f_X11_refuse, f_X11_tellIf, f_X11_tellOrNone, f_X11_tellSooner, f_X11_deny, f_X11_succeed, hp0, ep, ec, k]
  · have mr2 := mr.resolve_left k
    refine ⟨uI (pq M 20 21 m A) 0 15 (zI 0), ?_, Sc_s2 Sc_pq⟩
    unfold f_X11_pair
    simp (disch := first | omega | assumption) only [↓lt, Option.bind_some, zl, ll, zadd, zsub, zmul, zneg, ladd, lsub, lmul, lneg, zltT, zltF, zleT, zleF, zeqT, zeqF, zidx, ixT, zwide, bIT, bIF, if_true, if_false, ↓reduceIte, Nat.reduceAdd, Int.reduceAdd, Int.reduceMul, Int.reduceSub, Int.reduceNeg, cs_c, cs_o, cs_2, cu_c, cu_o, Int.cast_ofNat_Int, ps_f, ps_g, ps_w, ps_o, ps_2, pu_f, pu_g, pu_w, pu_o, uI_s, uI_o, uI_j, uI_j1, uI_j2, uI_tw, or0, true_or, or_true, false_or, or_false, nar0, nar1, pq_m, pq_a, pq_o, pq_um, pq_uA, f_X11_tell, f_X11_refuse, f_X11_tellIf, f_X11_tellOrNone, f_X11_tellSooner, f_X11_deny, f_X11_succeed, hp0, ep, ec]
/-- how many pairs, how much is owed in them -/
def npB (b : Int → Int) : Int := sumB (fun p => if sgt b p ∧ ¬ pmB b p = -1 then 1 else 0) (b 2)
def noB (b : Int → Int) : Int := sumB (fun p => if sgt b p ∧ ¬ pmB b p = -1 then aV (b (226 + 8 * p + pmB b p)) else 0) (b 2)
theorem q_pairs {M : KM} {L n : Nat} {g : Int → Int → Int → Int} {b : Int → Int} (h : CI M L g b) (hn : 300 ≤ n) : Ro (f_X11_pairs n 0) M L g (zI (npB b)) := by
  have ec := e_pairs (n := n) h hn
  obtain ⟨hP, hL, hg, hb, hm, hC⟩ := h; have hp0 : M.2.2 0 10 = L := hP.1; have hl := Ptr_L hP; have hq := Ptr_P hP; have hh := hb.1; unfold WH at hh
  have hi : 0 ≤ b 2 ∧ b 2 ≤ 8 := by omega
  clear hh
  have w2 : M.1 L 10 = zI (b 2) := hL.2.2.1
  have mr := fun j => mr_of hb (pm_GS (b := b) hi.1) (j := j)
  unfold npB
  generalize paB b = A at *
  generalize pmB b = m at *
  have e1 : lp_X5_countPairs_4 n 19 L (ps (pq M 20 21 m A) L g) (zI 0) (zI 0) = some (zI (sumB (fun p => if sgt b p ∧ ¬ m p = -1 then 1 else 0) (b 2))) := by
    refine loop_sum (lp := fun n i w => lp_X5_countPairs_4 n 19 L (ps (pq M 20 21 m A) L g) w i) (fun p => if sgt b p ∧ ¬ m p = -1 then 1 else 0) (fin := fun w => some w) (N := 1) (R := b 2) hi.1 (fun k i w hk u v => ?_) (fun k w _ => ?_) (by omega)
    · have gp := hg.1 i u v
      have ez := WPb hb u v
      unfold GP at gp
      have g3 : g i 0 3 = 1 - b (106 + i) := gp.1
      have i3 : 0 ≤ b (106 + i) ∧ b (106 + i) ≤ 1 := by omega
      have mi := mr i
      clear gp ez
      show lp_X5_countPairs_4 (k + 1) 19 L (ps (pq M 20 21 m A) L g) (zI w) (zI i) = lp_X5_countPairs_4 k 19 L (ps (pq M 20 21 m A) L g) (zI (w + if sgt b i ∧ ¬ m i = -1 then 1 else 0)) (zI (i + 1))
      by_cases h1 : b (106 + i) = 0
      · by_cases h2 : m i = -1
        · rw [if_neg (show ¬ (sgt b i ∧ ¬ m i = -1) from fun z => z.2 h2), lp_X5_countPairs_4]
          simp (disch := first | omega | assumption) only [↓lt, Option.bind_some, zl, ll, zadd, zsub, zmul, zneg, ladd, lsub, lmul, lneg, zltT, zltF, zleT, zleF, zeqT, zeqF, zidx, ixT, zwide, bIT, bIF, if_true, if_false, ↓reduceIte, Nat.reduceAdd, Int.reduceAdd, Int.reduceMul, Int.reduceSub, Int.reduceNeg, cs_c, cs_o, cs_2, cu_c, cu_o, Int.cast_ofNat_Int, ps_f, ps_g, ps_w, ps_o, ps_2, pu_f, pu_g, pu_w, pu_o, uI_s, uI_o, uI_j, uI_j1, uI_j2, uI_tw, or0, true_or, or_true, false_or, or_false, nar0, nar1, pq_m, pq_a, pq_o, pq_um, pq_uA, w2, g3, h2, Int.add_zero]
        · rw [if_pos (show sgt b i ∧ ¬ m i = -1 from ⟨⟨u, v, h1⟩, h2⟩), lp_X5_countPairs_4]
          simp (disch := first | omega | assumption) only [↓lt, Option.bind_some, zl, ll, zadd, zsub, zmul, zneg, ladd, lsub, lmul, lneg, zltT, zltF, zleT, zleF, zeqT, zeqF, zidx, ixT, zwide, bIT, bIF, if_true, if_false, ↓reduceIte, Nat.reduceAdd, Int.reduceAdd, Int.reduceMul, Int.reduceSub, Int.reduceNeg, cs_c, cs_o, cs_2, cu_c, cu_o, Int.cast_ofNat_Int, ps_f, ps_g, ps_w, ps_o, ps_2, pu_f, pu_g, pu_w, pu_o, uI_s, uI_o, uI_j, uI_j1, uI_j2, uI_tw, or0, true_or, or_true, false_or, or_false, nar0, nar1, pq_m, pq_a, pq_o, pq_um, pq_uA, w2, g3]
      · rw [if_neg (show ¬ (sgt b i ∧ ¬ m i = -1) from fun z => h1 z.1.2.2), lp_X5_countPairs_4]
        simp (disch := first | omega | assumption) only [↓lt, Option.bind_some, zl, ll, zadd, zsub, zmul, zneg, ladd, lsub, lmul, lneg, zltT, zltF, zleT, zleF, zeqT, zeqF, zidx, ixT, zwide, bIT, bIF, if_true, if_false, ↓reduceIte, Nat.reduceAdd, Int.reduceAdd, Int.reduceMul, Int.reduceSub, Int.reduceNeg, cs_c, cs_o, cs_2, cu_c, cu_o, Int.cast_ofNat_Int, ps_f, ps_g, ps_w, ps_o, ps_2, pu_f, pu_g, pu_w, pu_o, uI_s, uI_o, uI_j, uI_j1, uI_j2, uI_tw, or0, true_or, or_true, false_or, or_false, nar0, nar1, pq_m, pq_a, pq_o, pq_um, pq_uA, w2, g3, Int.add_zero]
    · show lp_X5_countPairs_4 (k + 1) 19 L (ps (pq M 20 21 m A) L g) (zI w) (zI (b 2)) = _
      rw [lp_X5_countPairs_4]
      simp (disch := first | omega | assumption) only [↓lt, Option.bind_some, zl, ll, zadd, zsub, zmul, zneg, ladd, lsub, lmul, lneg, zltT, zltF, zleT, zleF, zeqT, zeqF, zidx, ixT, zwide, bIT, bIF, if_true, if_false, ↓reduceIte, Nat.reduceAdd, Int.reduceAdd, Int.reduceMul, Int.reduceSub, Int.reduceNeg, cs_c, cs_o, cs_2, cu_c, cu_o, Int.cast_ofNat_Int, ps_f, ps_g, ps_w, ps_o, ps_2, pu_f, pu_g, pu_w, pu_o, uI_s, uI_o, uI_j, uI_j1, uI_j2, uI_tw, or0, true_or, or_true, false_or, or_false, nar0, nar1, pq_m, pq_a, pq_o, pq_um, pq_uA, w2]
  refine ⟨uI (pq M 20 21 m A) 0 15 (zI 0), ?_, Sc_s2 Sc_pq⟩
  unfold f_X11_pairs f_X5_countPairs
  simp (disch := first | omega | assumption) only [↓lt, Option.bind_some, zl, ll, zadd, zsub, zmul, zneg, ladd, lsub, lmul, lneg, zltT, zltF, zleT, zleF, zeqT, zeqF, zidx, ixT, zwide, bIT, bIF, if_true, if_false, ↓reduceIte, Nat.reduceAdd, Int.reduceAdd, Int.reduceMul, Int.reduceSub, Int.reduceNeg, cs_c, cs_o, cs_2, cu_c, cu_o, Int.cast_ofNat_Int, ps_f, ps_g, ps_w, ps_o, ps_2, pu_f, pu_g, pu_w, pu_o, uI_s, uI_o, uI_j, uI_j1, uI_j2, uI_tw, or0, true_or, or_true, false_or, or_false, nar0, nar1, pq_m, pq_a, pq_o, pq_um, pq_uA, f_X11_tell, f_X11_refuse, f_X11_tellIf, f_X11_tellOrNone, f_X11_tellSooner, f_X11_deny, f_X11_succeed, hp0, pq_2, ec, e1]
theorem q_pairsOwe {M : KM} {L n : Nat} {g : Int → Int → Int → Int} {b : Int → Int} (h : CI M L g b) (hn : 300 ≤ n) : Ro (f_X11_pairsOwe n 0) M L g (zI (noB b)) := by
  have ec := e_pairs (n := n) h hn
  obtain ⟨hP, hL, hg, hb, hm, hC⟩ := h; have hp0 : M.2.2 0 10 = L := hP.1; have hl := Ptr_L hP; have hq := Ptr_P hP; have hh := hb.1; unfold WH at hh
  have hi : 0 ≤ b 2 ∧ b 2 ≤ 8 := by omega
  clear hh
  have w2 : M.1 L 10 = zI (b 2) := hL.2.2.1
  have mr := fun j => mr_of hb (pm_GS (b := b) hi.1) (j := j)
  unfold noB
  generalize paB b = A at *
  generalize pmB b = m at *
  have e1 : lp_X5_sumOwed_4 n 19 L (ps (pq M 20 21 m A) L g) (zI 0) (zI 0) = some (zI (sumB (fun p => if sgt b p ∧ ¬ m p = -1 then aV (b (226 + 8 * p + m p)) else 0) (b 2))) := by
    refine loop_sum (lp := fun n i w => lp_X5_sumOwed_4 n 19 L (ps (pq M 20 21 m A) L g) w i) (fun p => if sgt b p ∧ ¬ m p = -1 then aV (b (226 + 8 * p + m p)) else 0) (fin := fun w => some w) (N := 1) (R := b 2) hi.1 (fun k i w hk u v => ?_) (fun k w _ => ?_) (by omega)
    · have gp := hg.1 i u v
      have ez := WPb hb u v
      unfold GP at gp
      have g3 : g i 0 3 = 1 - b (106 + i) := gp.1
      have i3 : 0 ≤ b (106 + i) ∧ b (106 + i) ≤ 1 := by omega
      have mi := mr i
      clear gp ez
      show lp_X5_sumOwed_4 (k + 1) 19 L (ps (pq M 20 21 m A) L g) (zI w) (zI i) = lp_X5_sumOwed_4 k 19 L (ps (pq M 20 21 m A) L g) (zI (w + if sgt b i ∧ ¬ m i = -1 then aV (b (226 + 8 * i + m i)) else 0)) (zI (i + 1))
      by_cases h1 : b (106 + i) = 0
      · by_cases h2 : m i = -1
        · rw [if_neg (show ¬ (sgt b i ∧ ¬ m i = -1) from fun z => z.2 h2), lp_X5_sumOwed_4]
          simp (disch := first | omega | assumption) only [↓lt, Option.bind_some, zl, ll, zadd, zsub, zmul, zneg, ladd, lsub, lmul, lneg, zltT, zltF, zleT, zleF, zeqT, zeqF, zidx, ixT, zwide, bIT, bIF, if_true, if_false, ↓reduceIte, Nat.reduceAdd, Int.reduceAdd, Int.reduceMul, Int.reduceSub, Int.reduceNeg, cs_c, cs_o, cs_2, cu_c, cu_o, Int.cast_ofNat_Int, ps_f, ps_g, ps_w, ps_o, ps_2, pu_f, pu_g, pu_w, pu_o, uI_s, uI_o, uI_j, uI_j1, uI_j2, uI_tw, or0, true_or, or_true, false_or, or_false, nar0, nar1, pq_m, pq_a, pq_o, pq_um, pq_uA, w2, g3, h2, Int.add_zero]
        · have m2 := mi.resolve_left h2
          have go := hg.2.2.1 i (m i) u v m2.1.1 m2.1.2
          have ro := hb.2.2.2.2.1 i (m i) u (by omega) m2.1.1 (by omega)
          have az := aV_z ⟨ro.1, ro.2.1⟩
          rw [if_pos (show sgt b i ∧ ¬ m i = -1 from ⟨⟨u, v, h1⟩, h2⟩), lp_X5_sumOwed_4]
          clear ro
          generalize b (226 + 8 * i + m i) = V at *
          simp (disch := first | omega | assumption) only [↓lt, Option.bind_some, zl, ll, zadd, zsub, zmul, zneg, ladd, lsub, lmul, lneg, zltT, zltF, zleT, zleF, zeqT, zeqF, zidx, ixT, zwide, bIT, bIF, if_true, if_false, ↓reduceIte, Nat.reduceAdd, Int.reduceAdd, Int.reduceMul, Int.reduceSub, Int.reduceNeg, cs_c, cs_o, cs_2, cu_c, cu_o, Int.cast_ofNat_Int, ps_f, ps_g, ps_w, ps_o, ps_2, pu_f, pu_g, pu_w, pu_o, uI_s, uI_o, uI_j, uI_j1, uI_j2, uI_tw, or0, true_or, or_true, false_or, or_false, nar0, nar1, pq_m, pq_a, pq_o, pq_um, pq_uA, w2, g3, go, az]
      · rw [if_neg (show ¬ (sgt b i ∧ ¬ m i = -1) from fun z => h1 z.1.2.2), lp_X5_sumOwed_4]
        simp (disch := first | omega | assumption) only [↓lt, Option.bind_some, zl, ll, zadd, zsub, zmul, zneg, ladd, lsub, lmul, lneg, zltT, zltF, zleT, zleF, zeqT, zeqF, zidx, ixT, zwide, bIT, bIF, if_true, if_false, ↓reduceIte, Nat.reduceAdd, Int.reduceAdd, Int.reduceMul, Int.reduceSub, Int.reduceNeg, cs_c, cs_o, cs_2, cu_c, cu_o, Int.cast_ofNat_Int, ps_f, ps_g, ps_w, ps_o, ps_2, pu_f, pu_g, pu_w, pu_o, uI_s, uI_o, uI_j, uI_j1, uI_j2, uI_tw, or0, true_or, or_true, false_or, or_false, nar0, nar1, pq_m, pq_a, pq_o, pq_um, pq_uA, w2, g3, Int.add_zero]
    · show lp_X5_sumOwed_4 (k + 1) 19 L (ps (pq M 20 21 m A) L g) (zI w) (zI (b 2)) = _
      rw [lp_X5_sumOwed_4]
      simp (disch := first | omega | assumption) only [↓lt, Option.bind_some, zl, ll, zadd, zsub, zmul, zneg, ladd, lsub, lmul, lneg, zltT, zltF, zleT, zleF, zeqT, zeqF, zidx, ixT, zwide, bIT, bIF, if_true, if_false, ↓reduceIte, Nat.reduceAdd, Int.reduceAdd, Int.reduceMul, Int.reduceSub, Int.reduceNeg, cs_c, cs_o, cs_2, cu_c, cu_o, Int.cast_ofNat_Int, ps_f, ps_g, ps_w, ps_o, ps_2, pu_f, pu_g, pu_w, pu_o, uI_s, uI_o, uI_j, uI_j1, uI_j2, uI_tw, or0, true_or, or_true, false_or, or_false, nar0, nar1, pq_m, pq_a, pq_o, pq_um, pq_uA, w2]
  refine ⟨uI (pq M 20 21 m A) 0 15 (zI 0), ?_, Sc_s2 Sc_pq⟩
  unfold f_X11_pairsOwe f_X5_sumOwed
  simp (disch := first | omega | assumption) only [↓lt, Option.bind_some, zl, ll, zadd, zsub, zmul, zneg, ladd, lsub, lmul, lneg, zltT, zltF, zleT, zleF, zeqT, zeqF, zidx, ixT, zwide, bIT, bIF, if_true, if_false, ↓reduceIte, Nat.reduceAdd, Int.reduceAdd, Int.reduceMul, Int.reduceSub, Int.reduceNeg, cs_c, cs_o, cs_2, cu_c, cu_o, Int.cast_ofNat_Int, ps_f, ps_g, ps_w, ps_o, ps_2, pu_f, pu_g, pu_w, pu_o, uI_s, uI_o, uI_j, uI_j1, uI_j2, uI_tw, or0, true_or, or_true, false_or, or_false, nar0, nar1, pq_m, pq_a, pq_o, pq_um, pq_uA, f_X11_tell, f_X11_refuse, f_X11_tellIf, f_X11_tellOrNone, f_X11_tellSooner, f_X11_deny, f_X11_succeed, hp0, pq_2, ec, e1]
theorem q_plantSet {x y : Int} {M : KM} {L n : Nat} {g : Int → Int → Int → Int} {b : Int → Int} (h : CI M L g b) (hn : 300 ≤ n) (w : 0 ≤ x ∧ x < b 2) (v : 0 ≤ y ∧ y < b 0) (u : b (66 + x) < 0) : Ro (f_X11_plantSet n 0 (zI x) (zI y)) M L g (zI (if b (106 + x) = 1 then ptB b x y else -1)) := by
  obtain ⟨hP, hL, hg, hb, hm, hC⟩ := h; have hp0 : M.2.2 0 10 = L := hP.1; have hl := Ptr_L hP; have hq := Ptr_P hP; have hh := hb.1; unfold WH at hh
  have hi : 0 ≤ b 2 ∧ b 2 ≤ 8 ∧ 0 ≤ b 0 ∧ b 0 ≤ 8 := by omega
  clear hh
  have hcs : ∀ N : KM, (∀ k, N.1 232 k = M.1 232 k) → cs N (rw2 M) = N := fun N k => cs_rw k
  have ew := c_whyNotAt (n := n) (M := M) (g := g) (x := x) hL hg hb hp0 (by omega) (by omega)
  have ez := WPb hb w.1 w.2
  have gp := hg.1 x w.1 w.2
  unfold GP at gp
  have g3 : g x 0 3 = 1 - b (106 + x) := gp.1
  have i3 : 0 ≤ b (106 + x) ∧ b (106 + x) ≤ 1 ∧ b (66 + x) = -1 := by omega
  rw [if_pos w, if_neg (show ¬ 0 ≤ b (66 + x) by omega)] at ew
  clear ez gp
  have ep := c_hasPlace (g := g) (p := y) hL (by omega) (by omega) hi.2.2.1 hi.2.2.2
  rw [bIT v] at ep
  by_cases hb1 : b (106 + x) = 1
  · rw [if_pos hb1]
    obtain ⟨T, ec⟩ := c_plantingCost (n := n) (M := M) (g := g) (HL_rw hl hL) hl hg hb w.1 w.2 i3.2.2 v.1 v.2 (by omega)
    rw [hcs M (fun _ => rfl), hcs (rs M 15 T) (fun k => rs_o (by omega))] at ec
    rcases plant_eq hb hb1 w.1 w.2 v.1 (show y < 8 by omega) with ⟨e1, e2⟩ | ⟨e1, e2, e3, e4, e5⟩
    · rw [e2] at ec
      rw [e1]
      refine ⟨uI (rs M 15 T) 0 15 (zI 8), ?_, Sc_s2 (Sc_rs (by omega))⟩
      unfold f_X11_plantSet f_X11_whyNoPlanting f_X11_whyNoWay
      simp (disch := first | omega | assumption) only [↓lt, Option.bind_some, zl, ll, zadd, zsub, zmul, zneg, ladd, lsub, lmul, lneg, zltT, zltF, zleT, zleF, zeqT, zeqF, zidx, ixT, zwide, bIT, bIF, if_true, if_false, ↓reduceIte, Nat.reduceAdd, Int.reduceAdd, Int.reduceMul, Int.reduceSub, Int.reduceNeg, cs_c, cs_o, cs_2, cu_c, cu_o, Int.cast_ofNat_Int, ps_f, ps_g, ps_w, ps_o, ps_2, pu_f, pu_g, pu_w, pu_o, uI_s, uI_o, uI_j, uI_j1, uI_j2, uI_tw, or0, true_or, or_true, false_or, or_false, nar0, nar1, f_X11_tell, f_X11_refuse, f_X11_tellIf, f_X11_tellOrNone, f_X11_tellSooner, f_X11_deny, f_X11_succeed, hp0, ep, ew, g3, hb1, ec]
    · generalize ptB b x y = B at *
      generalize sz B = Z at *
      rw [e5] at ec
      have ed : (4096 * Z + B) / 4096 = Z := by omega
      have er : 4096 * Z + B - Z * 4096 = B := by omega
      refine ⟨uI (rs M 15 T) 0 15 (zI 0), ?_, Sc_s2 (Sc_rs (by omega))⟩
      unfold f_X11_plantSet f_X11_whyNoPlanting f_X11_whyNoWay
      simp (disch := first | omega | assumption) only [↓lt, Option.bind_some, zl, ll, zadd, zsub, zmul, zneg, ladd, lsub, lmul, lneg, zltT, zltF, zleT, zleF, zeqT, zeqF, zidx, ixT, zwide, bIT, bIF, if_true, if_false, ↓reduceIte, Nat.reduceAdd, Int.reduceAdd, Int.reduceMul, Int.reduceSub, Int.reduceNeg, cs_c, cs_o, cs_2, cu_c, cu_o, Int.cast_ofNat_Int, ps_f, ps_g, ps_w, ps_o, ps_2, pu_f, pu_g, pu_w, pu_o, uI_s, uI_o, uI_j, uI_j1, uI_j2, uI_tw, or0, true_or, or_true, false_or, or_false, nar0, nar1, f_X11_tell, f_X11_refuse, f_X11_tellIf, f_X11_tellOrNone, f_X11_tellSooner, f_X11_deny, f_X11_succeed, hp0, ep, ew, g3, hb1, ec, zdiv, ed, er]
  · rw [if_neg hb1]
    have hb0 : b (106 + x) = 0 := by omega
    refine ro_s (s := zI 9) ?_
    unfold f_X11_plantSet f_X11_whyNoPlanting f_X11_whyNoWay
    simp (disch := first | omega | assumption) only [↓lt, Option.bind_some, zl, ll, zadd, zsub, zmul, zneg, ladd, lsub, lmul, lneg, zltT, zltF, zleT, zleF, zeqT, zeqF, zidx, ixT, zwide, bIT, bIF, if_true, if_false, ↓reduceIte, Nat.reduceAdd, Int.reduceAdd, Int.reduceMul, Int.reduceSub, Int.reduceNeg, cs_c, cs_o, cs_2, cu_c, cu_o, Int.cast_ofNat_Int, ps_f, ps_g, ps_w, ps_o, ps_2, pu_f, pu_g, pu_w, pu_o, uI_s, uI_o, uI_j, uI_j1, uI_j2, uI_tw, or0, true_or, or_true, false_or, or_false, nar0, nar1, f_X11_tell, f_X11_refuse, f_X11_tellIf, f_X11_tellOrNone, f_X11_tellSooner, f_X11_deny, f_X11_succeed, hp0, ep, ew, g3, hb0]
