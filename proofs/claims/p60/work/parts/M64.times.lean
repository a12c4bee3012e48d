/-! ===== one pass over the roads, by the class ===== -/
abbrev okB2 (B : Int) (T : Int → Int) : Prop := ∀ j, 0 ≤ j → j < 8 → 0 ≤ T j ∧ (T j ≤ B ∨ T j = 1000000000)
theorem rlx_ok {b T : Int → Int} {p q r f t B : Int} (hb : WB b) (hB : B ≤ 900000) (hT : okB2 B T) (h3 : 0 ≤ r) (h4 : r < b 1) (f1 : 0 ≤ f) (f2 : f < 8) : okB2 (B + 2880) (rlx b p q r f t T) := by
  intro j j1 j2
  have Tj := hT j j1 j2
  have Tf := hT f f1 f2
  have ra := a2I_r (p := p) (q := q) hb h3 h4 Tf.1 (by omega)
  unfold rlx
  by_cases w : a2I b p q r (T f) < T t
  · rw [if_pos w]
    by_cases e : j = t
    · rw [e, bu_s]; omega
    · rw [bu_o e]; omega
  · rw [if_neg w]; omega
def bth (b : Int → Int) (p q r : Int) (T : Int → Int) : Int → Int := rlx b p q r (b (22 + r)) (b (10 + r)) (rlx b p q r (b (10 + r)) (b (22 + r)) T)
def pass (b : Int → Int) (p q : Int) (T : Int → Int) : Int → Int := fI (bth b p q) (b 1).toNat 0 T
theorem bth_ok {b T : Int → Int} {p q r B : Int} (hb : WB b) (hB : B + 2880 ≤ 900000) (hT : okB2 B T) (h3 : 0 ≤ r) (h4 : r < b 1) : okB2 (B + 5760) (bth b p q r T) := by
  have hh := hb.1
  unfold WH at hh
  have hR := hb.2.1 r h3 h4
  unfold WR at hR
  have e1 := rlx_ok (p := p) (q := q) (t := b (22 + r)) hb (by omega) hT h3 h4 (show 0 ≤ b (10 + r) by omega) (by omega)
  have e2 := rlx_ok (p := p) (q := q) (t := b (10 + r)) hb hB e1 h3 h4 (show 0 ≤ b (22 + r) by omega) (by omega)
  intro j j1 j2
  have := e2 j j1 j2
  unfold bth
  omega
theorem min_rlx {b T : Int → Int} {p q r f t : Int} : bu T t (if a2I b p q r (T f) < T t then a2I b p q r (T f) else T t) = rlx b p q r f t T := by
  unfold rlx
  by_cases w : a2I b p q r (T f) < T t
  · rw [if_pos w, if_pos w]
  · rw [if_neg w, if_neg w]
    funext j
    by_cases e : j = t
    · rw [e, bu_s]
    · rw [bu_o e]
theorem c_pass {b T : Int → Int} {dd : Int → Int} {p q B : Int} {L n : Nat} {M : KM} {g : Int → Int → Int → Int} {c6 : Int32} {κ : KM → Option KM} (hL : HL (cs M dd) L b) (hl : 23 ≤ L ∧ L ≤ 61) (hg : GR g b) (hb : WB b) (hB : 0 ≤ B ∧ B + 80000 ≤ 900000) (hT : okB2 B T) (h1 : 0 ≤ p) (h2 : p < b 2) (hq : q = -1 ∨ (0 ≤ q ∧ q < b 2)) (hn : 100 < n) : lp_X6_findTimes_24 n 14 L (zI p) (zI q) c6 (zI 0) (ps (cs (rs M 15 T) dd) L g) κ = κ (ps (cs (rs M 15 (pass b p q T)) dd) L g) := by
  have hh := hb.1
  unfold WH at hh
  have hi : 0 ≤ b 1 ∧ b 1 ≤ 12 := by omega
  clear hh
  have hLM := (HL_cs hl.2).mp hL
  have w1 : M.1 L 9 = zI (b 1) := hLM.2.1
  obtain ⟨-, -, -, -, -, -, -, -, -, -, -, qa, qb, -, -⟩ := hLM
  have hLT : ∀ T, HL (cs (rs M 15 T) dd) L b := fun T => (HL_cs hl.2).mpr (HL_of (fun a k x y => rs_o (by omega)) ((HL_cs hl.2).mp hL))
  refine (loop_f (lp := fun k r T => lp_X6_findTimes_24 k 14 L (zI p) (zI q) c6 r (ps (cs (rs M 15 T) dd) L g) κ) (f := bth b p q) (fin := fun T => κ (ps (cs (rs M 15 T) dd) L g)) (fun r T => okB2 (B + 5760 * r) T) (N := 60) (R := b 1) (fun k r T hk u v hT => ⟨?_, ?_⟩) (fun k T _ _ => ?_) (b 1).toNat 0 T n (by omega) (by omega) (by omega) (by rw [Int.mul_zero, Int.add_zero]; exact hT)).1
  · have hR := hb.2.1 r u v
    unfold WR at hR
    have ea1 := qa r u v
    have eb1 := qb r u v
    have i1 : 0 ≤ b (10 + r) ∧ b (10 + r) < 8 ∧ 0 ≤ b (22 + r) ∧ b (22 + r) < 8 := by
      have := hb.1
      unfold WH at this
      omega
    clear hR
    have T1 := hT (b (10 + r)) i1.1 i1.2.1
    have T2 := hT (b (22 + r)) i1.2.2.1 i1.2.2.2
    have ok1 := rlx_ok (p := p) (q := q) (t := b (22 + r)) hb (show B + 5760 * r ≤ 900000 by omega) hT u v i1.1 i1.2.1
    have U1 := ok1 (b (10 + r)) i1.1 i1.2.1
    have U2 := ok1 (b (22 + r)) i1.2.2.1 i1.2.2.2
    have c1 := c_arrival (n := k) (hLT T) hg hb h1 h2 hq u v T1.1 (by omega)
    have c2 := c_arrival (n := k) (hLT (rlx b p q r (b (10 + r)) (b (22 + r)) T)) hg hb h1 h2 hq u v U2.1 (by omega)
    have m1 := min_rlx (b := b) (T := T) (p := p) (q := q) (r := r) (f := b (10 + r)) (t := b (22 + r))
    have m2 := min_rlx (b := b) (T := rlx b p q r (b (10 + r)) (b (22 + r)) T) (p := p) (q := q) (r := r) (f := b (22 + r)) (t := b (10 + r))
    have a1 := a2I_r (p := p) (q := q) hb u v T1.1 (by omega)
    have a2 := a2I_r (p := p) (q := q) hb u v U2.1 (by omega)
    unfold bth
    rw [← m2]
    generalize hT1 : rlx b p q r (b (10 + r)) (b (22 + r)) T = T' at *
    generalize a2I b p q r (T (b (10 + r))) = A at *
    generalize a2I b p q r (T' (b (22 + r))) = A' at *
    clear ok1 hT hT1
    rw [lp_X6_findTimes_24]
    by_cases y1 : A < T (b (22 + r))
    · rw [if_pos y1] at m1
      have hv : T' (b (22 + r)) = A := by rw [← m1, bu_s]
      rw [hv] at c2
      by_cases y2 : A' < T' (b (10 + r))
      · rw [if_pos y2]
        simp (disch := first | omega | assumption) only [↓lt, Option.bind_some, zl, ll, zadd, zsub, zmul, zneg, ladd, lsub, lmul, lneg, zltT, zltF, zleT, zleF, zeqT, zeqF, zidx, ixT, zwide, bIT, bIF, if_true, if_false, ↓reduceIte, Nat.reduceAdd, Int.reduceAdd, Int.reduceMul, Int.reduceSub, Int.reduceNeg, cs_c, cs_o, cs_2, cu_c, cu_o, Int.cast_ofNat_Int, ps_f, ps_g, ps_w, ps_o, ps_2, pu_f, pu_g, pu_w, pu_o, uI_s, uI_o, uI_j, uI_j1, uI_j2, uI_tw, or0, true_or, or_true, false_or, or_false, nar0, nar1, rs_o, rs_s, rs_u, w1, ea1, eb1, c1, m1, c2]
      · rw [if_neg y2]
        simp (disch := first | omega | assumption) only [↓lt, Option.bind_some, zl, ll, zadd, zsub, zmul, zneg, ladd, lsub, lmul, lneg, zltT, zltF, zleT, zleF, zeqT, zeqF, zidx, ixT, zwide, bIT, bIF, if_true, if_false, ↓reduceIte, Nat.reduceAdd, Int.reduceAdd, Int.reduceMul, Int.reduceSub, Int.reduceNeg, cs_c, cs_o, cs_2, cu_c, cu_o, Int.cast_ofNat_Int, ps_f, ps_g, ps_w, ps_o, ps_2, pu_f, pu_g, pu_w, pu_o, uI_s, uI_o, uI_j, uI_j1, uI_j2, uI_tw, or0, true_or, or_true, false_or, or_false, nar0, nar1, rs_o, rs_s, rs_u, w1, ea1, eb1, c1, m1, c2]
    · rw [if_neg y1] at m1
      have hv : T' (b (22 + r)) = T (b (22 + r)) := by rw [← m1, bu_s]
      rw [hv] at c2
      by_cases y2 : A' < T' (b (10 + r))
      · rw [if_pos y2]
        simp (disch := first | omega | assumption) only [↓lt, Option.bind_some, zl, ll, zadd, zsub, zmul, zneg, ladd, lsub, lmul, lneg, zltT, zltF, zleT, zleF, zeqT, zeqF, zidx, ixT, zwide, bIT, bIF, if_true, if_false, ↓reduceIte, Nat.reduceAdd, Int.reduceAdd, Int.reduceMul, Int.reduceSub, Int.reduceNeg, cs_c, cs_o, cs_2, cu_c, cu_o, Int.cast_ofNat_Int, ps_f, ps_g, ps_w, ps_o, ps_2, pu_f, pu_g, pu_w, pu_o, uI_s, uI_o, uI_j, uI_j1, uI_j2, uI_tw, or0, true_or, or_true, false_or, or_false, nar0, nar1, rs_o, rs_s, rs_u, w1, ea1, eb1, c1, m1, c2]
      · rw [if_neg y2]
        simp (disch := first | omega | assumption) only [↓lt, Option.bind_some, zl, ll, zadd, zsub, zmul, zneg, ladd, lsub, lmul, lneg, zltT, zltF, zleT, zleF, zeqT, zeqF, zidx, ixT, zwide, bIT, bIF, if_true, if_false, ↓reduceIte, Nat.reduceAdd, Int.reduceAdd, Int.reduceMul, Int.reduceSub, Int.reduceNeg, cs_c, cs_o, cs_2, cu_c, cu_o, Int.cast_ofNat_Int, ps_f, ps_g, ps_w, ps_o, ps_2, pu_f, pu_g, pu_w, pu_o, uI_s, uI_o, uI_j, uI_j1, uI_j2, uI_tw, or0, true_or, or_true, false_or, or_false, nar0, nar1, rs_o, rs_s, rs_u, w1, ea1, eb1, c1, m1, c2]
  · have := bth_ok (p := p) (q := q) (r := r) hb (show B + 5760 * r + 2880 ≤ 900000 by omega) hT u v
    rw [show B + 5760 * (r + 1) = B + 5760 * r + 5760 by omega]
    exact this
  · rw [lp_X6_findTimes_24]
    simp (disch := first | omega | assumption) only [↓lt, Option.bind_some, zl, ll, zadd, zsub, zmul, zneg, ladd, lsub, lmul, lneg, zltT, zltF, zleT, zleF, zeqT, zeqF, zidx, ixT, zwide, bIT, bIF, if_true, if_false, ↓reduceIte, Nat.reduceAdd, Int.reduceAdd, Int.reduceMul, Int.reduceSub, Int.reduceNeg, cs_c, cs_o, cs_2, cu_c, cu_o, Int.cast_ofNat_Int, ps_f, ps_g, ps_w, ps_o, ps_2, pu_f, pu_g, pu_w, pu_o, uI_s, uI_o, uI_j, uI_j1, uI_j2, uI_tw, or0, true_or, or_true, false_or, or_false, nar0, nar1, rs_o, w1]

