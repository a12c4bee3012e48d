/-! ===== passes ===== -/
def aW (b : Int → Int) (N p : Int) : Int32 := setB (fun q => A0 b p q && decide (arQ b N q)) 8
theorem A0_f {b : Int → Int} {p : Int} (hb : WB b) (h1 : 0 ≤ p) (h : ¬ (goQ b p ∧ b (82 + p) = -1)) : A0 b (p + 1) = A0 b p := by
  funext q
  refine decide_eq_decide.mpr ?_
  constructor
  · rintro ⟨a1, a2, a3, a4⟩
    refine ⟨a1, a2, a3, ?_⟩
    have : ¬ wkB b q = p := fun z => by
      by_cases y : 0 ≤ b (82 + q)
      · rw [wk_l y] at z
        obtain ⟨k1, k2, k3, k4, k5, -⟩ := led_of hb a1 a2 h1 z
        exact h ⟨⟨h1, k1, by omega⟩, k5⟩
      · rw [wk_s y] at z
        subst z
        have := WPb hb a1 a2
        exact h ⟨⟨a1, a2, a3⟩, by omega⟩
    omega
  · rintro ⟨a1, a2, a3, a4⟩
    exact ⟨a1, a2, a3, by omega⟩
theorem aW_t {b : Int → Int} {N p : Int} (hb : WB b) (hp : goQ b p) (hl : b (82 + p) = -1) : aW b N p ||| (if arQ b N p then wS b p (b 2) else zI 0) = aW b N (p + 1) := by
  by_cases a : arQ b N p
  · rw [if_pos a]
    refine setB_or (fun q h1 h2 => ?_)
    by_cases w : goQ b q ∧ wkB b q = p
    · have ar : arQ b N q := (ar_wk hb w.1).mp (by rw [w.2]; exact a)
      rw [decide_eq_true ar, decide_eq_true (show goQ b q ∧ wkB b q = p ∧ q < b 2 from ⟨w.1, w.2, w.1.2.1⟩), show A0 b (p + 1) q = true from decide_eq_true ⟨w.1.1, w.1.2.1, w.1.2.2, by omega⟩, Bool.or_true]
      rfl
    · rw [decide_eq_false (show ¬ (goQ b q ∧ wkB b q = p ∧ q < b 2) from fun z => w ⟨z.1, z.2.1⟩), Bool.or_false]
      congr 1
      refine decide_eq_decide.mpr ?_
      constructor
      · rintro ⟨a1, a2, a3, a4⟩
        refine ⟨a1, a2, a3, ?_⟩
        have : ¬ wkB b q = p := fun z => w ⟨⟨a1, a2, a3⟩, z⟩
        omega
      · rintro ⟨a1, a2, a3, a4⟩
        exact ⟨a1, a2, a3, by omega⟩
  · rw [if_neg a, show aW b N p ||| zI 0 = aW b N p from Int32.or_zero]
    refine setB_c (fun q h1 h2 => ?_)
    by_cases w : goQ b q ∧ wkB b q = p
    · have ar : ¬ arQ b N q := fun z => a (by
        have := (ar_wk hb w.1).mpr z
        rw [w.2] at this
        exact this)
      rw [decide_eq_false ar, Bool.and_false, Bool.and_false]
    · congr 1
      refine decide_eq_decide.mpr ?_
      constructor
      · rintro ⟨a1, a2, a3, a4⟩
        exact ⟨a1, a2, a3, by omega⟩
      · rintro ⟨a1, a2, a3, a4⟩
        refine ⟨a1, a2, a3, ?_⟩
        have : ¬ wkB b q = p := fun z => w ⟨⟨a1, a2, a3⟩, z⟩
        omega
theorem A0_n {b : Int → Int} (hb : WB b) (q : Int) : A0 b 0 q = false := decide_eq_false (fun z => by
  have := wk_r hb z.1 z.2.1
  omega)
theorem A0_g {b : Int → Int} (hb : WB b) : A0 b (b 2) = AG b := by
  funext q
  exact decide_eq_decide.mpr ⟨fun z => ⟨z.1, z.2.1, z.2.2.1⟩, fun z => ⟨z.1, z.2.1, z.2.2, (wk_r hb z.1 z.2.1).2⟩⟩
theorem aW_0 {b : Int → Int} {N : Int} (hb : WB b) : aW b N 0 = zI 0 := by
  unfold aW
  rw [show (fun q => A0 b 0 q && decide (arQ b N q)) = fun _ => false by funext q; rw [A0_n hb q]; rfl]
  decide
theorem aW_e {b : Int → Int} {N : Int} (hb : WB b) : aW b N (b 2) = aS b N := by
  refine setB_c (fun q h1 h2 => ?_)
  rw [A0_g hb]
  by_cases a : arQ b N q
  · rw [AG_t a.1.1 a.1.2.1 a.1.2.2, decide_eq_true a]; rfl
  · rw [decide_eq_false a, Bool.and_false]
theorem gC_00 {g : Int → Int → Int → Int} {b : Int → Int} {N : Int} (hb : WB b) : gC g b N (A0 b 0) (A0 b 0) = g := by
  have e : ∀ q, ¬ A0 b 0 q = true := fun q z => by rw [A0_n hb q] at z; exact absurd z (by decide)
  refine g_ext (fun p => ?_) (fun p k h => ?_) (fun p k => ?_) (fun p k => ?_) (fun p j k h0 h1 h2 => ?_)
  · rw [gC_11, if_neg (e p)]
  · rw [gC_0 h, if_neg (e p)]
  · rw [gC_1, if_neg (fun z => e p z.1)]
  · rw [gC_2, if_neg (fun z => e p z.1), if_neg (fun z => e k z.1)]
  · rw [gC_x h0 h1 h2]
theorem c_passMinutes {b : Int → Int} {N : Int} {L n : Nat} {M : KM} {g : Int → Int → Int → Int} (hL : HL M L b) (hg : GR g b) (hb : WB b) (h5 : b 5 + N ≤ 99999) (hN : 1 ≤ N) (hN2 : N ≤ 999) (hn : 200 < n) : f_X2_passMinutes n L (zI N) (ps M L g) = some (aS b N, ps (uI M L 11 (zI (b 5 + N))) L (gC g b N (AG b) (AG b))) := by
  have hM := hL
  obtain ⟨q0, q1, q2, q5, q6, q7, q8, q9, q3, q4, qd, qa, qb, qc, qs⟩ := hL
  have hh := hb.1
  unfold WH at hh
  have hi : 0 ≤ b 2 ∧ b 2 ≤ 8 ∧ 0 ≤ b 5 := by omega
  unfold f_X2_passMinutes
  have key : lp_X2_passMinutes_17 n L (zI N) (aW b N 0) (zI 0) (ps M L (gC g b N (A0 b 0) (A0 b 0))) (fun (u10 : Int32) (M11 : KM) => lt (uI M11 L 11 ((M11.1 L 11) + zI N)) fun (M12 : KM) => some (u10, M12)) = some (aS b N, ps (uI M L 11 (zI (b 5 + N))) L (gC g b N (AG b) (AG b))) := by
    refine loop_st (lp := fun k j (V : Int32 × KM) => lp_X2_passMinutes_17 k L (zI N) V.1 j V.2 _) (fun j => (aW b N j, ps M L (gC g b N (A0 b j) (A0 b j)))) (N := 110) (R := b 2) (fun k p hk u v => ?_) (fun k _ => ?_) (b 2).toNat 0 n (by omega) (by omega) (by omega)
    · dsimp only
      rw [lp_X2_passMinutes_17]
      have gp := hg.1 p u v
      unfold GP at gp
      have ez := WPb hb u v
      by_cases w : goQ b p ∧ b (82 + p) = -1
      · have wp : wkB b p = p := wk_s (by omega)
        have hAp : A0 b p p = false := decide_eq_false (by rw [wp]; omega)
        have gg := w.1.2.2
        have x5 : g p 0 5 = -1 := by omega
        have x9 : g p 0 9 = -1 := by omega
        have y5 := (gC_n (g := g) (b := b) (A := A0 b p) (N := N) hAp (k := 5) (by decide)).trans x5
        have y9 := (gC_n (g := g) (b := b) (A := A0 b p) (N := N) hAp (k := 9) (by decide)).trans x9
        have ew := c_passWalker (n := k) hM hg hb (by omega) w.1 w.2 hN hN2 (by omega)
        clear gp ez
        unfold f_X7_isWalker
        simp (disch := first | omega | assumption) only [↓lt, Option.bind_some, zl, ll, zadd, zsub, zmul, zneg, ladd, lsub, lmul, lneg, zltT, zltF, zleT, zleF, zeqT, zeqF, zidx, ixT, zwide, bIT, bIF, if_true, if_false, ↓reduceIte, Nat.reduceAdd, Int.reduceAdd, Int.reduceMul, Int.reduceSub, Int.reduceNeg, cs_c, cs_o, cs_2, cu_c, cu_o, Int.cast_ofNat_Int, ps_f, ps_g, ps_w, ps_o, ps_2, pu_f, pu_g, pu_w, pu_o, uI_s, uI_o, uI_j, uI_j1, uI_j2, uI_tw, or0, true_or, or_true, false_or, or_false, nar0, nar1, q2, y5, y9, ew, aW_t hb w.1 w.2]
      · have e0 := A0_f hb u w
        have ea : aW b N (p + 1) = aW b N p := by unfold aW; rw [e0]
        rw [e0, ea]
        unfold f_X7_isWalker
        have hc : (0 ≤ gC g b N (A0 b p) (A0 b p) p 0 5 ∧ gC g b N (A0 b p) (A0 b p) p 0 5 < 8) ∨ (gC g b N (A0 b p) (A0 b p) p 0 5 = -1 ∧ 0 ≤ gC g b N (A0 b p) (A0 b p) p 0 9 ∧ gC g b N (A0 b p) (A0 b p) p 0 9 < 8) := by
          by_cases y : goQ b p
          · have gg := y.2.2
            by_cases B : A0 b p p = true ∧ arQ b N p
            · have e5 : gC g b N (A0 b p) (A0 b p) p 0 5 = b (66 + p) := by
                rw [gC_0 (by decide), if_pos B.1, if_pos B.2]; rfl
              exact Or.inl (by omega)
            · have e5 : ∀ k, ¬ k = 11 → ¬ k = 10 → gC g b N (A0 b p) (A0 b p) p 0 k = g p 0 k := fun k h1 h2 => by
                rw [gC_0 h1]
                by_cases w1 : A0 b p p = true
                · rw [if_pos w1, if_neg (fun z => B ⟨w1, z⟩), if_neg (fun z => h2 z.1)]
                · rw [if_neg w1]
              rw [e5 5 (by decide) (by decide), e5 9 (by decide) (by decide)]
              have : ¬ b (82 + p) = -1 := fun z => w ⟨y, z⟩
              exact Or.inr (by omega)
          · have hAp : A0 b p p = false := decide_eq_false (fun z => y ⟨z.1, z.2.1, z.2.2.1⟩)
            rw [gC_n hAp (by decide)]
            have : ¬ 0 ≤ b (66 + p) := fun z => y ⟨u, v, z⟩
            exact Or.inl (by omega)
        clear gp ez
        generalize gC g b N (A0 b p) (A0 b p) = G at *
        rcases hc with hc | ⟨hc1, hc2⟩
        · simp (disch := first | omega | assumption) only [↓lt, Option.bind_some, zl, ll, zadd, zsub, zmul, zneg, ladd, lsub, lmul, lneg, zltT, zltF, zleT, zleF, zeqT, zeqF, zidx, ixT, zwide, bIT, bIF, if_true, if_false, ↓reduceIte, Nat.reduceAdd, Int.reduceAdd, Int.reduceMul, Int.reduceSub, Int.reduceNeg, cs_c, cs_o, cs_2, cu_c, cu_o, Int.cast_ofNat_Int, ps_f, ps_g, ps_w, ps_o, ps_2, pu_f, pu_g, pu_w, pu_o, uI_s, uI_o, uI_j, uI_j1, uI_j2, uI_tw, or0, true_or, or_true, false_or, or_false, nar0, nar1, q2]
        · simp (disch := first | omega | assumption) only [↓lt, Option.bind_some, zl, ll, zadd, zsub, zmul, zneg, ladd, lsub, lmul, lneg, zltT, zltF, zleT, zleF, zeqT, zeqF, zidx, ixT, zwide, bIT, bIF, if_true, if_false, ↓reduceIte, Nat.reduceAdd, Int.reduceAdd, Int.reduceMul, Int.reduceSub, Int.reduceNeg, cs_c, cs_o, cs_2, cu_c, cu_o, Int.cast_ofNat_Int, ps_f, ps_g, ps_w, ps_o, ps_2, pu_f, pu_g, pu_w, pu_o, uI_s, uI_o, uI_j, uI_j1, uI_j2, uI_tw, or0, true_or, or_true, false_or, or_false, nar0, nar1, q2, hc1]
    · dsimp only
      rw [lp_X2_passMinutes_17, aW_e hb, A0_g hb]
      simp (disch := first | omega | assumption) only [↓lt, Option.bind_some, zl, ll, zadd, zsub, zmul, zneg, ladd, lsub, lmul, lneg, zltT, zltF, zleT, zleF, zeqT, zeqF, zidx, ixT, zwide, bIT, bIF, if_true, if_false, ↓reduceIte, Nat.reduceAdd, Int.reduceAdd, Int.reduceMul, Int.reduceSub, Int.reduceNeg, cs_c, cs_o, cs_2, cu_c, cu_o, Int.cast_ofNat_Int, ps_f, ps_g, ps_w, ps_o, ps_2, pu_f, pu_g, pu_w, pu_o, uI_s, uI_o, uI_j, uI_j1, uI_j2, uI_tw, or0, true_or, or_true, false_or, or_false, nar0, nar1, q2, q5]
  rw [aW_0 hb, gC_00 hb] at key
  simp (disch := first | omega | assumption) only [↓lt, Option.bind_some, zl, ll, zadd, zsub, zmul, zneg, ladd, lsub, lmul, lneg, zltT, zltF, zleT, zleF, zeqT, zeqF, zidx, ixT, zwide, bIT, bIF, if_true, if_false, ↓reduceIte, Nat.reduceAdd, Int.reduceAdd, Int.reduceMul, Int.reduceSub, Int.reduceNeg, cs_c, cs_o, cs_2, cu_c, cu_o, Int.cast_ofNat_Int, ps_f, ps_g, ps_w, ps_o, ps_2, pu_f, pu_g, pu_w, pu_o, uI_s, uI_o, uI_j, uI_j1, uI_j2, uI_tw, or0, true_or, or_true, false_or, or_false, nar0, nar1, q5]
  exact key
theorem GR_c {b : Int → Int} {N : Int} {g : Int → Int → Int → Int} (hg : GR g b) (hb : WB b) : GR (gC g b N (AG b) (AG b)) (cI b N) := by
  have hh := hb.1
  unfold WH at hh
  have c2 : cI b N 2 = b 2 := cI_o (by omega) (by omega)
  have c1 : cI b N 1 = b 1 := cI_o (by omega) (by omega)
  have hi : 0 ≤ b 2 ∧ b 2 ≤ 8 ∧ 0 ≤ b 1 ∧ b 1 ≤ 12 := by omega
  clear hh
  have hAG : ∀ q, goQ b q → AG b q = true := fun q h => AG_t h.1 h.2.1 h.2.2
  have hAn : ∀ q, ¬ goQ b q → ¬ AG b q = true := fun q h z => h (of_decide_eq_true z)
  have k34 : ∀ p k, ¬ (5 ≤ k ∧ k ≤ 11) → gC g b N (AG b) (AG b) p 0 k = g p 0 k := fun p k h => by
    rw [gC_0 (by omega)]
    by_cases w1 : AG b p = true
    · rw [if_pos w1]
      by_cases w2 : arQ b N p
      · rw [if_pos w2, if_neg (by omega), if_neg (by omega), if_neg (by omega), if_neg (by omega), if_neg (by omega), if_neg (by omega)]
      · rw [if_neg w2, if_neg (by omega)]
    · rw [if_neg w1]
  refine ⟨fun p u v => ?_, fun p r u v x y => ?_, fun p q u v x y => ?_, fun p u v => ?_⟩
  · rw [c2] at v
    have gp := hg.1 p u v
    unfold GP at gp
    have cf : ∀ j, 0 ≤ j → j < 9 → cI b N (58 + 8 * j + p) = cF b N j p := fun j a c => cI_f u (by omega) a c
    have a0 : cI b N (58 + p) = _ := cf 0 (by omega) (by omega)
    have a1 : cI b N (66 + p) = _ := cf 1 (by omega) (by omega)
    have a2 : cI b N (74 + p) = _ := cf 2 (by omega) (by omega)
    have a3 : cI b N (82 + p) = _ := cf 3 (by omega) (by omega)
    have a4 : cI b N (90 + p) = _ := cf 4 (by omega) (by omega)
    have a5 : cI b N (98 + p) = _ := cf 5 (by omega) (by omega)
    have a6 : cI b N (106 + p) = _ := cf 6 (by omega) (by omega)
    have a7 : cI b N (114 + p) = _ := cf 7 (by omega) (by omega)
    have a8 : cI b N (122 + p) = _ := cf 8 (by omega) (by omega)
    unfold GP
    rw [a0, a1, a2, a3, a4, a5, a6, a7, a8, k34 p 3 (by decide), k34 p 4 (by decide), gC_11]
    clear a0 a1 a2 a3 a4 a5 a6 a7 a8 cf
    by_cases gq : goQ b p
    · have gg := gq.2.2
      rw [if_pos (hAG p gq)]
      by_cases ar : arQ b N p
      · have e : ∀ k, ¬ k = 11 → gC g b N (AG b) (AG b) p 0 k = (if k = 5 then b (66 + p) else if k = 6 then -1 else if k = 7 then -1 else if k = 8 then -1 else if k = 9 then -1 else if k = 10 then 0 else g p 0 k) := fun k h => by
          rw [gC_0 h, if_pos (hAG p gq), if_pos ar]
        have lo : LO b N p = dQ b p - b (74 + p) := if_pos ar.2
        rw [e 5 (by decide), e 6 (by decide), e 7 (by decide), e 8 (by decide), e 9 (by decide), e 10 (by decide), lo]
        simp only [cF_ar ar]
        refine ⟨gp.1, gp.2.1, Or.inl ⟨?_, rfl, rfl, rfl⟩, rfl, rfl, Or.inr rfl, ?_⟩
        · show (-1 : Int) < 0
          decide
        · rw [gp.2.2.2.2.2.2]; rfl
      · have lo : LO b N p = N - kQ b N p := if_neg (fun z => ar ⟨gq, z⟩)
        have e : ∀ k, ¬ k = 11 → ¬ k = 10 → gC g b N (AG b) (AG b) p 0 k = g p 0 k := fun k h h2 => by
          rw [gC_0 h, if_pos (hAG p gq), if_neg ar, if_neg (fun z => h2 z.1)]
        have e10 : gC g b N (AG b) (AG b) p 0 10 = if b (82 + p) < 0 then g p 0 10 - kQ b N p else g p 0 10 := by
          rw [gC_0 (by decide), if_pos (hAG p gq), if_neg ar]
          by_cases l : b (82 + p) < 0
          · rw [if_pos l, if_pos ⟨rfl, l⟩]
          · rw [if_neg l, if_neg (fun z => l z.2)]
        rw [e 5 (by decide) (by decide), e 6 (by decide) (by decide), e 7 (by decide) (by decide), e 8 (by decide) (by decide), e 9 (by decide) (by decide), e10, lo]
        simp only [cF_on gq ar]
        refine ⟨gp.1, gp.2.1, Or.inr ?_, gp.2.2.2.1, gp.2.2.2.2.1, ?_, ?_⟩
        · have := gp.2.2.1.resolve_left (by omega)
          exact this
        · show 0 ≤ b (82 + p) ∨ (if b (82 + p) < 0 then g p 0 10 - kQ b N p else g p 0 10) = b (74 + p) - kQ b N p
          by_cases l : 0 ≤ b (82 + p)
          · exact Or.inl l
          · rw [if_pos (by omega), gp.2.2.2.2.2.1.resolve_left l]; exact Or.inr rfl
        · rw [gp.2.2.2.2.2.2]; rfl
    · have e : ∀ k, ¬ k = 11 → gC g b N (AG b) (AG b) p 0 k = g p 0 k := fun k h => by
        rw [gC_0 h, if_neg (hAn p gq)]
      rw [if_neg (hAn p gq), e 5 (by decide), e 6 (by decide), e 7 (by decide), e 8 (by decide), e 9 (by decide), e 10 (by decide)]
      simp only [cF_g0 gq]
      exact gp
  · rw [c2] at v
    rw [c1] at y
    rw [gC_1, cI_g u (by omega) x (by omega), hg.2.1 p r u v x y]
    by_cases w : arQ b N p ∧ r = b (122 + p)
    · rw [if_pos w, if_pos ⟨hAG p w.1.1, w.1, w.2⟩]
    · rw [if_neg w, if_neg (fun z => w z.2)]
  · rw [c2] at v y
    rw [gC_2, cI_w u (by omega) x (by omega), hg.2.2.1 p q u v x y, hg.2.2.1 q p x y u v]
    by_cases w : arQ b N p ∧ b (82 + p) = q
    · rw [if_pos w, if_pos ⟨hAG p w.1.1, w.1, w.2, x⟩]
    · rw [if_neg w, if_neg (fun z => w ⟨z.2.1, z.2.2.1⟩)]
      by_cases w2 : arQ b N q ∧ b (82 + q) = p
      · rw [if_pos w2, if_pos ⟨hAG q w2.1.1, w2.1, w2.2, u⟩]
      · rw [if_neg w2, if_neg (fun z => w2 ⟨z.2.1, z.2.2.1⟩)]
  · rw [k34 p 3 (by decide), k34 p 4 (by decide)]
    exact hg.2.2.2 p u v

