/-! ===== one minute of the reference: all go ===== -/
def mN (b : Int → Int) : Int → Int := bu (bM b (AG b)) 5 (b 5 + 1)
theorem AG_t {b : Int → Int} {q : Int} (h1 : 0 ≤ q) (h2 : q < b 2) (h : 0 ≤ b (66 + q)) : AG b q = true := decide_eq_true ⟨h1, h2, h⟩
theorem AG_f {b : Int → Int} {q : Int} (h : ¬ 0 ≤ b (66 + q)) : AG b q = false := decide_eq_false (fun z => h z.2.2)
theorem caB_g {b : Int → Int} {A : Int → Bool} {p : Int} {g : Prop} (h1 : 0 ≤ p) (h2 : p < 8) (hr1 : 0 ≤ b (122 + p)) (hr2 : b (122 + p) < 12) (hA : A p = false) : canB (bM b A) p (b (122 + p)) g ↔ canB b p (b (122 + p)) g := by
  have e1 := bM_keep (b := b) (A := A) h1 h2 6 (by omega) (by omega)
  rw [show 58 + 8 * 6 + p = 106 + p by omega] at e1
  have e2 := bM_keep (b := b) (A := A) h1 h2 5 (by omega) (by omega)
  rw [show 58 + 8 * 5 + p = 98 + p by omega] at e2
  have e3 : bM b A (46 + b (122 + p)) = b (46 + b (122 + p)) := bM_o (by omega)
  have e4 : bM b A 7 = b 7 := bM_o (by omega)
  have e5 : bM b A (130 + 12 * p + b (122 + p)) = b (130 + 12 * p + b (122 + p)) := by
    rw [bM_g h1 h2 hr1 hr2, hA, if_neg (fun z => absurd z.1 (by decide))]
  show _ ∨ _ ↔ _ ∨ _
  rw [e1, e2, e3, e4, e5]
theorem cS_0 {b : Int → Int} : cS b (A0 b 0) = zI 0 ∨ ¬ WB b := by
  by_cases hb : WB b
  · refine Or.inl ?_
    have e : ∀ q, A0 b 0 q = false := fun q => decide_eq_false (fun z => by
      have := wk_r hb z.1 z.2.1
      omega)
    unfold cS
    rw [show (fun q => A0 b 0 q && decide (thB b q)) = fun _ => false by funext q; rw [e q]; rfl]
    decide
  · exact Or.inr hb
theorem m_goesMinute {b : Int → Int} {n : Nat} {X : KM} (hb : WB b) (hn : 40 < n) : f_X12_goesMinute n 227 (cs X b) = some (cs (cl2 X (cS b (AG b)) (lS b (AG b))) (mN b)) := by
  have hh := hb.1
  unfold WH at hh
  have c2 : ∀ A, (mA X b A).1 232 (Int.toNat 2) = zI (b 2) := fun A => by
    unfold mA
    rw [cs_c (by omega), bM_o (by omega)]
  have cc : ∀ A z, 0 ≤ z → (mA X b A).1 232 z.toNat = zI (bM b A z) := fun A z h => by
    unfold mA
    rw [cs_c h]
  have f0 : ∀ q, A0 b 0 q = false := fun q => decide_eq_false (fun z => by
    have := wk_r hb z.1 z.2.1
    omega)
  have e0 : uI (uI (cs X b) 227 28 (zI 0)) 227 29 (zI 0) = mA X b (A0 b 0) := by
    have a1 : cS b (A0 b 0) = zI 0 := cS_0.resolve_right (fun z => z hb)
    have a2 : lS b (A0 b 0) = 0 := by
      unfold lS
      rw [show (fun q => if A0 b 0 q = true ∧ ¬ caB b q then (1 : Int) else 0) = fun _ => 0 by funext q; rw [f0 q, if_neg (fun z => absurd z.1 (by decide))]]
      rfl
    have a3 : bM b (A0 b 0) = b := by
      refine cells_ext (fun z h => bM_o h) (fun q j u v x y => bM_n u v x y (f0 q)) (fun q r u v x y => ?_) (fun x y u v k l => ?_)
      · rw [bM_g u v x y, f0, if_neg (fun z => absurd z.1 (by decide))]
      · rw [bM_w u v k l, f0, f0, if_neg (fun z => absurd z.1 (by decide)), if_neg (fun z => absurd z.1 (by decide))]
    unfold mA
    rw [a1, a2, a3]
    unfold cl2
    rw [cu_o (by omega), cu_o (by omega)]
  have e9 : A0 b (b 2) = AG b := by
    funext q
    refine decide_eq_decide.mpr ⟨fun z => ⟨z.1, z.2.1, z.2.2.1⟩, fun z => ⟨z.1, z.2.1, z.2.2, (wk_r hb z.1 z.2.1).2⟩⟩
  unfold f_X12_goesMinute
  simp (disch := first | omega | assumption) only [↓lt, Option.bind_some, zl, ll, zadd, zsub, zmul, zneg, ladd, lsub, lmul, lneg, zltT, zltF, zleT, zleF, zeqT, zeqF, zidx, ixT, zwide, bIT, bIF, if_true, if_false, ↓reduceIte, Nat.reduceAdd, Int.reduceAdd, Int.reduceMul, Int.reduceSub, Int.reduceNeg, cs_c, cs_o, cs_2, cu_c, cu_o, Int.cast_ofNat_Int, ps_f, ps_g, ps_w, ps_o, ps_2, pu_f, pu_g, pu_w, pu_o, uI_s, uI_o, uI_j, uI_j1, uI_j2, uI_tw, or0, true_or, or_true, false_or, or_false, nar0, nar1, m_glares hb.1]
  rw [← cu_o (by omega), ← cu_o (by omega), e0]
  refine loop_st (lp := fun k i V => lp_X12_goesMinute_23 k 227 (bI (glB b (b 5))) i V _) (fun p => mA X b (A0 b p)) (N := 30) (R := b 2) (fun k p hk u v => ?_) (fun k _ => ?_) (b 2).toNat 0 n (by omega) (by omega) (by omega)
  · have ez := WPb hb u v
    have ep := WP_of hb u v
    unfold WP at ep
    show lp_X12_goesMinute_23 (k + 1) 227 (bI (glB b (b 5))) (zI p) (mA X b (A0 b p)) _ = lp_X12_goesMinute_23 k 227 (bI (glB b (b 5))) (zI (p + 1)) (mA X b (A0 b (p + 1))) _
    rw [lp_X12_goesMinute_23]
    by_cases w : A0 b p p = true
    · have e3 := of_decide_eq_true w
      have ew : 0 ≤ b (82 + p) := by
        by_cases y : 0 ≤ b (82 + p)
        · exact y
        · rw [wk_s y] at e3; omega
      have e : A0 b (p + 1) = A0 b p := by
        funext q
        refine decide_eq_decide.mpr ?_
        constructor
        · rintro ⟨a1, a2, a3, a4⟩
          refine ⟨a1, a2, a3, ?_⟩
          have : ¬ wkB b q = p := fun z => by
            by_cases y : 0 ≤ b (82 + q)
            · rw [wk_l y] at z
              obtain ⟨-, -, -, -, l, -⟩ := led_of hb a1 a2 u z
              omega
            · rw [wk_s y] at z
              rw [z] at y
              omega
          omega
        · rintro ⟨a1, a2, a3, a4⟩
          exact ⟨a1, a2, a3, by omega⟩
      have g66 : bM b (A0 b p) (66 + p) = if thB b p then -1 else b (66 + p) := by
        have e6 := bM_f (b := b) (A := A0 b p) (q := p) (j := 1) u (by omega) (by omega) (by omega)
        rw [show 58 + 8 * 1 + p = 66 + p by omega, if_pos w] at e6
        rw [e6]
        unfold colF
        rw [if_neg (show ¬ (1 : Int) = 0 by decide), if_pos rfl, if_neg (show ¬ (1 : Int) = 2 by decide), if_neg (show ¬ (1 : Int) = 4 by decide), show 58 + 8 * 1 + p = 66 + p by omega]
        by_cases y1 : caB b p
        · by_cases y2 : b (74 + p) = 1
          · rw [if_pos y1, if_pos y2, if_pos ⟨y1, y2⟩]
          · rw [if_pos y1, if_neg y2, if_neg (fun z => y2 z.2)]
        · rw [if_neg y1, if_neg (fun z => y1 z.1)]
      have g82 : ¬ thB b p → bM b (A0 b p) (82 + p) = b (82 + p) := fun ht => by
        have e6 := bM_f (b := b) (A := A0 b p) (q := p) (j := 3) u (by omega) (by omega) (by omega)
        rw [show 58 + 8 * 3 + p = 82 + p by omega, if_pos w] at e6
        rw [e6]
        unfold colF
        rw [if_neg (show ¬ (3 : Int) = 0 by decide), if_neg (show ¬ (3 : Int) = 1 by decide), if_neg (show ¬ (3 : Int) = 2 by decide), if_neg (show ¬ (3 : Int) = 2 by decide), if_neg (show ¬ (3 : Int) = 4 by decide), show 58 + 8 * 3 + p = 82 + p by omega]
        by_cases y1 : caB b p
        · rw [if_pos y1, if_neg (fun z => ht ⟨y1, z⟩)]
        · rw [if_neg y1]
      rw [e]
      by_cases ht : thB b p
      · rw [if_pos ht] at g66
        have eg := m_isGoing (b := bM b (A0 b p)) (n := k) (M := cl2 X (cS b (A0 b p)) (lS b (A0 b p))) u (by omega) (by omega) (by omega)
        rw [bIF (by omega)] at eg
        have eg2 : f_X12_isGoing k 227 (zI p) (mA X b (A0 b p)) = some (zI 0) := eg
        simp (disch := first | omega | assumption) only [↓lt, Option.bind_some, zl, ll, zadd, zsub, zmul, zneg, ladd, lsub, lmul, lneg, zltT, zltF, zleT, zleF, zeqT, zeqF, zidx, ixT, zwide, bIT, bIF, if_true, if_false, ↓reduceIte, Nat.reduceAdd, Int.reduceAdd, Int.reduceMul, Int.reduceSub, Int.reduceNeg, cs_c, cs_o, cs_2, cu_c, cu_o, Int.cast_ofNat_Int, ps_f, ps_g, ps_w, ps_o, ps_2, pu_f, pu_g, pu_w, pu_o, uI_s, uI_o, uI_j, uI_j1, uI_j2, uI_tw, or0, true_or, or_true, false_or, or_false, nar0, nar1, c2, eg2]
      · rw [if_neg ht] at g66
        have eg := m_isGoing (b := bM b (A0 b p)) (n := k) (M := cl2 X (cS b (A0 b p)) (lS b (A0 b p))) u (by omega) (by omega) (by omega)
        rw [bIT (by omega)] at eg
        have eg2 : f_X12_isGoing k 227 (zI p) (mA X b (A0 b p)) = some (zI 1) := eg
        have ea := cc (A0 b p) (82 + p) (by omega)
        rw [g82 ht] at ea
        simp (disch := first | omega | assumption) only [↓lt, Option.bind_some, zl, ll, zadd, zsub, zmul, zneg, ladd, lsub, lmul, lneg, zltT, zltF, zleT, zleF, zeqT, zeqF, zidx, ixT, zwide, bIT, bIF, if_true, if_false, ↓reduceIte, Nat.reduceAdd, Int.reduceAdd, Int.reduceMul, Int.reduceSub, Int.reduceNeg, cs_c, cs_o, cs_2, cu_c, cu_o, Int.cast_ofNat_Int, ps_f, ps_g, ps_w, ps_o, ps_2, pu_f, pu_g, pu_w, pu_o, uI_s, uI_o, uI_j, uI_j1, uI_j2, uI_tw, or0, true_or, or_true, false_or, or_false, nar0, nar1, c2, eg2, ea]
    · have w3 : A0 b p p = false := by
        cases h : A0 b p p
        · rfl
        · exact absurd h w
      have g : ∀ j, 0 ≤ j → j < 9 → bM b (A0 b p) (58 + 8 * j + p) = b (58 + 8 * j + p) := fun j x y => bM_n u (by omega) x y w3
      have g66 : bM b (A0 b p) (66 + p) = b (66 + p) := g 1 (by omega) (by omega)
      have g82 : bM b (A0 b p) (82 + p) = b (82 + p) := g 3 (by omega) (by omega)
      have g122 : bM b (A0 b p) (122 + p) = b (122 + p) := g 8 (by omega) (by omega)
      have g98 : bM b (A0 b p) (98 + p) = b (98 + p) := g 5 (by omega) (by omega)
      have g106 : bM b (A0 b p) (106 + p) = b (106 + p) := g 6 (by omega) (by omega)
      have eg := m_isGoing (b := bM b (A0 b p)) (n := k) (M := cl2 X (cS b (A0 b p)) (lS b (A0 b p))) u (by omega) (by omega) (by omega)
      rw [g66] at eg
      have ea := cc (A0 b p) (82 + p) (by omega)
      rw [g82] at ea
      by_cases y : 0 ≤ b (66 + p)
      · rw [bIT y] at eg
        have eg2 : f_X12_isGoing k 227 (zI p) (mA X b (A0 b p)) = some (zI 1) := eg
        by_cases y2 : 0 ≤ b (82 + p)
        · have e : A0 b (p + 1) = A0 b p := by
            funext q
            refine decide_eq_decide.mpr ?_
            constructor
            · rintro ⟨a1, a2, a3, a4⟩
              refine ⟨a1, a2, a3, ?_⟩
              have : ¬ wkB b q = p := fun z => by
                by_cases y : 0 ≤ b (82 + q)
                · rw [wk_l y] at z
                  obtain ⟨-, -, -, -, l, -⟩ := led_of hb a1 a2 u z
                  omega
                · rw [wk_s y] at z
                  rw [z] at y
                  omega
              omega
            · rintro ⟨a1, a2, a3, a4⟩
              exact ⟨a1, a2, a3, by omega⟩
          rw [e]
          simp (disch := first | omega | assumption) only [↓lt, Option.bind_some, zl, ll, zadd, zsub, zmul, zneg, ladd, lsub, lmul, lneg, zltT, zltF, zleT, zleF, zeqT, zeqF, zidx, ixT, zwide, bIT, bIF, if_true, if_false, ↓reduceIte, Nat.reduceAdd, Int.reduceAdd, Int.reduceMul, Int.reduceSub, Int.reduceNeg, cs_c, cs_o, cs_2, cu_c, cu_o, Int.cast_ofNat_Int, ps_f, ps_g, ps_w, ps_o, ps_2, pu_f, pu_g, pu_w, pu_o, uI_s, uI_o, uI_j, uI_j1, uI_j2, uI_tw, or0, true_or, or_true, false_or, or_false, nar0, nar1, c2, eg2, ea]
        · have hR := hb.2.1 (b (122 + p)) (by omega) (by omega)
          unfold WR at hR
          have k46 : bM b (A0 b p) (46 + b (122 + p)) = b (46 + b (122 + p)) := bM_o (by omega)
          have k7 : bM b (A0 b p) 7 = b 7 := bM_o (by omega)
          have ec2 : f_X12_canGo k 227 (zI p) (zI (b (122 + p))) (bI (glB b (b 5))) (mA X b (A0 b p)) = some (bI (canB (bM b (A0 b p)) p (b (122 + p)) (glB b (b 5)))) := m_canGo (b := bM b (A0 b p)) u (by omega) (by omega) (by omega) (by omega) (by omega) (by omega) (by omega) (by omega) (by omega) (WG_bM hb) (by omega) (by omega)
          rw [bI_c (caB_g u (by omega) (by omega) (by omega) w3)] at ec2
          have e12 := cc (A0 b p) (122 + p) (by omega)
          rw [g122] at e12
          have eo := m_goesOne (X := X) (n := k) hb u v (by omega) y (by omega)
          have ek : bI (canB b p (b (122 + p)) (glB b (b 5))) = bI (caB b p) := bI_c (by
            show _ ↔ canB b (wkB b p) (b (122 + p)) (glB b (b 5))
            rw [wk_s y2])
          rw [ek] at ec2
          simp (disch := first | omega | assumption) only [↓lt, Option.bind_some, zl, ll, zadd, zsub, zmul, zneg, ladd, lsub, lmul, lneg, zltT, zltF, zleT, zleF, zeqT, zeqF, zidx, ixT, zwide, bIT, bIF, if_true, if_false, ↓reduceIte, Nat.reduceAdd, Int.reduceAdd, Int.reduceMul, Int.reduceSub, Int.reduceNeg, cs_c, cs_o, cs_2, cu_c, cu_o, Int.cast_ofNat_Int, ps_f, ps_g, ps_w, ps_o, ps_2, pu_f, pu_g, pu_w, pu_o, uI_s, uI_o, uI_j, uI_j1, uI_j2, uI_tw, or0, true_or, or_true, false_or, or_false, nar0, nar1, c2, eg2, ea, e12, ec2, eo]
      · rw [bIF y] at eg
        have eg2 : f_X12_isGoing k 227 (zI p) (mA X b (A0 b p)) = some (zI 0) := eg
        have e : A0 b (p + 1) = A0 b p := by
          funext q
          refine decide_eq_decide.mpr ?_
          constructor
          · rintro ⟨a1, a2, a3, a4⟩
            refine ⟨a1, a2, a3, ?_⟩
            have : ¬ wkB b q = p := fun z => by
              by_cases y2 : 0 ≤ b (82 + q)
              · rw [wk_l y2] at z
                obtain ⟨-, -, -, l, -⟩ := led_of hb a1 a2 u z
                omega
              · rw [wk_s y2] at z
                rw [z] at a3
                omega
            omega
          · rintro ⟨a1, a2, a3, a4⟩
            exact ⟨a1, a2, a3, by omega⟩
        rw [e]
        simp (disch := first | omega | assumption) only [↓lt, Option.bind_some, zl, ll, zadd, zsub, zmul, zneg, ladd, lsub, lmul, lneg, zltT, zltF, zleT, zleF, zeqT, zeqF, zidx, ixT, zwide, bIT, bIF, if_true, if_false, ↓reduceIte, Nat.reduceAdd, Int.reduceAdd, Int.reduceMul, Int.reduceSub, Int.reduceNeg, cs_c, cs_o, cs_2, cu_c, cu_o, Int.cast_ofNat_Int, ps_f, ps_g, ps_w, ps_o, ps_2, pu_f, pu_g, pu_w, pu_o, uI_s, uI_o, uI_j, uI_j1, uI_j2, uI_tw, or0, true_or, or_true, false_or, or_false, nar0, nar1, c2, eg2]
  · show lp_X12_goesMinute_23 (k + 1) 227 (bI (glB b (b 5))) (zI (b 2)) (mA X b (A0 b (b 2))) _ = _
    rw [lp_X12_goesMinute_23, e9]
    have e5 : (mA X b (AG b)).1 232 (Int.toNat 5) = zI (b 5) := by
      unfold mA
      rw [cs_c (by omega), bM_o (by omega)]
    simp (disch := first | omega | assumption) only [↓lt, Option.bind_some, zl, ll, zadd, zsub, zmul, zneg, ladd, lsub, lmul, lneg, zltT, zltF, zleT, zleF, zeqT, zeqF, zidx, ixT, zwide, bIT, bIF, if_true, if_false, ↓reduceIte, Nat.reduceAdd, Int.reduceAdd, Int.reduceMul, Int.reduceSub, Int.reduceNeg, cs_c, cs_o, cs_2, cu_c, cu_o, Int.cast_ofNat_Int, ps_f, ps_g, ps_w, ps_o, ps_2, pu_f, pu_g, pu_w, pu_o, uI_s, uI_o, uI_j, uI_j1, uI_j2, uI_tw, or0, true_or, or_true, false_or, or_false, nar0, nar1, c2, e5]
    unfold mA mN
    simp (disch := first | omega | assumption) only [↓lt, Option.bind_some, zl, ll, zadd, zsub, zmul, zneg, ladd, lsub, lmul, lneg, zltT, zltF, zleT, zleF, zeqT, zeqF, zidx, ixT, zwide, bIT, bIF, if_true, if_false, ↓reduceIte, Nat.reduceAdd, Int.reduceAdd, Int.reduceMul, Int.reduceSub, Int.reduceNeg, cs_c, cs_o, cs_2, cu_c, cu_o, Int.cast_ofNat_Int, ps_f, ps_g, ps_w, ps_o, ps_2, pu_f, pu_g, pu_w, pu_o, uI_s, uI_o, uI_j, uI_j1, uI_j2, uI_tw, or0, true_or, or_true, false_or, or_false, nar0, nar1]
