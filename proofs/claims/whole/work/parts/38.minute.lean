/-! ===== one minute of the reference, as a whole ===== -/
theorem loop_st {α β : Type} {lp : Nat → Int32 → α → Option β} (S : Int → α) {fin : Option β} {N : Nat} {R : Int} (h1 : ∀ n i, N ≤ n → 0 ≤ i → i < R → lp (n + 1) (zI i) (S i) = lp n (zI (i + 1)) (S (i + 1))) (h0 : ∀ n, N ≤ n → lp (n + 1) (zI R) (S R) = fin) : ∀ (k : Nat) (i : Int) (n : Nat), 0 ≤ i → i + k = R → N + k < n → lp n (zI i) (S i) = fin := by
  intro k
  induction k with
  | zero =>
    intro i n hi he hn
    obtain ⟨m, rfl⟩ : ∃ m, n = m + 1 := ⟨n - 1, by omega⟩
    have e : i = R := by omega
    subst e
    exact h0 m (by omega)
  | succ k ih =>
    intro i n hi he hn
    obtain ⟨m, rfl⟩ : ∃ m, n = m + 1 := ⟨n - 1, by omega⟩
    rw [h1 m i (by omega) hi (by omega)]
    exact ih (i + 1) m (by omega) (by omega) (by omega)
def AG (b : Int → Int) : Int → Bool := fun q => decide (0 ≤ q ∧ q < b 2 ∧ 0 ≤ b (66 + q))
def A0 (b : Int → Int) (p : Int) : Int → Bool := fun q => decide (0 ≤ q ∧ q < b 2 ∧ 0 ≤ b (66 + q) ∧ wkB b q < p)
def A1 (b : Int → Int) (p j : Int) : Int → Bool := fun q => decide (0 ≤ q ∧ q < b 2 ∧ 0 ≤ b (66 + q) ∧ (wkB b q < p ∨ (wkB b q = p ∧ ¬ q = p ∧ q < j)))
theorem wk_l {b : Int → Int} {q : Int} (h : 0 ≤ b (82 + q)) : wkB b q = b (82 + q) := if_pos h
theorem wk_s {b : Int → Int} {q : Int} (h : ¬ 0 ≤ b (82 + q)) : wkB b q = q := if_neg h
theorem wk_r {b : Int → Int} {q : Int} (hb : WB b) (h1 : 0 ≤ q) (h2 : q < b 2) : 0 ≤ wkB b q ∧ wkB b q < b 2 := by
  have e := WPb hb h1 h2
  by_cases w : 0 ≤ b (82 + q)
  · rw [wk_l w]; omega
  · rw [wk_s w]; omega
/-- who is led: all that he has of his leader -/
theorem led_of {b : Int → Int} {q p : Int} (hb : WB b) (h1 : 0 ≤ q) (h2 : q < b 2) (hp : 0 ≤ p) (h : b (82 + q) = p) : p < b 2 ∧ ¬ p = q ∧ 0 ≤ b (66 + q) ∧ b (66 + p) = b (66 + q) ∧ b (82 + p) = -1 ∧ b (122 + p) = b (122 + q) ∧ b (74 + p) = b (74 + q) ∧ b (114 + p) = b (114 + q) ∧ wkB b q = p ∧ wkB b p = p ∧ (caB b p ↔ caB b q) ∧ (thB b p ↔ thB b q) := by
  have e := WPb hb h1 h2
  have e4 := hb.2.2.2.2.2 q h1 h2
  unfold WL at e4
  have e5 := e4.resolve_left (by omega)
  rw [h] at e5
  obtain ⟨a1, a2, a3, a4, a5, a6, a7⟩ := e5
  have w1 : wkB b q = p := by rw [wk_l (by omega)]; exact h
  have w2 : wkB b p = p := wk_s (by omega)
  have c : caB b p ↔ caB b q := by
    show canB b (wkB b p) (b (122 + p)) (glB b (b 5)) ↔ canB b (wkB b q) (b (122 + q)) (glB b (b 5))
    rw [w1, w2, a5]
  refine ⟨by omega, a1, a2, a3, a4, a5, a6, a7, w1, w2, c, ?_⟩
  show caB b p ∧ b (74 + p) = 1 ↔ caB b q ∧ b (74 + q) = 1
  rw [c, a6]
theorem WG_bM {b : Int → Int} {A : Int → Bool} (hb : WB b) : WG (bM b A) := by
  intro p r h1 h2 h3 h4
  have e := hb.2.2.2.1 p r h1 h2 h3 h4
  rw [bM_g h1 h2 h3 h4]
  by_cases w : A p = true ∧ thB b p ∧ r = b (122 + p)
  · rw [if_pos w]
    unfold mn99
    by_cases v : b (130 + 12 * p + r) + 1 < 99
    · rw [if_pos v]; omega
    · rw [if_neg v]; omega
  · rw [if_neg w]; exact e
/-- those of the block that a minute leaves -/
theorem bM_keep {b : Int → Int} {A : Int → Bool} {q : Int} (h1 : 0 ≤ q) (h2 : q < 8) (j : Int) (h3 : 5 ≤ j) (h4 : j < 9) : bM b A (58 + 8 * j + q) = b (58 + 8 * j + q) := by
  rw [bM_f h1 h2 (by omega) h4]
  by_cases w : A q = true
  · rw [if_pos w]
    unfold colF
    rw [if_neg (show ¬ j = 0 by omega), if_neg (show ¬ j = 1 by omega), if_neg (show ¬ j = 2 by omega), if_neg (show ¬ j = 2 by omega), if_neg (show ¬ j = 3 by omega), if_neg (show ¬ j = 4 by omega)]
    simp only [ite_self]
  · rw [if_neg w]
theorem m_goesOne {b : Int → Int} {p : Int} {n : Nat} {X : KM} (hb : WB b) (h1 : 0 ≤ p) (h2 : p < b 2) (hl : b (82 + p) = -1) (hg : 0 ≤ b (66 + p)) (hn : 20 < n) : f_X12_goesOne n 227 (zI p) (bI (caB b p)) (mA X b (A0 b p)) = some (mA X b (A0 b (p + 1))) := by
  have hh := hb.1
  unfold WH at hh
  have hp2 : wkB b p = p := wk_s (by omega)
  have e00 : A0 b p = A1 b p 0 := by
    funext q
    refine decide_eq_decide.mpr ?_
    generalize wkB b q = w
    omega
  have e01 : adA (A1 b p (b 2)) p = A0 b (p + 1) := by
    funext q
    by_cases e : q = p
    · subst e
      rw [adA_s]
      exact (decide_eq_true ⟨h1, h2, hg, by omega⟩).symm
    · rw [adA_o e]
      refine decide_eq_decide.mpr ?_
      generalize wkB b q = w
      omega
  have c2 : ∀ A, (mA X b A).1 232 (Int.toNat 2) = zI (b 2) := fun A => by
    unfold mA
    rw [cs_c (by omega), bM_o (by omega)]
  have cc : ∀ A z, 0 ≤ z → (mA X b A).1 232 z.toNat = zI (bM b A z) := fun A z h => by
    unfold mA
    rw [cs_c h]
  have L : ∀ x : Prop, ∀ dx : Decidable x, (x ↔ thB b p) → lp_X12_goesOne_26 n 227 (zI p) (bI (caB b p)) (bI x) (zI 0) (mA X b (A0 b p)) (fun M10 => (f_X12_moves n 227 (zI p) (zI p) (bI (caB b p)) (bI x) M10).bind fun v11 => some v11) = some (mA X b (A0 b (p + 1))) := fun x dx hx => by
    rw [e00]
    refine loop_st (lp := fun k i V => lp_X12_goesOne_26 k 227 (zI p) (bI (caB b p)) (bI x) i V (fun M10 => (f_X12_moves n 227 (zI p) (zI p) (bI (caB b p)) (bI x) M10).bind fun v11 => some v11)) (fun j => mA X b (A1 b p j)) (N := 0) (R := b 2) (fun k j _ u v => ?_) (fun k _ => ?_) (b 2).toNat 0 n (by omega) (by omega) (by omega)
    · have ez := WPb hb u v
      show lp_X12_goesOne_26 (k + 1) 227 (zI p) (bI (caB b p)) (bI x) (zI j) (mA X b (A1 b p j)) _ = lp_X12_goesOne_26 k 227 (zI p) (bI (caB b p)) (bI x) (zI (j + 1)) (mA X b (A1 b p (j + 1))) _
      rw [lp_X12_goesOne_26]
      by_cases w : j = p
      · have e : A1 b p (j + 1) = A1 b p j := by
          funext q
          refine decide_eq_decide.mpr ?_
          generalize wkB b q = w
          omega
        rw [e, w]
        simp (disch := first | omega | assumption) only [↓lt, Option.bind_some, zl, ll, zadd, zsub, zmul, zneg, ladd, lsub, lmul, lneg, zltT, zltF, zleT, zleF, zeqT, zeqF, zidx, ixT, zwide, bIT, bIF, if_true, if_false, ↓reduceIte, Nat.reduceAdd, Int.reduceAdd, Int.reduceMul, Int.reduceSub, Int.reduceNeg, cs_c, cs_o, cs_2, cu_c, cu_o, Int.cast_ofNat_Int, ps_f, ps_g, ps_w, ps_o, ps_2, pu_f, pu_g, pu_w, pu_o, uI_s, uI_o, uI_j, uI_j1, uI_j2, uI_tw, or0, true_or, or_true, false_or, or_false, nar0, nar1, c2]
      · have ea := cc (A1 b p j) (82 + j) (by omega)
        by_cases w2 : A1 b p j j = true
        · have e3 := of_decide_eq_true w2
          have e : A1 b p (j + 1) = A1 b p j := by
            funext q
            refine decide_eq_decide.mpr ?_
            by_cases e : q = j
            · subst e
              generalize wkB b q = w at *
              omega
            · generalize wkB b q = w
              omega
          have e4 : ¬ bM b (A1 b p j) (82 + j) = p ∧ -1 ≤ bM b (A1 b p j) (82 + j) ∧ bM b (A1 b p j) (82 + j) < b 2 := by
            have e5 : bM b (A1 b p j) (82 + j) = b (82 + j) ∨ bM b (A1 b p j) (82 + j) = -1 := by
              have e6 := bM_f (b := b) (A := A1 b p j) (q := j) (j := 3) u (by omega) (by omega) (by omega)
              rw [show 58 + 8 * 3 + j = 82 + j by omega, if_pos w2] at e6
              rw [e6]
              unfold colF
              rw [if_neg (show ¬ (3 : Int) = 0 by decide), if_neg (show ¬ (3 : Int) = 1 by decide), if_neg (show ¬ (3 : Int) = 2 by decide), if_neg (show ¬ (3 : Int) = 2 by decide), if_neg (show ¬ (3 : Int) = 4 by decide), if_pos rfl, show 58 + 8 * 3 + j = 82 + j by omega]
              by_cases y1 : caB b j
              · rw [if_pos y1]
                by_cases y2 : b (74 + j) = 1
                · rw [if_pos y2]; exact Or.inr rfl
                · rw [if_neg y2]; exact Or.inl rfl
              · rw [if_neg y1]; exact Or.inl rfl
            have e7 : ¬ b (82 + j) = p := fun z => by
              rw [wk_l (by omega)] at e3
              omega
            omega
          rw [e]
          generalize bM b (A1 b p j) (82 + j) = d at *
          simp (disch := first | omega | assumption) only [↓lt, Option.bind_some, zl, ll, zadd, zsub, zmul, zneg, ladd, lsub, lmul, lneg, zltT, zltF, zleT, zleF, zeqT, zeqF, zidx, ixT, zwide, bIT, bIF, if_true, if_false, ↓reduceIte, Nat.reduceAdd, Int.reduceAdd, Int.reduceMul, Int.reduceSub, Int.reduceNeg, cs_c, cs_o, cs_2, cu_c, cu_o, Int.cast_ofNat_Int, ps_f, ps_g, ps_w, ps_o, ps_2, pu_f, pu_g, pu_w, pu_o, uI_s, uI_o, uI_j, uI_j1, uI_j2, uI_tw, or0, true_or, or_true, false_or, or_false, nar0, nar1, c2, ea]
        · have w3 : A1 b p j j = false := by
            cases h : A1 b p j j
            · rfl
            · exact absurd h w2
          have e5 : bM b (A1 b p j) (82 + j) = b (82 + j) := by
            have e6 := bM_n (b := b) (A := A1 b p j) (q := j) (j := 3) u (by omega) (by omega) (by omega) w3
            rw [show 58 + 8 * 3 + j = 82 + j by omega] at e6
            exact e6
          rw [e5] at ea
          by_cases w4 : b (82 + j) = p
          · obtain ⟨a1, a2, a3, a4, a5, a6, a7, a8, a9, a10, a11, a12⟩ := led_of hb u v h1 w4
            have e : adA (A1 b p j) j = A1 b p (j + 1) := by
              funext q
              by_cases e : q = j
              · subst e
                rw [adA_s]
                exact (decide_eq_true ⟨u, v, a3, Or.inr ⟨a9, w, by omega⟩⟩).symm
              · rw [adA_o e]
                refine decide_eq_decide.mpr ?_
                generalize wkB b q = w
                omega
            simp (disch := first | omega | assumption) only [↓lt, Option.bind_some, zl, ll, zadd, zsub, zmul, zneg, ladd, lsub, lmul, lneg, zltT, zltF, zleT, zleF, zeqT, zeqF, zidx, ixT, zwide, bIT, bIF, if_true, if_false, ↓reduceIte, Nat.reduceAdd, Int.reduceAdd, Int.reduceMul, Int.reduceSub, Int.reduceNeg, cs_c, cs_o, cs_2, cu_c, cu_o, Int.cast_ofNat_Int, ps_f, ps_g, ps_w, ps_o, ps_2, pu_f, pu_g, pu_w, pu_o, uI_s, uI_o, uI_j, uI_j1, uI_j2, uI_tw, or0, true_or, or_true, false_or, or_false, nar0, nar1, c2, ea, w4]
            rw [m_movesA hb u v w3 a3 a9.symm a11 (hx.trans a12), e]
            rfl
          · have e : A1 b p (j + 1) = A1 b p j := by
              funext q
              refine decide_eq_decide.mpr ?_
              by_cases e : q = j
              · subst e
                by_cases y : 0 ≤ b (82 + q)
                · rw [wk_l y]; omega
                · rw [wk_s y]; omega
              · generalize wkB b q = w
                omega
            rw [e]
            simp (disch := first | omega | assumption) only [↓lt, Option.bind_some, zl, ll, zadd, zsub, zmul, zneg, ladd, lsub, lmul, lneg, zltT, zltF, zleT, zleF, zeqT, zeqF, zidx, ixT, zwide, bIT, bIF, if_true, if_false, ↓reduceIte, Nat.reduceAdd, Int.reduceAdd, Int.reduceMul, Int.reduceSub, Int.reduceNeg, cs_c, cs_o, cs_2, cu_c, cu_o, Int.cast_ofNat_Int, ps_f, ps_g, ps_w, ps_o, ps_2, pu_f, pu_g, pu_w, pu_o, uI_s, uI_o, uI_j, uI_j1, uI_j2, uI_tw, or0, true_or, or_true, false_or, or_false, nar0, nar1, c2, ea]
    · show lp_X12_goesOne_26 (k + 1) 227 (zI p) (bI (caB b p)) (bI x) (zI (b 2)) (mA X b (A1 b p (b 2))) _ = _
      rw [lp_X12_goesOne_26]
      have w3 : A1 b p (b 2) p = false := decide_eq_false (by rw [hp2]; omega)
      simp (disch := first | omega | assumption) only [↓lt, Option.bind_some, zl, ll, zadd, zsub, zmul, zneg, ladd, lsub, lmul, lneg, zltT, zltF, zleT, zleF, zeqT, zeqF, zidx, ixT, zwide, bIT, bIF, if_true, if_false, ↓reduceIte, Nat.reduceAdd, Int.reduceAdd, Int.reduceMul, Int.reduceSub, Int.reduceNeg, cs_c, cs_o, cs_2, cu_c, cu_o, Int.cast_ofNat_Int, ps_f, ps_g, ps_w, ps_o, ps_2, pu_f, pu_g, pu_w, pu_o, uI_s, uI_o, uI_j, uI_j1, uI_j2, uI_tw, or0, true_or, or_true, false_or, or_false, nar0, nar1, c2]
      rw [m_movesA hb h1 h2 w3 hg hp2.symm Iff.rfl hx, e01]
      rfl
  have w3 : A0 b p p = false := decide_eq_false (by rw [hp2]; omega)
  have e74 : bM b (A0 b p) (74 + p) = b (74 + p) := by
    have e6 := bM_n (b := b) (A := A0 b p) (q := p) (j := 2) h1 (by omega) (by omega) (by omega) w3
    rw [show 58 + 8 * 2 + p = 74 + p by omega] at e6
    exact e6
  have ea := cc (A0 b p) (74 + p) (by omega)
  rw [e74] at ea
  have ez := WPb hb h1 h2
  have L0 := L False instDecidableFalse
  have L1 := L True instDecidableTrue
  unfold f_X12_goesOne
  by_cases w : caB b p
  · by_cases w2 : b (74 + p) = 1
    · have := L1 ⟨fun _ => ⟨w, w2⟩, fun _ => trivial⟩
      rw [bIT w, bIT trivial] at this
      rw [bIT w]
      simp (disch := first | omega | assumption) only [↓lt, Option.bind_some, zl, ll, zadd, zsub, zmul, zneg, ladd, lsub, lmul, lneg, zltT, zltF, zleT, zleF, zeqT, zeqF, zidx, ixT, zwide, bIT, bIF, if_true, if_false, ↓reduceIte, Nat.reduceAdd, Int.reduceAdd, Int.reduceMul, Int.reduceSub, Int.reduceNeg, cs_c, cs_o, cs_2, cu_c, cu_o, Int.cast_ofNat_Int, ps_f, ps_g, ps_w, ps_o, ps_2, pu_f, pu_g, pu_w, pu_o, uI_s, uI_o, uI_j, uI_j1, uI_j2, uI_tw, or0, true_or, or_true, false_or, or_false, nar0, nar1, ea, w2, this]
    · have := L0 ⟨fun z => z.elim, fun z => w2 z.2⟩
      rw [bIT w, bIF (fun z => z)] at this
      rw [bIT w]
      simp (disch := first | omega | assumption) only [↓lt, Option.bind_some, zl, ll, zadd, zsub, zmul, zneg, ladd, lsub, lmul, lneg, zltT, zltF, zleT, zleF, zeqT, zeqF, zidx, ixT, zwide, bIT, bIF, if_true, if_false, ↓reduceIte, Nat.reduceAdd, Int.reduceAdd, Int.reduceMul, Int.reduceSub, Int.reduceNeg, cs_c, cs_o, cs_2, cu_c, cu_o, Int.cast_ofNat_Int, ps_f, ps_g, ps_w, ps_o, ps_2, pu_f, pu_g, pu_w, pu_o, uI_s, uI_o, uI_j, uI_j1, uI_j2, uI_tw, or0, true_or, or_true, false_or, or_false, nar0, nar1, ea, this]
  · have := L0 ⟨fun z => z.elim, fun z => w z.1⟩
    rw [bIF w, bIF (fun z => z)] at this
    rw [bIF w]
    simp (disch := first | omega | assumption) only [↓lt, Option.bind_some, zl, ll, zadd, zsub, zmul, zneg, ladd, lsub, lmul, lneg, zltT, zltF, zleT, zleF, zeqT, zeqF, zidx, ixT, zwide, bIT, bIF, if_true, if_false, ↓reduceIte, Nat.reduceAdd, Int.reduceAdd, Int.reduceMul, Int.reduceSub, Int.reduceNeg, cs_c, cs_o, cs_2, cu_c, cu_o, Int.cast_ofNat_Int, ps_f, ps_g, ps_w, ps_o, ps_2, pu_f, pu_g, pu_w, pu_o, uI_s, uI_o, uI_j, uI_j1, uI_j2, uI_tw, or0, true_or, or_true, false_or, or_false, nar0, nar1, this]
