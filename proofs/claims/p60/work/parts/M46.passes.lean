/-! ===== passes, as the class walks it ===== -/
def A2 (b : Int → Int) (p j : Int) : Int → Bool := fun q => decide (0 ≤ q ∧ q < b 2 ∧ 0 ≤ b (66 + q) ∧ (wkB b q < p ∨ (wkB b q = p ∧ q < j)))
theorem A2_0 {b : Int → Int} {p : Int} : A2 b p 0 = A0 b p := by
  funext q
  refine decide_eq_decide.mpr ?_
  generalize wkB b q = w
  omega
theorem A2_e {b : Int → Int} {p : Int} : A2 b p (b 2) = A0 b (p + 1) := by
  funext q
  refine decide_eq_decide.mpr ?_
  generalize wkB b q = w
  omega
theorem A2_t {b : Int → Int} {p j : Int} (h : goQ b j ∧ wkB b j = p) : adA (A2 b p j) j = A2 b p (j + 1) ∧ A2 b p j j = false := by
  refine ⟨?_, decide_eq_false (by rw [h.2]; omega)⟩
  funext q
  by_cases e : q = j
  · subst e
    rw [adA_s]
    exact (decide_eq_true ⟨h.1.1, h.1.2.1, h.1.2.2, Or.inr ⟨h.2, by omega⟩⟩).symm
  · rw [adA_o e]
    refine decide_eq_decide.mpr ?_
    generalize wkB b q = w
    omega
theorem A2_f {b : Int → Int} {p j : Int} (h : ¬ (goQ b j ∧ wkB b j = p)) : A2 b p (j + 1) = A2 b p j := by
  funext q
  refine decide_eq_decide.mpr ?_
  by_cases e : q = j
  · subst e
    constructor
    · rintro ⟨a1, a2, a3, a4⟩
      refine ⟨a1, a2, a3, ?_⟩
      rcases a4 with a4 | a4
      · exact Or.inl a4
      · exact absurd ⟨⟨a1, a2, a3⟩, a4.1⟩ h
    · rintro ⟨a1, a2, a3, a4⟩
      refine ⟨a1, a2, a3, ?_⟩
      rcases a4 with a4 | a4
      · exact Or.inl a4
      · exact absurd ⟨⟨a1, a2, a3⟩, a4.1⟩ h
  · generalize wkB b q = w
    omega
/-- who goes with p, as the class asks it -/
theorem c_with {b : Int → Int} {N p j : Int} {L n : Nat} {M : KM} {g : Int → Int → Int → Int} {A B : Int → Bool} (hg : GR g b) (hb : WB b) (hp : goQ b p) (hl : b (82 + p) = -1) (h1 : 0 ≤ j) (h2 : j < b 2) (hB : B j = true → wkB b j < p) : f_X2_isWith n L (zI j) (zI p) (ps M L (gC g b N A B)) = some (bI (goQ b j ∧ wkB b j = p)) := by
  have hh := hb.1
  unfold WH at hh
  have ez := WPb hb h1 h2
  have e := hg.1 j h1 h2
  unfold GP at e
  have e9 : g j 0 9 = b (82 + j) := e.2.2.2.2.1
  have wp : wkB b p = p := wk_s (by omega)
  have hF : (gC g b N A B j 0 9 = b (82 + j) ∨ (B j = true ∧ gC g b N A B j 0 9 = -1)) := by
    rw [gC_0 (by decide)]
    by_cases w : B j = true
    · rw [if_pos w]
      by_cases a : arQ b N j
      · rw [if_pos a]; exact Or.inr ⟨w, rfl⟩
      · rw [if_neg a, if_neg (fun z => absurd z.1 (by decide))]; exact Or.inl e9
    · rw [if_neg w]; exact Or.inl e9
  have hp2 : 0 ≤ p ∧ p < 8 := by have := hp.1; have := hp.2.1; omega
  rw [c_isWith h1 (by omega) (by omega) (by omega) (by omega) (by omega)]
  refine congrArg some (bI_c ?_)
  constructor
  · intro z
    rcases z with z | z
    · rw [z]; exact ⟨hp, wp⟩
    · rcases hF with f | f
      · rw [f] at z
        obtain ⟨a1, a2, a3, a4, a5, a6, a7, a8, a9, a10, a11, a12⟩ := led_of hb h1 h2 hp2.1 z
        exact ⟨⟨h1, h2, a3⟩, a9⟩
      · omega
  · rintro ⟨z1, z2⟩
    by_cases e : j = p
    · exact Or.inl e
    · refine Or.inr ?_
      by_cases l : 0 ≤ b (82 + j)
      · rw [wk_l l] at z2
        rcases hF with f | f
        · rw [f]; exact z2
        · have := hB f.1
          rw [wk_l l] at this
          omega
      · rw [wk_s l] at z2
        exact absurd z2 e
theorem c_addDebt {x m j p : Int} {L n : Nat} {M : KM} {h : Int → Int → Int → Int} (h1 : 0 ≤ j) (h2 : j < 8) (h3 : 0 ≤ p) (h4 : p < 8) (hx : h j 2 p = x) (hx1 : -9999 ≤ x) (hx2 : x ≤ 9999) (hm1 : 1 ≤ m) (hm2 : m ≤ 99) : f_X2_addDebt n L (zI j) (zI p) (zI m) (ps M L h) = some (ps M L (gu (gu h j 2 p (debt x m)) p 2 j (-debt x m))) := by
  have e : debt x m = if x + m < 9999 then x + m else 9999 := by
    unfold debt
    by_cases w : x + m < 9999
    · rw [if_pos w, if_pos (by omega)]
    · rw [if_neg w, if_pos (by omega)]
  rw [e]
  unfold f_X2_addDebt
  by_cases w : x + m < 9999
  · rw [if_pos w]
    simp (disch := first | omega | assumption) only [↓lt, Option.bind_some, zl, ll, zadd, zsub, zmul, zneg, ladd, lsub, lmul, lneg, zltT, zltF, zleT, zleF, zeqT, zeqF, zidx, ixT, zwide, bIT, bIF, if_true, if_false, ↓reduceIte, Nat.reduceAdd, Int.reduceAdd, Int.reduceMul, Int.reduceSub, Int.reduceNeg, cs_c, cs_o, cs_2, cu_c, cu_o, Int.cast_ofNat_Int, ps_f, ps_g, ps_w, ps_o, ps_2, pu_f, pu_g, pu_w, pu_o, uI_s, uI_o, uI_j, uI_j1, uI_j2, uI_tw, or0, true_or, or_true, false_or, or_false, nar0, nar1, hx]
  · rw [if_neg w]
    simp (disch := first | omega | assumption) only [↓lt, Option.bind_some, zl, ll, zadd, zsub, zmul, zneg, ladd, lsub, lmul, lneg, zltT, zltF, zleT, zleF, zeqT, zeqF, zidx, ixT, zwide, bIT, bIF, if_true, if_false, ↓reduceIte, Nat.reduceAdd, Int.reduceAdd, Int.reduceMul, Int.reduceSub, Int.reduceNeg, cs_c, cs_o, cs_2, cu_c, cu_o, Int.cast_ofNat_Int, ps_f, ps_g, ps_w, ps_o, ps_2, pu_f, pu_g, pu_w, pu_o, uI_s, uI_o, uI_j, uI_j1, uI_j2, uI_tw, or0, true_or, or_true, false_or, or_false, nar0, nar1, hx]
def wS (b : Int → Int) (p j : Int) : Int32 := setB (fun q => decide (goQ b q ∧ wkB b q = p ∧ q < j)) 8
theorem wS_t {b : Int → Int} {p j : Int} (h : goQ b j ∧ wkB b j = p) (h2 : j < 8) : wS b p j ||| (zI 1 <<< (zI j &&& zI 31)) = wS b p (j + 1) := by
  refine setB_add h.1.1 h2 (decide_eq_true ⟨h.1, h.2, by omega⟩) (fun i hi => ?_)
  refine decide_eq_decide.mpr ?_
  generalize wkB b i = w
  omega
theorem wS_f {b : Int → Int} {p j : Int} (h : ¬ (goQ b j ∧ wkB b j = p)) : wS b p (j + 1) = wS b p j := by
  refine setB_c (fun i _ _ => decide_eq_decide.mpr ?_)
  by_cases e : i = j
  · subst e
    exact ⟨fun z => absurd ⟨z.1, z.2.1⟩ h, fun z => absurd ⟨z.1, z.2.1⟩ h⟩
  · generalize wkB b i = w
    omega
theorem wS_0 {b : Int → Int} {p : Int} : wS b p 0 = zI 0 := by
  unfold wS
  rw [show (fun q => decide (goQ b q ∧ wkB b q = p ∧ q < 0)) = fun _ => false by
    funext q
    refine decide_eq_false (fun z => ?_)
    have := z.1.1
    omega]
  decide
theorem c_arrive {b : Int → Int} {N p : Int} {L n : Nat} {M : KM} {g : Int → Int → Int → Int} {A : Int → Bool} (hL : HL M L b) (hg : GR g b) (hb : WB b) (hp : goQ b p) (hl : b (82 + p) = -1) (ha : arQ b N p) (hn : 60 < n) : f_X2_arrive n L (zI p) (ps M L (gC g b N A (A0 b p))) = some (wS b p (b 2), ps M L (gC g b N A (A0 b (p + 1)))) := by
  have hM := hL
  obtain ⟨q0, q1, q2, q5, q6, q7, q8, q9, q3, q4, qd, qa, qb, qc, qs⟩ := hL
  have hh := hb.1
  unfold WH at hh
  have hp2 : 0 ≤ p ∧ p < 8 := by have := hp.1; have := hp.2.1; omega
  have wp : wkB b p = p := wk_s (by omega)
  have ep := WP_of hb hp.1 hp.2.1
  unfold WP at ep
  have hr : 0 ≤ b (122 + p) ∧ b (122 + p) < b 1 := by have := hp.2.2; omega
  have hR := hb.2.1 _ hr.1 hr.2
  unfold WR at hR
  have hi : 0 ≤ b 1 ∧ b 1 ≤ 12 ∧ 0 ≤ b 2 ∧ b 2 ≤ 8 ∧ 1 ≤ b (34 + b (122 + p)) ∧ b (34 + b (122 + p)) ≤ 99 := by omega
  have gp := hg.1 p hp.1 hp.2.1
  unfold GP at gp
  have g6 : g p 0 6 = b (122 + p) := by have := hp.2.2; omega
  have hAp : A0 b p p = false := decide_eq_false (by rw [wp]; omega)
  have c6 : gC g b N A (A0 b p) p 0 6 = b (122 + p) := (gC_n hAp (by decide)).trans g6
  clear ep hR hh gp
  unfold f_X2_arrive
  have key : lp_X2_arrive_15 n L (zI p) (zI (b (122 + p))) (wS b p 0) (zI 0) (ps M L (gC g b N A (A2 b p 0))) = some (wS b p (b 2), ps M L (gC g b N A (A0 b (p + 1)))) := by
    refine loop_st (lp := fun k j (V : Int32 × KM) => lp_X2_arrive_15 k L (zI p) (zI (b (122 + p))) V.1 j V.2) (fun j => (wS b p j, ps M L (gC g b N A (A2 b p j)))) (fin := some (wS b p (b 2), ps M L (gC g b N A (A0 b (p + 1))))) (N := 30) (R := b 2) (fun k j hk u v => ?_) (fun k _ => ?_) (b 2).toNat 0 n (by omega) (by omega) (by omega)
    · dsimp only
      rw [lp_X2_arrive_15]
      have hw : A2 b p j j = true → wkB b j < p := fun z => by
        have := (of_decide_eq_true z).2.2.2
        omega
      have ew := c_with (N := N) (n := k) (L := L) (M := M) (A := A) hg hb hp hl u v hw
      by_cases w : goQ b j ∧ wkB b j = p
      · obtain ⟨a1, a2⟩ := A2_t w
        have gj := hg.1 j u v
        unfold GP at gj
        have wk := wk_of hb w.1
        rw [w.2] at wk
        have ar : arQ b N j := (ar_wk hb w.1).mp (by rw [w.2]; exact ha)
        have e1 : gC g b N A (A2 b p j) j 1 (b (122 + p)) = b (130 + 12 * j + b (122 + p)) := (gC_n1 a2).trans (hg.2.1 j _ u v hr.1 hr.2)
        have eg := hb.2.2.2.1 j (b (122 + p)) u (by omega) hr.1 (by omega)
        have e8 : gC g b N A (A2 b p j) j 0 8 = b (66 + j) := (gC_n a2 (by decide)).trans gj.2.2.2.1
        have e8b := WPb hb u v
        have i8 : -1 ≤ b (66 + j) ∧ b (66 + j) < 8 := by have := hb.1; unfold WH at this; omega
        have m1 : ∀ X : Int, X = (if b (130 + 12 * j + b (122 + p)) + 1 < 99 then b (130 + 12 * j + b (122 + p)) + 1 else 99) → X = mn99 (g j 1 (b (122 + j))) := fun X hX => by
          rw [hX, ← wk.2.2.2, hg.2.1 j _ u v hr.1 hr.2]
          rfl
        rw [bIT w] at ew
        clear gj e8b
        by_cases jp : j = p
        · subst jp
          by_cases w3 : b (130 + 12 * j + b (122 + j)) + 1 < 99
          · have et := gC_T (g := g) (A := A) a2 hl ar (m1 _ (if_pos w3).symm)
            rw [a1] at et
            have es : ∀ h v, f_X7_stayAt (L + 6 + 8 + 3 * j.toNat) (zI v) (ps M L h) = ps M L (stV h j v) := fun h v => c_stayAt u (by omega)
            have e8' : gu (gC g b N A (A2 b j j)) j 1 (b (122 + j)) (b (130 + 12 * j + b (122 + j)) + 1) j 0 8 = b (66 + j) := by rw [gu_o (by omega)]; exact e8
            simp (disch := first | omega | assumption) only [↓lt, Option.bind_some, zl, ll, zadd, zsub, zmul, zneg, ladd, lsub, lmul, lneg, zltT, zltF, zleT, zleF, zeqT, zeqF, zidx, ixT, zwide, bIT, bIF, if_true, if_false, ↓reduceIte, Nat.reduceAdd, Int.reduceAdd, Int.reduceMul, Int.reduceSub, Int.reduceNeg, cs_c, cs_o, cs_2, cu_c, cu_o, Int.cast_ofNat_Int, ps_f, ps_g, ps_w, ps_o, ps_2, pu_f, pu_g, pu_w, pu_o, uI_s, uI_o, uI_j, uI_j1, uI_j2, uI_tw, or0, true_or, or_true, false_or, or_false, nar0, nar1, q2, c_hasRoad hM, ew, e1, e8', es, et, wS_t w]
          · have et := gC_T (g := g) (A := A) a2 hl ar (m1 _ (if_neg w3).symm)
            rw [a1] at et
            have es : ∀ h v, f_X7_stayAt (L + 6 + 8 + 3 * j.toNat) (zI v) (ps M L h) = ps M L (stV h j v) := fun h v => c_stayAt u (by omega)
            have e8' : gu (gC g b N A (A2 b j j)) j 1 (b (122 + j)) 99 j 0 8 = b (66 + j) := by rw [gu_o (by omega)]; exact e8
            simp (disch := first | omega | assumption) only [↓lt, Option.bind_some, zl, ll, zadd, zsub, zmul, zneg, ladd, lsub, lmul, lneg, zltT, zltF, zleT, zleF, zeqT, zeqF, zidx, ixT, zwide, bIT, bIF, if_true, if_false, ↓reduceIte, Nat.reduceAdd, Int.reduceAdd, Int.reduceMul, Int.reduceSub, Int.reduceNeg, cs_c, cs_o, cs_2, cu_c, cu_o, Int.cast_ofNat_Int, ps_f, ps_g, ps_w, ps_o, ps_2, pu_f, pu_g, pu_w, pu_o, uI_s, uI_o, uI_j, uI_j1, uI_j2, uI_tw, or0, true_or, or_true, false_or, or_false, nar0, nar1, q2, c_hasRoad hM, ew, e1, e8', es, et, wS_t w]
        · have hj : b (82 + j) = p := by
            by_cases l : 0 ≤ b (82 + j)
            · rw [← wk_l l]; exact w.2
            · have := w.2
              rw [wk_s l] at this
              exact absurd this jp
          have e2 : g j 2 p = b (226 + 8 * j + p) := hg.2.2.1 j p u v hp.1 hp.2.1
          have eo := hb.2.2.2.2.1 j p u (by omega) hp2.1 hp2.2
          have es : ∀ h v, f_X7_stayAt (L + 6 + 8 + 3 * j.toNat) (zI v) (ps M L h) = ps M L (stV h j v) := fun h v => c_stayAt u (by omega)
          have ec : gC g b N A (A2 b p j) j 2 p = b (226 + 8 * j + p) := by
            rw [gC_2, a2, if_neg (fun z => absurd z.1 (by decide)), if_neg (fun z => by omega)]; exact e2
          have hcc := qc (b (122 + p)) hr.1 hr.2
          have hd : debt (b (226 + 8 * j + p)) (b (34 + b (122 + p))) = debt (g j 2 p) (b (34 + b (122 + j))) := by rw [e2, wk.2.2.2]
          have m2 : mn99 (g j 1 (b (122 + j))) = if b (130 + 12 * j + b (122 + p)) + 1 < 99 then b (130 + 12 * j + b (122 + p)) + 1 else 99 := (m1 _ rfl).symm
          have et := gC_D (g := g) (A := A) (B := A2 b p j) (N := N) a2 hj hp2.1 u hl (fun z => jp z.symm) ar rfl hd
          rw [a1, m2, ← wk.2.2.2] at et
          by_cases w3 : b (130 + 12 * j + b (122 + p)) + 1 < 99
          · rw [if_pos w3] at et
            have ed := c_addDebt (n := k) (L := L) (M := M) (h := gu (gC g b N A (A2 b p j)) j 1 (b (122 + p)) (b (130 + 12 * j + b (122 + p)) + 1)) (m := b (34 + b (122 + p))) u (by omega) hp2.1 hp2.2 ((gu_o (by omega)).trans ec) eo.1 eo.2.1 hi.2.2.2.2.1 hi.2.2.2.2.2
            have e8' : gu (gu (gu (gC g b N A (A2 b p j)) j 1 (b (122 + p)) (b (130 + 12 * j + b (122 + p)) + 1)) j 2 p (debt (b (226 + 8 * j + p)) (b (34 + b (122 + p))))) p 2 j (-debt (b (226 + 8 * j + p)) (b (34 + b (122 + p)))) j 0 8 = b (66 + j) := by rw [gu_o (by omega), gu_o (by omega), gu_o (by omega)]; exact e8
            simp (disch := first | omega | assumption) only [↓lt, Option.bind_some, zl, ll, zadd, zsub, zmul, zneg, ladd, lsub, lmul, lneg, zltT, zltF, zleT, zleF, zeqT, zeqF, zidx, ixT, zwide, bIT, bIF, if_true, if_false, ↓reduceIte, Nat.reduceAdd, Int.reduceAdd, Int.reduceMul, Int.reduceSub, Int.reduceNeg, cs_c, cs_o, cs_2, cu_c, cu_o, Int.cast_ofNat_Int, ps_f, ps_g, ps_w, ps_o, ps_2, pu_f, pu_g, pu_w, pu_o, uI_s, uI_o, uI_j, uI_j1, uI_j2, uI_tw, or0, true_or, or_true, false_or, or_false, nar0, nar1, q2, hcc, c_hasRoad hM, ew, e1, ed, e8', es, et, wS_t w]
          · rw [if_neg w3] at et
            have ed := c_addDebt (n := k) (L := L) (M := M) (h := gu (gC g b N A (A2 b p j)) j 1 (b (122 + p)) 99) (m := b (34 + b (122 + p))) u (by omega) hp2.1 hp2.2 ((gu_o (by omega)).trans ec) eo.1 eo.2.1 hi.2.2.2.2.1 hi.2.2.2.2.2
            have e8' : gu (gu (gu (gC g b N A (A2 b p j)) j 1 (b (122 + p)) 99) j 2 p (debt (b (226 + 8 * j + p)) (b (34 + b (122 + p))))) p 2 j (-debt (b (226 + 8 * j + p)) (b (34 + b (122 + p)))) j 0 8 = b (66 + j) := by rw [gu_o (by omega), gu_o (by omega), gu_o (by omega)]; exact e8
            simp (disch := first | omega | assumption) only [↓lt, Option.bind_some, zl, ll, zadd, zsub, zmul, zneg, ladd, lsub, lmul, lneg, zltT, zltF, zleT, zleF, zeqT, zeqF, zidx, ixT, zwide, bIT, bIF, if_true, if_false, ↓reduceIte, Nat.reduceAdd, Int.reduceAdd, Int.reduceMul, Int.reduceSub, Int.reduceNeg, cs_c, cs_o, cs_2, cu_c, cu_o, Int.cast_ofNat_Int, ps_f, ps_g, ps_w, ps_o, ps_2, pu_f, pu_g, pu_w, pu_o, uI_s, uI_o, uI_j, uI_j1, uI_j2, uI_tw, or0, true_or, or_true, false_or, or_false, nar0, nar1, q2, hcc, c_hasRoad hM, ew, e1, ed, e8', es, et, wS_t w]
      · rw [A2_f w, wS_f w]
        rw [bIF w] at ew
        simp (disch := first | omega | assumption) only [↓lt, Option.bind_some, zl, ll, zadd, zsub, zmul, zneg, ladd, lsub, lmul, lneg, zltT, zltF, zleT, zleF, zeqT, zeqF, zidx, ixT, zwide, bIT, bIF, if_true, if_false, ↓reduceIte, Nat.reduceAdd, Int.reduceAdd, Int.reduceMul, Int.reduceSub, Int.reduceNeg, cs_c, cs_o, cs_2, cu_c, cu_o, Int.cast_ofNat_Int, ps_f, ps_g, ps_w, ps_o, ps_2, pu_f, pu_g, pu_w, pu_o, uI_s, uI_o, uI_j, uI_j1, uI_j2, uI_tw, or0, true_or, or_true, false_or, or_false, nar0, nar1, q2, c_hasRoad hM, ew]
    · dsimp only
      rw [lp_X2_arrive_15, A2_e]
      simp (disch := first | omega | assumption) only [↓lt, Option.bind_some, zl, ll, zadd, zsub, zmul, zneg, ladd, lsub, lmul, lneg, zltT, zltF, zleT, zleF, zeqT, zeqF, zidx, ixT, zwide, bIT, bIF, if_true, if_false, ↓reduceIte, Nat.reduceAdd, Int.reduceAdd, Int.reduceMul, Int.reduceSub, Int.reduceNeg, cs_c, cs_o, cs_2, cu_c, cu_o, Int.cast_ofNat_Int, ps_f, ps_g, ps_w, ps_o, ps_2, pu_f, pu_g, pu_w, pu_o, uI_s, uI_o, uI_j, uI_j1, uI_j2, uI_tw, or0, true_or, or_true, false_or, or_false, nar0, nar1, q2]
  rw [wS_0, A2_0] at key
  simp (disch := first | omega | assumption) only [↓lt, Option.bind_some, zl, ll, zadd, zsub, zmul, zneg, ladd, lsub, lmul, lneg, zltT, zltF, zleT, zleF, zeqT, zeqF, zidx, ixT, zwide, bIT, bIF, if_true, if_false, ↓reduceIte, Nat.reduceAdd, Int.reduceAdd, Int.reduceMul, Int.reduceSub, Int.reduceNeg, cs_c, cs_o, cs_2, cu_c, cu_o, Int.cast_ofNat_Int, ps_f, ps_g, ps_w, ps_o, ps_2, pu_f, pu_g, pu_w, pu_o, uI_s, uI_o, uI_j, uI_j1, uI_j2, uI_tw, or0, true_or, or_true, false_or, or_false, nar0, nar1, c6]
  exact key

