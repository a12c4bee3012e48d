/-! ===== days: tests; a turn of the class ===== -/
theorem if01 {α : Type} {a c : α} : (if (0 : Int) = 1 then a else c) = c := if_neg (by decide)
/-- what a when comes to -/
theorem stp_when {W0 X0 : KM} {L P : Nat} {b0 b : Int → Int} {g : Int → Int → Int → Int} {W : KM} {dr dn ms ar lf : Int} {n n2 : Nat} {i w x : Int} (hl : 23 ≤ L) (hPL : P = L + 8 ∨ (31 ≤ P ∧ P + 6 ≤ L) ∨ L + 38 ≤ P) (hP : W.2.2 L 7 = P) (hR : RC W0 L b0 b g W dr dn ms ar lf) (hi : 0 ≤ i ∧ i < 60) (hw : 292 ≤ w ∧ w ≤ 553) (hs : PBl W P b w i) (k6 : b w = 6) (r5 : W.1 (P + 5) i.toNat = zI x) (hx : 0 ≤ x ∧ x < 60) (hn : 800 < n) : ∃ h : Int, (h = 0 ∨ h = 1) ∧ f_X4_doStep n 12 L (zI i) (ps W L g) = some (zI (if h = 1 then i + 1 else x + 1), ps (uI (uI W 12 5 (zI (ar + 0))) 12 3 (zI (ms + 0))) L g) ∧ ∀ X, f_X12_isSo n2 227 (zI w) (cs X b) = some (zI h) := by
  obtain ⟨⟨hL, hg, hb, h5⟩, a2, a3, a4, a5, a6, a7, a8, a9, a10, a11, a12⟩ := hR
  have hh := hb.1
  unfold WH at hh
  have i8 : b 2 ≤ 8 ∧ 0 ≤ b 2 ∧ b 0 ≤ 8 ∧ 0 ≤ b 0 ∧ 0 ≤ b 5 := by omega
  clear hh
  have q5 : W.1 L 11 = zI (b 5) := hL.2.2.2.1
  unfold PBl at hs
  rcases hs with ⟨-, t0, r1, r2, r3, p1, p2, p3, p4⟩ | ⟨-, t0, r1⟩ | ⟨-, t0, r1, r2, r3, r4, p1, p2, p3, p4, p5⟩ | ⟨t0, -⟩
  · have cw6 : ∀ X : KM, (cs X b).1 232 (w + 6).toNat = zI 0 := fun X => by rw [cs_c (by omega), t0]
    have cw1 : ∀ X : KM, (cs X b).1 232 (w + 1).toNat = zI (b (w + 1)) := fun X => cs_c (by omega)
    have cw2 : ∀ X : KM, (cs X b).1 232 (w + 2).toNat = zI (b (w + 2)) := fun X => cs_c (by omega)
    have ep := c_placeOf (n := n) (g := g) (M := W) hL hb p1 p2
    have gp := hg.1 _ p1 p2
    have z := WPb hb p1 p2
    unfold GP at gp
    have eg := fun X => m_isGoing (b := b) (n := n2) (M := X) p1 (show b (w + 1) < 8 by omega) (by omega) (by omega)
    have c58 : ∀ X : KM, (cs X b).1 232 (58 + b (w + 1)).toNat = zI (b (58 + b (w + 1))) := fun X => cs_c (by omega)
    by_cases y : 0 ≤ b (66 + b (w + 1))
    · have g5 : g (b (w + 1)) 0 5 = -1 := by omega
      simp only [bIT y] at eg
      rw [g5] at ep
      clear gp z
      refine ⟨0, Or.inl rfl, ?_, fun X => ?_⟩
      · unfold f_X4_doStep
        simp (disch := first | omega | assumption) only [↓lt, ↓reduceIte, Option.bind_some, zl, zneg, zadd, zsub, zmul, Int.reduceNeg, Int.reduceMul, ixT, zidx, if_true, if_false, zeqT, zeqF, zltT, zltF, zleT, zleF, ps_2, pu_o, uI_o, uI_s, uI_j, uI_j2, ps_o, Nat.reduceAdd, if01, hP, r1, r2, r3, r5, ep, bc0, a8, a9]
      · unfold f_X12_isSo
        simp (disch := first | omega | assumption) only [↓lt, ↓reduceIte, Option.bind_some, zl, zneg, zadd, zsub, zmul, Int.reduceNeg, Int.reduceMul, ixT, zidx, if_true, if_false, zeqT, zeqF, zltT, zltF, zleT, zleF, ps_2, pu_o, uI_o, uI_s, uI_j, uI_j2, ps_o, Nat.reduceAdd, if01, cw6, cw1, eg]
    · have g5 : g (b (w + 1)) 0 5 = b (58 + b (w + 1)) := by omega
      have i58 : 0 ≤ b (58 + b (w + 1)) ∧ b (58 + b (w + 1)) < 8 := by omega
      simp only [bIF y] at eg
      rw [g5] at ep
      clear gp z
      by_cases e : b (58 + b (w + 1)) = b (w + 2)
      · refine ⟨1, Or.inr rfl, ?_, fun X => ?_⟩
        · unfold f_X4_doStep
          simp (disch := first | omega | assumption) only [↓lt, ↓reduceIte, Option.bind_some, zl, zneg, zadd, zsub, zmul, Int.reduceNeg, Int.reduceMul, ixT, zidx, if_true, if_false, zeqT, zeqF, zltT, zltF, zleT, zleF, ps_2, pu_o, uI_o, uI_s, uI_j, uI_j2, ps_o, Nat.reduceAdd, if01, hP, r1, r2, r3, r5, ep, bc0, a8, a9, e]
        · unfold f_X12_isSo
          simp (disch := first | omega | assumption) only [↓lt, ↓reduceIte, Option.bind_some, zl, zneg, zadd, zsub, zmul, Int.reduceNeg, Int.reduceMul, ixT, zidx, if_true, if_false, zeqT, zeqF, zltT, zltF, zleT, zleF, ps_2, pu_o, uI_o, uI_s, uI_j, uI_j2, ps_o, Nat.reduceAdd, if01, cw6, cw1, cw2, eg, c58, e]
      · refine ⟨0, Or.inl rfl, ?_, fun X => ?_⟩
        · unfold f_X4_doStep
          simp (disch := first | omega | assumption) only [↓lt, ↓reduceIte, Option.bind_some, zl, zneg, zadd, zsub, zmul, Int.reduceNeg, Int.reduceMul, ixT, zidx, if_true, if_false, zeqT, zeqF, zltT, zltF, zleT, zleF, ps_2, pu_o, uI_o, uI_s, uI_j, uI_j2, ps_o, Nat.reduceAdd, if01, hP, r1, r2, r3, r5, ep, bc0, a8, a9]
        · unfold f_X12_isSo
          simp (disch := first | omega | assumption) only [↓lt, ↓reduceIte, Option.bind_some, zl, zneg, zadd, zsub, zmul, Int.reduceNeg, Int.reduceMul, ixT, zidx, if_true, if_false, zeqT, zeqF, zltT, zltF, zleT, zleF, ps_2, pu_o, uI_o, uI_s, uI_j, uI_j2, ps_o, Nat.reduceAdd, if01, cw6, cw1, cw2, eg, c58]
  · have cw6 : ∀ X : KM, (cs X b).1 232 (w + 6).toNat = zI 1 := fun X => by rw [cs_c (by omega), t0]
    have c5 : ∀ X : KM, (cs X b).1 232 (5 : Int).toNat = zI (b 5) := fun X => cs_c (by omega)
    have e := c_isGlaring (n := n) (g := g) (M := W) hL hb.1 i8.2.2.2.2 (show b 5 < 2147483648 by omega)
    have em := fun X => m_glares (n := n2) (M := X) hb.1 i8.2.2.2.2 (show b 5 < 2147483648 by omega)
    by_cases y : glB b (b 5)
    · rw [bIT y] at e
      simp only [bIT y] at em
      clear y
      refine ⟨1, Or.inr rfl, ?_, fun X => ?_⟩
      · unfold f_X4_doStep
        simp (disch := first | omega | assumption) only [↓lt, ↓reduceIte, Option.bind_some, zl, zneg, zadd, zsub, zmul, Int.reduceNeg, Int.reduceMul, ixT, zidx, if_true, if_false, zeqT, zeqF, zltT, zltF, zleT, zleF, ps_2, pu_o, uI_o, uI_s, uI_j, uI_j2, ps_o, Nat.reduceAdd, if01, hP, r1, r5, q5, e, bc0, a8, a9]
      · unfold f_X12_isSo
        simp (disch := first | omega | assumption) only [↓lt, ↓reduceIte, Option.bind_some, zl, zneg, zadd, zsub, zmul, Int.reduceNeg, Int.reduceMul, ixT, zidx, if_true, if_false, zeqT, zeqF, zltT, zltF, zleT, zleF, ps_2, pu_o, uI_o, uI_s, uI_j, uI_j2, ps_o, Nat.reduceAdd, if01, cw6, c5, em]
    · rw [bIF y] at e
      simp only [bIF y] at em
      clear y
      refine ⟨0, Or.inl rfl, ?_, fun X => ?_⟩
      · unfold f_X4_doStep
        simp (disch := first | omega | assumption) only [↓lt, ↓reduceIte, Option.bind_some, zl, zneg, zadd, zsub, zmul, Int.reduceNeg, Int.reduceMul, ixT, zidx, if_true, if_false, zeqT, zeqF, zltT, zltF, zleT, zleF, ps_2, pu_o, uI_o, uI_s, uI_j, uI_j2, ps_o, Nat.reduceAdd, if01, hP, r1, r5, q5, e, bc0, a8, a9]
      · unfold f_X12_isSo
        simp (disch := first | omega | assumption) only [↓lt, ↓reduceIte, Option.bind_some, zl, zneg, zadd, zsub, zmul, Int.reduceNeg, Int.reduceMul, ixT, zidx, if_true, if_false, zeqT, zeqF, zltT, zltF, zleT, zleF, ps_2, pu_o, uI_o, uI_s, uI_j, uI_j2, ps_o, Nat.reduceAdd, if01, cw6, c5, em]
  · have cw6 : ∀ X : KM, (cs X b).1 232 (w + 6).toNat = zI 2 := fun X => by rw [cs_c (by omega), t0]
    have cw1 : ∀ X : KM, (cs X b).1 232 (w + 1).toNat = zI (b (w + 1)) := fun X => cs_c (by omega)
    have cw2 : ∀ X : KM, (cs X b).1 232 (w + 2).toNat = zI (b (w + 2)) := fun X => cs_c (by omega)
    have cw7 : ∀ X : KM, (cs X b).1 232 (w + 7).toNat = zI (b (w + 7)) := fun X => cs_c (by omega)
    have c90 : ∀ X : KM, (cs X b).1 232 (90 + b (w + 1)).toNat = zI (b (90 + b (w + 1))) := fun X => cs_c (by omega)
    have gp := hg.1 _ p1 p2
    have z := WPb hb p1 p2
    unfold GP at gp
    have g11 : g (b (w + 1)) 0 11 = b (90 + b (w + 1)) := gp.2.2.2.2.2.2
    have i90 : 0 ≤ b (90 + b (w + 1)) ∧ b (90 + b (w + 1)) ≤ 99999 := by omega
    clear gp z
    have el : f_X2_minutesLost n L (zI (b (w + 1))) (ps W L g) = some (zI (b (90 + b (w + 1)))) := by
      unfold f_X2_minutesLost
      rw [c_hasPerson hL (by omega) (by omega) i8.2.1 i8.1, bIT ⟨p1, p2⟩]
      simp (disch := first | omega | assumption) only [↓lt, Option.bind_some, zl, ll, zadd, zsub, zmul, zneg, ladd, lsub, lmul, lneg, zltT, zltF, zleT, zleF, zeqT, zeqF, zidx, ixT, zwide, bIT, bIF, if_true, if_false, ↓reduceIte, Nat.reduceAdd, Int.reduceAdd, Int.reduceMul, Int.reduceSub, Int.reduceNeg, cs_c, cs_o, cs_2, cu_c, cu_o, Int.cast_ofNat_Int, ps_f, ps_g, ps_w, ps_o, ps_2, pu_f, pu_g, pu_w, pu_o, uI_s, uI_o, uI_j, uI_j1, uI_j2, uI_tw, or0, true_or, or_true, false_or, or_false, nar0, nar1, g11]
    generalize b (90 + b (w + 1)) = V at *
    generalize b (w + 2) = T at *
    -- the comparison
    have done : ∀ h : Int, (h = 0 ∨ h = 1) → (∀ M : KM, f_X4_compares (zI V) (zI (b (w + 7))) (zI T) M = zI h) → (∀ X, f_X12_isSo n2 227 (zI w) (cs X b) = some (zI h)) → ∃ h : Int, (h = 0 ∨ h = 1) ∧ f_X4_doStep n 12 L (zI i) (ps W L g) = some (zI (if h = 1 then i + 1 else x + 1), ps (uI (uI W 12 5 (zI (ar + 0))) 12 3 (zI (ms + 0))) L g) ∧ ∀ X, f_X12_isSo n2 227 (zI w) (cs X b) = some (zI h) := fun h h01 hc hm => by
      refine ⟨h, h01, ?_, hm⟩
      unfold f_X4_doStep
      rcases h01 with rfl | rfl
      · simp (disch := first | omega | assumption) only [↓lt, ↓reduceIte, Option.bind_some, zl, zneg, zadd, zsub, zmul, Int.reduceNeg, Int.reduceMul, ixT, zidx, if_true, if_false, zeqT, zeqF, zltT, zltF, zleT, zleF, ps_2, pu_o, uI_o, uI_s, uI_j, uI_j2, ps_o, Nat.reduceAdd, if01, hP, r1, r2, r3, r4, r5, el, hc, bc0, a8, a9]
      · simp (disch := first | omega | assumption) only [↓lt, ↓reduceIte, Option.bind_some, zl, zneg, zadd, zsub, zmul, Int.reduceNeg, Int.reduceMul, ixT, zidx, if_true, if_false, zeqT, zeqF, zltT, zltF, zleT, zleF, ps_2, pu_o, uI_o, uI_s, uI_j, uI_j2, ps_o, Nat.reduceAdd, if01, hP, r1, r2, r3, r4, r5, el, hc, bc0, a8, a9]
    rcases p5 with e | e | e
    · rw [e] at done
      have cw7' : ∀ X : KM, (cs X b).1 232 (w + 7).toNat = zI 60 := fun X => by rw [cw7, e]
      by_cases c : V < T
      · refine done 1 (Or.inr rfl) (fun M => ?_) (fun X => ?_)
        · unfold f_X4_compares
          simp (disch := first | omega | assumption) only [↓lt, ↓reduceIte, Option.bind_some, zl, zneg, zadd, zsub, zmul, Int.reduceNeg, Int.reduceMul, ixT, zidx, if_true, if_false, zeqT, zeqF, zltT, zltF, zleT, zleF, ps_2, pu_o, uI_o, uI_s, uI_j, uI_j2, ps_o, Nat.reduceAdd, if01]
        · unfold f_X12_isSo
          simp (disch := first | omega | assumption) only [↓lt, ↓reduceIte, Option.bind_some, zl, zneg, zadd, zsub, zmul, Int.reduceNeg, Int.reduceMul, ixT, zidx, if_true, if_false, zeqT, zeqF, zltT, zltF, zleT, zleF, ps_2, pu_o, uI_o, uI_s, uI_j, uI_j2, ps_o, Nat.reduceAdd, if01, cw6, cw1, cw2, cw7', c90]
      · refine done 0 (Or.inl rfl) (fun M => ?_) (fun X => ?_)
        · unfold f_X4_compares
          simp (disch := first | omega | assumption) only [↓lt, ↓reduceIte, Option.bind_some, zl, zneg, zadd, zsub, zmul, Int.reduceNeg, Int.reduceMul, ixT, zidx, if_true, if_false, zeqT, zeqF, zltT, zltF, zleT, zleF, ps_2, pu_o, uI_o, uI_s, uI_j, uI_j2, ps_o, Nat.reduceAdd, if01]
        · unfold f_X12_isSo
          simp (disch := first | omega | assumption) only [↓lt, ↓reduceIte, Option.bind_some, zl, zneg, zadd, zsub, zmul, Int.reduceNeg, Int.reduceMul, ixT, zidx, if_true, if_false, zeqT, zeqF, zltT, zltF, zleT, zleF, ps_2, pu_o, uI_o, uI_s, uI_j, uI_j2, ps_o, Nat.reduceAdd, if01, cw6, cw1, cw2, cw7', c90]
    · rw [e] at done
      have cw7' : ∀ X : KM, (cs X b).1 232 (w + 7).toNat = zI 61 := fun X => by rw [cw7, e]
      by_cases c : V = T
      · refine done 1 (Or.inr rfl) (fun M => ?_) (fun X => ?_)
        · unfold f_X4_compares
          simp (disch := first | omega | assumption) only [↓lt, ↓reduceIte, Option.bind_some, zl, zneg, zadd, zsub, zmul, Int.reduceNeg, Int.reduceMul, ixT, zidx, if_true, if_false, zeqT, zeqF, zltT, zltF, zleT, zleF, ps_2, pu_o, uI_o, uI_s, uI_j, uI_j2, ps_o, Nat.reduceAdd, if01]
        · unfold f_X12_isSo
          simp (disch := first | omega | assumption) only [↓lt, ↓reduceIte, Option.bind_some, zl, zneg, zadd, zsub, zmul, Int.reduceNeg, Int.reduceMul, ixT, zidx, if_true, if_false, zeqT, zeqF, zltT, zltF, zleT, zleF, ps_2, pu_o, uI_o, uI_s, uI_j, uI_j2, ps_o, Nat.reduceAdd, if01, cw6, cw1, cw2, cw7', c90]
      · refine done 0 (Or.inl rfl) (fun M => ?_) (fun X => ?_)
        · unfold f_X4_compares
          simp (disch := first | omega | assumption) only [↓lt, ↓reduceIte, Option.bind_some, zl, zneg, zadd, zsub, zmul, Int.reduceNeg, Int.reduceMul, ixT, zidx, if_true, if_false, zeqT, zeqF, zltT, zltF, zleT, zleF, ps_2, pu_o, uI_o, uI_s, uI_j, uI_j2, ps_o, Nat.reduceAdd, if01]
        · unfold f_X12_isSo
          simp (disch := first | omega | assumption) only [↓lt, ↓reduceIte, Option.bind_some, zl, zneg, zadd, zsub, zmul, Int.reduceNeg, Int.reduceMul, ixT, zidx, if_true, if_false, zeqT, zeqF, zltT, zltF, zleT, zleF, ps_2, pu_o, uI_o, uI_s, uI_j, uI_j2, ps_o, Nat.reduceAdd, if01, cw6, cw1, cw2, cw7', c90]
    · rw [e] at done
      have cw7' : ∀ X : KM, (cs X b).1 232 (w + 7).toNat = zI 62 := fun X => by rw [cw7, e]
      by_cases c : T < V
      · refine done 1 (Or.inr rfl) (fun M => ?_) (fun X => ?_)
        · unfold f_X4_compares
          simp (disch := first | omega | assumption) only [↓lt, ↓reduceIte, Option.bind_some, zl, zneg, zadd, zsub, zmul, Int.reduceNeg, Int.reduceMul, ixT, zidx, if_true, if_false, zeqT, zeqF, zltT, zltF, zleT, zleF, ps_2, pu_o, uI_o, uI_s, uI_j, uI_j2, ps_o, Nat.reduceAdd, if01]
        · unfold f_X12_isSo
          simp (disch := first | omega | assumption) only [↓lt, ↓reduceIte, Option.bind_some, zl, zneg, zadd, zsub, zmul, Int.reduceNeg, Int.reduceMul, ixT, zidx, if_true, if_false, zeqT, zeqF, zltT, zltF, zleT, zleF, ps_2, pu_o, uI_o, uI_s, uI_j, uI_j2, ps_o, Nat.reduceAdd, if01, cw6, cw1, cw2, cw7', c90]
      · refine done 0 (Or.inl rfl) (fun M => ?_) (fun X => ?_)
        · unfold f_X4_compares
          simp (disch := first | omega | assumption) only [↓lt, ↓reduceIte, Option.bind_some, zl, zneg, zadd, zsub, zmul, Int.reduceNeg, Int.reduceMul, ixT, zidx, if_true, if_false, zeqT, zeqF, zltT, zltF, zleT, zleF, ps_2, pu_o, uI_o, uI_s, uI_j, uI_j2, ps_o, Nat.reduceAdd, if01]
        · unfold f_X12_isSo
          simp (disch := first | omega | assumption) only [↓lt, ↓reduceIte, Option.bind_some, zl, zneg, zadd, zsub, zmul, Int.reduceNeg, Int.reduceMul, ixT, zidx, if_true, if_false, zeqT, zeqF, zltT, zltF, zleT, zleF, ps_2, pu_o, uI_o, uI_s, uI_j, uI_j2, ps_o, Nat.reduceAdd, if01, cw6, cw1, cw2, cw7', c90]
  · omega
/-! a turn -/
theorem t_step {L P F : Nat} {g : Int → Int → Int → Int} {W K : KM} {dn i t jt kd : Int} {c4 c5 row : Int32} {κ : KM → Option KM} (hl : 23 ≤ L) (hPL : P = L + 8 ∨ (31 ≤ P ∧ P + 6 ≤ L) ∨ L + 38 ≤ P) (hj : W.1 P 5 = zI jt) (hjt : jt ≤ 60) (hi : 0 ≤ i ∧ i < jt) (ht : 0 ≤ t ∧ t < 1000000) (hk : W.1 (P + 1) i.toNat = zI kd) (hkd : 0 ≤ kd ∧ kd ≤ 11 ∧ ¬ kd = 10) (hd : W.1 12 2 = zI dn) (hdn : 0 ≤ dn ∧ dn < 300) (e : f_X4_doStep F 12 L (zI i) (ps (uI W 12 2 (zI (dn + 1))) L g) = some (row, K)) : lp_X4_run_48 (F + 1) 12 L P c4 c5 (zI i) (zI t) (ps W L g) κ = lp_X4_run_48 F 12 L P c4 c5 row (zI (t + 1)) K κ := by
  rw [lp_X4_run_48]
  simp (disch := first | omega | assumption) only [↓lt, ↓reduceIte, Option.bind_some, zl, zneg, zadd, zsub, zmul, Int.reduceNeg, Int.reduceMul, ixT, zidx, if_true, if_false, zeqT, zeqF, zltT, zltF, zleT, zleF, ps_2, pu_o, uI_o, uI_s, uI_j, uI_j2, ps_o, Nat.reduceAdd, if01, hj, hk, hd, e]
theorem t_out {L P F : Nat} {g : Int → Int → Int → Int} {W : KM} {t jt : Int} {c4 c5 : Int32} {κ : KM → Option KM} (hl : 23 ≤ L) (hPL : P = L + 8 ∨ (31 ≤ P ∧ P + 6 ≤ L) ∨ L + 38 ≤ P) (hj : W.1 P 5 = zI jt) (hjt : 0 ≤ jt ∧ jt ≤ 60) (ht : 0 ≤ t ∧ t < 1000000) : lp_X4_run_48 (F + 1) 12 L P c4 c5 (zI jt) (zI t) (ps W L g) κ = κ (ps W L g) := by
  rw [lp_X4_run_48]
  simp (disch := first | omega | assumption) only [↓lt, ↓reduceIte, Option.bind_some, zl, zneg, zadd, zsub, zmul, Int.reduceNeg, Int.reduceMul, ixT, zidx, if_true, if_false, zeqT, zeqF, zltT, zltF, zleT, zleF, ps_2, pu_o, uI_o, uI_s, uI_j, uI_j2, ps_o, Nat.reduceAdd, if01, hj]
theorem t_cut {L P F : Nat} {g : Int → Int → Int → Int} {W : KM} {i t jt kd : Int} {c4 c5 : Int32} {κ : KM → Option KM} (hl : 23 ≤ L) (hPL : P = L + 8 ∨ (31 ≤ P ∧ P + 6 ≤ L) ∨ L + 38 ≤ P) (hj : W.1 P 5 = zI jt) (hjt : jt ≤ 60) (hi : 0 ≤ i ∧ i < jt) (ht : 0 ≤ t ∧ t < 900000) (hk : W.1 (P + 1) i.toNat = zI kd) (hkd : 0 ≤ kd ∧ kd ≤ 11 ∧ ¬ kd = 10) (hd : W.1 12 2 = zI 300) : lp_X4_run_48 (F + 1 + 1) 12 L P c4 c5 (zI i) (zI t) (ps W L g) κ = κ (ps (uI W 12 7 (zI 1)) L g) := by
  rw [lp_X4_run_48]
  have e := t_out (F := F) (g := g) (W := uI W 12 7 (zI 1)) (t := t + 1) (c4 := c4) (c5 := c5) (κ := κ) hl hPL (by rw [uI_o (by omega)]; exact hj) ⟨by omega, hjt⟩ ⟨by omega, by omega⟩
  simp (disch := first | omega | assumption) only [↓lt, ↓reduceIte, Option.bind_some, zl, zneg, zadd, zsub, zmul, Int.reduceNeg, Int.reduceMul, ixT, zidx, if_true, if_false, zeqT, zeqF, zltT, zltF, zleT, zleF, ps_2, pu_o, uI_o, uI_s, uI_j, uI_j2, ps_o, Nat.reduceAdd, if01, hj, hk, hd]
  exact e
theorem t_endW {L P F : Nat} {g : Int → Int → Int → Int} {W : KM} {i x t jt kd : Int} {c4 c5 : Int32} {κ : KM → Option KM} (hl : 23 ≤ L) (hPL : P = L + 8 ∨ (31 ≤ P ∧ P + 6 ≤ L) ∨ L + 38 ≤ P) (hj : W.1 P 5 = zI jt) (hjt : jt ≤ 60) (hi : 0 ≤ i ∧ i < x ∧ x < jt) (ht : 0 ≤ t ∧ t < 1000000) (hk : W.1 (P + 1) i.toNat = zI kd) (hkd : 0 ≤ kd ∧ kd ≤ 11 ∧ ¬ kd = 9) (hx : W.1 (P + 1) x.toNat = zI 10) (hp : W.1 (P + 5) x.toNat = zI i) : lp_X4_run_48 (F + 1) 12 L P c4 c5 (zI x) (zI t) (ps W L g) κ = lp_X4_run_48 F 12 L P c4 c5 (zI (x + 1)) (zI (t + 1)) (ps W L g) κ := by
  rw [lp_X4_run_48]
  unfold f_X4_rowBehindEnd
  simp (disch := first | omega | assumption) only [↓lt, ↓reduceIte, Option.bind_some, zl, zneg, zadd, zsub, zmul, Int.reduceNeg, Int.reduceMul, ixT, zidx, if_true, if_false, zeqT, zeqF, zltT, zltF, zleT, zleF, ps_2, pu_o, uI_o, uI_s, uI_j, uI_j2, ps_o, Nat.reduceAdd, if01, hj, hk, hx, hp]
theorem t_endL {L P F : Nat} {g : Int → Int → Int → Int} {W : KM} {i x t jt c : Int} {c4 c5 : Int32} {κ : KM → Option KM} (hl : 23 ≤ L) (hPL : P = L + 8 ∨ (31 ≤ P ∧ P + 6 ≤ L) ∨ L + 38 ≤ P) (hj : W.1 P 5 = zI jt) (hjt : jt ≤ 60) (hi : 0 ≤ i ∧ i < x ∧ x < jt) (ht : 0 ≤ t ∧ t < 1000000) (hk : W.1 (P + 1) i.toNat = zI 9) (hx : W.1 (P + 1) x.toNat = zI 10) (hp : W.1 (P + 5) x.toNat = zI i) (hc : W.1 13 i.toNat = zI c) (hc2 : 1 ≤ c ∧ c ≤ 99) : lp_X4_run_48 (F + 1) 12 L P c4 c5 (zI x) (zI t) (ps W L g) κ = if c = 1 then lp_X4_run_48 F 12 L P c4 c5 (zI (x + 1)) (zI (t + 1)) (ps W L g) κ else lp_X4_run_48 F 12 L P c4 c5 (zI (i + 1)) (zI (t + 1)) (ps (uI W 13 i.toNat (zI (c - 1))) L g) κ := by
  rw [lp_X4_run_48]
  unfold f_X4_rowBehindEnd
  by_cases e : c = 1
  · rw [if_pos e]
    simp (disch := first | omega | assumption) only [↓lt, ↓reduceIte, Option.bind_some, zl, zneg, zadd, zsub, zmul, Int.reduceNeg, Int.reduceMul, ixT, zidx, if_true, if_false, zeqT, zeqF, zltT, zltF, zleT, zleF, ps_2, pu_o, uI_o, uI_s, uI_j, uI_j2, ps_o, Nat.reduceAdd, if01, hj, hk, hx, hp, hc]
  · rw [if_neg e]
    simp (disch := first | omega | assumption) only [↓lt, ↓reduceIte, Option.bind_some, zl, zneg, zadd, zsub, zmul, Int.reduceNeg, Int.reduceMul, ixT, zidx, if_true, if_false, zeqT, zeqF, zltT, zltF, zleT, zleF, ps_2, pu_o, uI_o, uI_s, uI_j, uI_j2, ps_o, Nat.reduceAdd, if01, hj, hk, hx, hp, hc]
