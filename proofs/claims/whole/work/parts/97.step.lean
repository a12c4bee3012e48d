/-! ===== days: any, cloud, clear ===== -/
def nd (d : Int) : Int := (d * 2971 + 10733) % 65536
theorem nd_r {d : Int} : 0 ≤ nd d ∧ nd d < 65536 := by unfold nd; omega
theorem nd_e {d : Int} : d * 2971 + 10733 - (d * 2971 + 10733) / 65536 * 65536 = nd d := by unfold nd; omega
theorem md_e {a p : Int} : a - a / p * p = a % p := by rw [Int.emod_def, Int.mul_comm p]
theorem c_draw {p d : Int} {L n : Nat} {W : KM} {g : Int → Int → Int → Int} (hl : 23 ≤ L) (h : W.1 12 1 = zI d) (d1 : 0 ≤ d) (d2 : d < 65536) (p1 : 1 ≤ p) (p2 : p ≤ 8) : f_X4_drawBy n 12 (zI p) (ps W L g) = some (zI (nd d / 8 % p), ps (uI W 12 1 (zI (nd d))) L g) := by
  have r := nd_r (d := d)
  have p0 : ¬ zI p = zI 0 := of_eq_false (zeqF (by omega) (by omega) (by omega) (by decide) (by decide))
  unfold f_X4_drawBy
  simp (disch := first | omega | assumption) only [↓lt, ↓reduceIte, Option.bind_some, zl, zneg, zadd, zsub, zmul, Int.reduceNeg, Int.reduceMul, ixT, zidx, if_true, if_false, zeqT, zeqF, zltT, zltF, zleT, zleF, ps_2, pu_o, uI_o, uI_s, uI_j, uI_j2, ps_o, Nat.reduceAdd, h, zdiv, p0, not_false_eq_true, md_e]
  rfl
theorem m_draw {b : Int → Int} {p d : Int} {n : Nat} {X : KM} (h : X.1 227 40 = zI d) (d1 : 0 ≤ d) (d2 : d < 65536) (p1 : 1 ≤ p) (p2 : p ≤ 8) : f_X12_draw n 227 (zI p) (cs X b) = some (zI (nd d / 8 % p), cs (uI X 227 40 (zI (nd d))) b) := by
  have r := nd_r (d := d)
  have p0 : ¬ zI p = zI 0 := of_eq_false (zeqF (by omega) (by omega) (by omega) (by decide) (by decide))
  unfold f_X12_draw
  simp (disch := first | omega | assumption) only [↓lt, ↓reduceIte, Option.bind_some, zl, zneg, zadd, zsub, zmul, Int.reduceNeg, Int.reduceMul, ixT, zidx, if_true, if_false, zeqT, zeqF, zltT, zltF, zleT, zleF, ps_2, pu_o, uI_o, uI_s, uI_j, uI_j2, ps_o, Nat.reduceAdd, cs_o, cu_o, h, zdiv, p0, not_false_eq_true, md_e]
  rfl
theorem stp_any {W0 X0 : KM} {L P : Nat} {b0 b : Int → Int} {g : Int → Int → Int → Int} {W X : KM} {dr dn ms ar lf : Int} {n n2 : Nat} {i w : Int} (hl : 23 ≤ L) (hPL : P = L + 8 ∨ (31 ≤ P ∧ P + 6 ≤ L) ∨ L + 38 ≤ P) (hP : W.2.2 L 7 = P) (hR : RC W0 L b0 b g W dr dn ms ar lf) (hX : RX X0 b0 b X dr dn ms ar lf 0) (hi : 0 ≤ i ∧ i < 60) (hw : 292 ≤ w ∧ w ≤ 553) (k1 : b w = 3) (r1 : W.1 (P + 1) i.toNat = zI 3) (hn : 800 < n) (hn2 : 800 < n2) : OneS W0 X0 L b0 b g W X dn ms lf n n2 i w := by
  have hRR := hR
  obtain ⟨⟨hL, hg, hb, h5⟩, a2, a3, a4, a5, a6, a7, a8, a9, a10, a11, a12⟩ := hR
  have hXX := hX
  have x40 := hX.2.2.1
  have hh := hb.1
  unfold WH at hh
  have i8 : b 2 ≤ 8 ∧ 0 ≤ b 2 ∧ b 0 ≤ 8 ∧ 0 ≤ b 0 := by omega
  clear hh
  have q0 : W.1 L 8 = zI (b 0) := hL.1
  have q2 : W.1 L 10 = zI (b 2) := hL.2.2.1
  have cw : ∀ X : KM, (cs X b).1 232 w.toNat = zI 3 := fun X => by rw [cs_c (by omega), k1]
  have c0 : ∀ X : KM, (cs X b).1 232 (0 : Int).toNat = zI (b 0) := fun X => cs_c (by omega)
  have c2 : ∀ X : KM, (cs X b).1 232 (2 : Int).toNat = zI (b 2) := fun X => cs_c (by omega)
  by_cases h2 : 1 ≤ b 2
  · have z := WPb hb (show (0 : Int) ≤ 0 by omega) (show 0 < b 2 by omega)
    have h0 : 1 ≤ b 0 := by omega
    clear z
    have nr1 := nd_r (d := dr)
    have nr2 := nd_r (d := nd dr)
    have e1 := c_draw (p := b 2) (n := n) (g := g) hl a6 a11.1 a11.2 h2 i8.1
    have e2 := c_draw (p := b 0) (n := n) (g := g) (W := uI W 12 1 (zI (nd dr))) hl uI_s nr1.1 nr1.2 h0 i8.2.2.1
    rw [uI_tw] at e2
    have m1 := m_draw (b := b) (p := b 2) (n := n2) x40 a11.1 a11.2 h2 i8.1
    have m2 := m_draw (b := b) (p := b 0) (n := n2) (X := uI X 227 40 (zI (nd dr))) uI_s nr1.1 nr1.2 h0 i8.2.2.1
    rw [uI_tw] at m2
    have hp1 : 0 ≤ nd dr / 8 % b 2 := Int.emod_nonneg _ (by omega)
    have hp2 : nd dr / 8 % b 2 < b 2 := Int.emod_lt_of_pos _ (by omega)
    have ht1 : 0 ≤ nd (nd dr) / 8 % b 0 := Int.emod_nonneg _ (by omega)
    have ht2 : nd (nd dr) / 8 % b 0 < b 0 := Int.emod_lt_of_pos _ (by omega)
    generalize nd dr / 8 % b 2 = p at *
    generalize nd (nd dr) / 8 % b 0 = to at *
    generalize nd (nd dr) = d2 at *
    generalize nd dr = d1 at *
    have hL2 : HL (uI W 12 1 (zI d2)) L b := HL_12 hl hL
    have q0' : ∀ v, (uI W 12 1 v).1 L 8 = zI (b 0) := fun v => by rw [uI_o (by omega)]; exact q0
    have xY : RX X0 b0 b (uI X 227 40 (zI d2)) d2 dn ms ar lf 0 := RX_up hXX rfl (fun a k u => uI_o (by omega)) uI_s (by rw [uI_o (by omega)]; exact hXX.2.2.2.2.2.1) (by rw [uI_o (by omega)]; exact hXX.2.2.2.2.2.2.1) (by rw [uI_o (by omega)]; exact hXX.2.2.2.2.2.2.2.1)
    by_cases ok : stOK b p to
    · have e := c_setOut_T (n := n) (s := 0) hL2 hg hb hp1 hp2 (by decide) (by decide) ht1 ht2 (by omega) ok aw_0
      have em := m_goes_T (n := n2) (X := uI X 227 40 (zI d2)) hb hp1 hp2 ht1 ht2 (by omega) ok
      rw [← ou_0] at em
      have hgr := go_r hb ok
      have hne : ¬ zI (b (34 + goR b p to)) = zI (-1) := of_eq_false (zeqF (by omega) (by omega) (by omega) (by decide) (by decide))
      have hs := hs_0 (i := p)
      have hD := ou_T (b := b) (p := p) (s := 0) (to := to) i8.2.1 i8.1 hp1 hp2 hs
      refine ⟨ouB b p 0 to, ouG b g p 0 to, uI (uI (uI W 12 1 (zI d2)) 12 5 (zI (ar + 0))) 12 3 (zI (ms + 0)), uI X 227 40 (zI d2), d2, 1, ar, ?_, ?_, ?_, RX_b xY (hD.1 5 (by omega)) (sL_ou hb hs hp1 hp2), Or.inr rfl, fun k => ?_⟩
      · generalize b (34 + goR b p to) = mm at *
        unfold f_X4_doStep f_X4_sendAny
        simp (disch := first | omega | assumption) only [↓lt, ↓reduceIte, Option.bind_some, zl, zneg, zadd, zsub, zmul, Int.reduceNeg, Int.reduceMul, ixT, zidx, if_true, if_false, zeqT, zeqF, zltT, zltF, zleT, zleF, ps_2, pu_o, uI_o, uI_s, uI_j, uI_j2, ps_o, Nat.reduceAdd, hP, r1, q2, q0, q0', e1, e2, e, hne, bc0, a8, a9]
      · unfold f_X12_does f_X12_isAny
        simp (disch := first | omega | assumption) only [↓lt, ↓reduceIte, Option.bind_some, zl, zneg, zadd, zsub, zmul, Int.reduceNeg, Int.reduceMul, ixT, zidx, if_true, if_false, zeqT, zeqF, zltT, zltF, zleT, zleF, ps_2, pu_o, uI_o, uI_s, uI_j, uI_j2, ps_o, Nat.reduceAdd, cw, c0, c2, m1, m2, em]
      · rw [show ms + (1 - 1) = ms + 0 by omega]
        refine RC_up hRR hl rfl (fun a k u v => ?_) ?_ uI_s ?_ (HL_12 hl (HL_12 hl (HL_b hL2 (fun z u v => hD.1 z (by omega)) ?_))) (out_GR hb hg ok aw_0 hs ht1 hp1 hp2) (WB_ou hb hs ok aw_0 ht1 ht2 hp1 hp2) (by rw [hD.1 5 (by omega)]; exact h5) (fun z u v _ => hD.1 z (by omega)) (fun z u => hD.1 z (by omega)) nr2
        · rw [uI_o (by omega), uI_o (by omega), uI_o (by omega)]
        · rw [uI_o (by omega), uI_o (by omega), uI_s]
        · rw [uI_o (by omega), uI_s, Int.add_zero]
        · have hh := hb.1
          unfold WH at hh
          omega
      · rw [uI_o (by omega), uI_o (by omega), uI_o (by omega)]
    · have e := c_setOut_F (n := n) (s := 0) hL2 hg hb hp1 hp2 (by decide) (by decide) ht1 ht2 (by omega) (fun z => ok z.1)
      have em := m_goes_F (n := n2) (X := uI X 227 40 (zI d2)) hb hp1 hp2 ht1 ht2 (by omega) ok
      refine ⟨b, g, uI (uI (uI W 12 1 (zI d2)) 12 5 (zI (ar + 0))) 12 3 (zI (ms + 1)), uI X 227 40 (zI d2), d2, 0, ar, ?_, ?_, ?_, xY, Or.inl rfl, fun k => ?_⟩
      · unfold f_X4_doStep f_X4_sendAny
        simp (disch := first | omega | assumption) only [↓lt, ↓reduceIte, Option.bind_some, zl, zneg, zadd, zsub, zmul, Int.reduceNeg, Int.reduceMul, ixT, zidx, if_true, if_false, zeqT, zeqF, zltT, zltF, zleT, zleF, ps_2, pu_o, uI_o, uI_s, uI_j, uI_j2, ps_o, Nat.reduceAdd, hP, r1, q2, q0, q0', e1, e2, e, bc0, a8, a9]
      · unfold f_X12_does f_X12_isAny
        simp (disch := first | omega | assumption) only [↓lt, ↓reduceIte, Option.bind_some, zl, zneg, zadd, zsub, zmul, Int.reduceNeg, Int.reduceMul, ixT, zidx, if_true, if_false, zeqT, zeqF, zltT, zltF, zleT, zleF, ps_2, pu_o, uI_o, uI_s, uI_j, uI_j2, ps_o, Nat.reduceAdd, cw, c0, c2, m1, m2, em]
      · rw [show ms + (1 - 0) = ms + 1 by omega]
        refine RC_up hRR hl rfl (fun a k u v => ?_) ?_ uI_s ?_ (HL_12 hl (HL_12 hl hL2)) hg hb h5 (fun _ _ _ _ => rfl) (fun _ _ => rfl) nr2
        · rw [uI_o (by omega), uI_o (by omega), uI_o (by omega)]
        · rw [uI_o (by omega), uI_o (by omega), uI_s]
        · rw [uI_o (by omega), uI_s, Int.add_zero]
      · rw [uI_o (by omega), uI_o (by omega), uI_o (by omega)]
  · have e0 : b 2 = 0 := by omega
    refine ⟨b, g, uI (uI W 12 5 (zI (ar + 0))) 12 3 (zI (ms + 1)), X, dr, 0, ar, ?_, ?_, ?_, hXX, Or.inl rfl, fun k => ?_⟩
    · unfold f_X4_doStep f_X4_sendAny
      simp (disch := first | omega | assumption) only [↓lt, ↓reduceIte, Option.bind_some, zl, zneg, zadd, zsub, zmul, Int.reduceNeg, Int.reduceMul, ixT, zidx, if_true, if_false, zeqT, zeqF, zltT, zltF, zleT, zleF, ps_2, pu_o, uI_o, uI_s, uI_j, uI_j2, ps_o, Nat.reduceAdd, hP, r1, q2, bc0, a8, a9]
    · unfold f_X12_does f_X12_isAny
      simp (disch := first | omega | assumption) only [↓lt, ↓reduceIte, Option.bind_some, zl, zneg, zadd, zsub, zmul, Int.reduceNeg, Int.reduceMul, ixT, zidx, if_true, if_false, zeqT, zeqF, zltT, zltF, zleT, zleF, ps_2, pu_o, uI_o, uI_s, uI_j, uI_j2, ps_o, Nat.reduceAdd, cw, c2]
    · rw [show ms + (1 - 0) = ms + 1 by omega]
      refine RC_up hRR hl rfl (fun a k u v => ?_) ?_ uI_s ?_ (HL_12 hl (HL_12 hl hL)) hg hb h5 (fun _ _ _ _ => rfl) (fun _ _ => rfl) a11
      · rw [uI_o (by omega), uI_o (by omega)]
      · rw [uI_o (by omega), uI_o (by omega)]; exact a6
      · rw [uI_o (by omega), uI_s, Int.add_zero]
    · rw [uI_o (by omega), uI_o (by omega)]
theorem stp_cloud {W0 X0 : KM} {L P : Nat} {b0 b : Int → Int} {g : Int → Int → Int → Int} {W X : KM} {dr dn ms ar lf : Int} {n n2 : Nat} {i w kd v : Int} (hl : 23 ≤ L) (hPL : P = L + 8 ∨ (31 ≤ P ∧ P + 6 ≤ L) ∨ L + 38 ≤ P) (hP : W.2.2 L 7 = P) (hR : RC W0 L b0 b g W dr dn ms ar lf) (hX : RX X0 b0 b X dr dn ms ar lf 0) (hi : 0 ≤ i ∧ i < 60) (hw : 292 ≤ w ∧ w ≤ 553) (k1 : b w = kd) (r1 : W.1 (P + 1) i.toNat = zI kd) (hk : (kd = 4 ∧ v = 1) ∨ (kd = 5 ∧ v = 0)) (hn : 800 < n) (hn2 : 800 < n2) : OneS W0 X0 L b0 b g W X dn ms lf n n2 i w := by
  have hRR := hR
  obtain ⟨⟨hL, hg, hb, h5⟩, a2, a3, a4, a5, a6, a7, a8, a9, a10, a11, a12⟩ := hR
  have hXX := hX
  have hh := hb.1
  unfold WH at hh
  have i9 : 0 ≤ b 9 ∧ b 9 ≤ 1 := by omega
  have q9 : W.1 L 15 = zI (b 9) := hL.2.2.2.2.2.2.2.1
  have cw : ∀ X : KM, (cs X b).1 232 w.toNat = zI kd := fun X => by rw [cs_c (by omega), k1]
  have c9 : ∀ X : KM, (cs X b).1 232 (9 : Int).toNat = zI (b 9) := fun X => cs_c (by omega)
  have v01 : zI v = zI 0 ∨ zI v = zI 1 := by
    rcases hk with ⟨-, rfl⟩ | ⟨-, rfl⟩
    · exact Or.inr rfl
    · exact Or.inl rfl
  by_cases e : b 9 = v
  · have q9' : W.1 L 15 = zI v := by rw [q9, e]
    have c9' : ∀ X : KM, (cs X b).1 232 (9 : Int).toNat = zI v := fun X => by rw [c9, e]
    refine ⟨b, g, uI (uI W 12 5 (zI (ar + 0))) 12 3 (zI (ms + 1)), X, dr, 0, ar, ?_, ?_, ?_, hXX, Or.inl rfl, fun k => ?_⟩
    · unfold f_X4_doStep f_X4_makeCloudy
      rcases hk with ⟨rfl, rfl⟩ | ⟨rfl, rfl⟩
      · simp (disch := first | omega | assumption) only [↓lt, ↓reduceIte, Option.bind_some, zl, zneg, zadd, zsub, zmul, Int.reduceNeg, Int.reduceMul, ixT, zidx, if_true, if_false, zeqT, zeqF, zltT, zltF, zleT, zleF, ps_2, pu_o, uI_o, uI_s, uI_j, uI_j2, ps_o, Nat.reduceAdd, hP, r1, q9', bc0, a8, a9]
      · simp (disch := first | omega | assumption) only [↓lt, ↓reduceIte, Option.bind_some, zl, zneg, zadd, zsub, zmul, Int.reduceNeg, Int.reduceMul, ixT, zidx, if_true, if_false, zeqT, zeqF, zltT, zltF, zleT, zleF, ps_2, pu_o, uI_o, uI_s, uI_j, uI_j2, ps_o, Nat.reduceAdd, hP, r1, q9', bc0, a8, a9]
    · unfold f_X12_does f_X12_becomes
      rcases hk with ⟨rfl, rfl⟩ | ⟨rfl, rfl⟩
      · simp (disch := first | omega | assumption) only [↓lt, ↓reduceIte, Option.bind_some, zl, zneg, zadd, zsub, zmul, Int.reduceNeg, Int.reduceMul, ixT, zidx, if_true, if_false, zeqT, zeqF, zltT, zltF, zleT, zleF, ps_2, pu_o, uI_o, uI_s, uI_j, uI_j2, ps_o, Nat.reduceAdd, cw, c9']
      · simp (disch := first | omega | assumption) only [↓lt, ↓reduceIte, Option.bind_some, zl, zneg, zadd, zsub, zmul, Int.reduceNeg, Int.reduceMul, ixT, zidx, if_true, if_false, zeqT, zeqF, zltT, zltF, zleT, zleF, ps_2, pu_o, uI_o, uI_s, uI_j, uI_j2, ps_o, Nat.reduceAdd, cw, c9']
    · rw [show ms + (1 - 0) = ms + 1 by omega]
      refine RC_up hRR hl rfl (fun a k u v => ?_) ?_ uI_s ?_ (HL_12 hl (HL_12 hl hL)) hg hb h5 (fun _ _ _ _ => rfl) (fun _ _ => rfl) a11
      · rw [uI_o (by omega), uI_o (by omega)]
      · rw [uI_o (by omega), uI_o (by omega)]; exact a6
      · rw [uI_o (by omega), uI_s, Int.add_zero]
    · rw [uI_o (by omega), uI_o (by omega)]
  · have hWB : WB (bu b 9 v) := by
      refine WB_h hb ?_ (bu_o (by omega)) (bu_o (by omega)) (bu_o (by omega)) (fun z u w => bu_o (by omega)) (fun r u w => Or.inr (bu_o (by omega))) (fun z u w => bu_o (by omega)) (by rw [bu_o (by omega)]; omega)
      unfold WH
      rw [bu_o (by omega), bu_o (by omega), bu_o (by omega), bu_o (by omega), bu_o (by omega), bu_o (by omega), bu_o (by omega), bu_o (by omega), bu_o (by omega), bu_s]
      omega
    have hGR : GR g (bu b 9 v) := GR_p hg (bu_o (by omega)) (bu_o (by omega)) (fun z u w => bu_o (by omega)) hb
    refine ⟨bu b 9 v, g, uI (uI (uI W L 15 (zI v)) 12 5 (zI (ar + 0))) 12 3 (zI (ms + 0)), X, dr, 1, ar, ?_, ?_, ?_, RX_b hXX (bu_o (by omega)) (sL_5 (by omega) (by omega)), Or.inr rfl, fun k => ?_⟩
    · unfold f_X4_doStep f_X4_makeCloudy
      have n9 : ¬ zI (b 9) = zI v := of_eq_false (zeqF e (by omega) (by omega) (by omega) (by omega))
      rcases hk with ⟨rfl, rfl⟩ | ⟨rfl, rfl⟩
      · simp (disch := first | omega | assumption) only [↓lt, ↓reduceIte, Option.bind_some, zl, zneg, zadd, zsub, zmul, Int.reduceNeg, Int.reduceMul, ixT, zidx, if_true, if_false, zeqT, zeqF, zltT, zltF, zleT, zleF, ps_2, pu_o, uI_o, uI_s, uI_j, uI_j2, ps_o, Nat.reduceAdd, hP, r1, q9, n9, or_true, true_or, bc0, a8, a9]
      · simp (disch := first | omega | assumption) only [↓lt, ↓reduceIte, Option.bind_some, zl, zneg, zadd, zsub, zmul, Int.reduceNeg, Int.reduceMul, ixT, zidx, if_true, if_false, zeqT, zeqF, zltT, zltF, zleT, zleF, ps_2, pu_o, uI_o, uI_s, uI_j, uI_j2, ps_o, Nat.reduceAdd, hP, r1, q9, n9, or_true, true_or, bc0, a8, a9]
    · unfold f_X12_does f_X12_becomes
      rcases hk with ⟨rfl, rfl⟩ | ⟨rfl, rfl⟩
      · have e0 : b 9 = 0 := by omega
        have c9' : ∀ X : KM, (cs X b).1 232 (9 : Int).toNat = zI 0 := fun X => by rw [c9, e0]
        simp (disch := first | omega | assumption) only [↓lt, ↓reduceIte, Option.bind_some, zl, zneg, zadd, zsub, zmul, Int.reduceNeg, Int.reduceMul, ixT, zidx, if_true, if_false, zeqT, zeqF, zltT, zltF, zleT, zleF, ps_2, pu_o, uI_o, uI_s, uI_j, uI_j2, ps_o, Nat.reduceAdd, cw, c9', cu_c]
      · have e0 : b 9 = 1 := by omega
        have c9' : ∀ X : KM, (cs X b).1 232 (9 : Int).toNat = zI 1 := fun X => by rw [c9, e0]
        simp (disch := first | omega | assumption) only [↓lt, ↓reduceIte, Option.bind_some, zl, zneg, zadd, zsub, zmul, Int.reduceNeg, Int.reduceMul, ixT, zidx, if_true, if_false, zeqT, zeqF, zltT, zltF, zleT, zleF, ps_2, pu_o, uI_o, uI_s, uI_j, uI_j2, ps_o, Nat.reduceAdd, cw, c9', cu_c]
    · rw [show ms + (1 - 1) = ms + 0 by omega]
      refine RC_up hRR hl rfl (fun a k u v => ?_) ?_ uI_s ?_ (HL_12 hl (HL_12 hl ?_)) hGR hWB (by rw [bu_o (by omega)]; exact h5) (fun z u x y => bu_o y) (fun z u => bu_o (by omega)) a11
      · rw [uI_o (by omega), uI_o (by omega), uI_o (by omega)]
      · rw [uI_o (by omega), uI_o (by omega), uI_o (by omega)]; exact a6
      · rw [uI_o (by omega), uI_s, Int.add_zero]
      · exact HL_c hL (fun a k u x y => uI_o (by omega)) uI_s
    · rw [uI_o (by omega), uI_o (by omega), uI_o (by omega)]
