/-! ===== days: one step, in both ===== -/
def RC (W0 : KM) (L : Nat) (b0 b : Int → Int) (g : Int → Int → Int → Int) (W : KM) (dr dn ms ar lf : Int) : Prop := (HL W L b ∧ GR g b ∧ WB b ∧ b 5 ≤ 99999) ∧ (∀ z, z < 58 → ¬ z = 5 → ¬ z = 9 → b z = b0 z) ∧ (∀ z, 290 ≤ z → b z = b0 z) ∧ W.2 = W0.2 ∧ (∀ a k, ¬ (a = 12 ∨ a = 13) → ¬ (a = L ∧ (k = 11 ∨ k = 15)) → W.1 a k = W0.1 a k) ∧ W.1 12 1 = zI dr ∧ W.1 12 2 = zI dn ∧ W.1 12 3 = zI ms ∧ W.1 12 5 = zI ar ∧ W.1 12 7 = zI lf ∧ (0 ≤ dr ∧ dr < 65536) ∧ (0 ≤ dn ∧ dn ≤ 300)
def RX (X0 : KM) (b0 b : Int → Int) (X : KM) (dr dn ms ar lf ov : Int) : Prop := X.2 = X0.2 ∧ (∀ a k, ¬ (a = 227 ∧ (k = 28 ∨ k = 29 ∨ (39 ≤ k ∧ k ≤ 46))) → X.1 a k = X0.1 a k) ∧ X.1 227 40 = zI dr ∧ X.1 227 41 = zI dn ∧ X.1 227 42 = zI ms ∧ X.1 227 43 = zI (b 5 - b0 5) ∧ X.1 227 44 = zI ar ∧ X.1 227 45 = zI (sL b - sL b0) ∧ X.1 227 46 = zI lf ∧ X.1 227 39 = zI ov
/-- the class's cells, one step on -/
theorem RC_up {W0 : KM} {L : Nat} {b0 b b' : Int → Int} {g g' : Int → Int → Int → Int} {W V : KM} {dr dn ms ar lf dr' ms' ar' : Int} (h : RC W0 L b0 b g W dr dn ms ar lf) (hl : 23 ≤ L) (hV2 : V.2 = W.2) (hV : ∀ a k, ¬ (a = 12 ∧ (k = 1 ∨ k = 3 ∨ k = 5)) → ¬ (a = L ∧ (k = 11 ∨ k = 15)) → V.1 a k = W.1 a k) (h1 : V.1 12 1 = zI dr') (h3 : V.1 12 3 = zI ms') (h5 : V.1 12 5 = zI ar') (hHL : HL V L b') (hGR : GR g' b') (hWB : WB b') (hb5 : b' 5 ≤ 99999) (hz : ∀ z, z < 58 → ¬ z = 5 → ¬ z = 9 → b' z = b z) (hz2 : ∀ z, 290 ≤ z → b' z = b z) (hdr : 0 ≤ dr' ∧ dr' < 65536) : RC W0 L b0 b' g' V dr' dn ms' ar' lf := by
  obtain ⟨-, a2, a3, a4, a5, a6, a7, a8, a9, a10, a11, a12⟩ := h
  refine ⟨⟨hHL, hGR, hWB, hb5⟩, fun z u v w => by rw [hz z u v w, a2 z u v w], fun z u => by rw [hz2 z u, a3 z u], by rw [hV2, a4], fun a k u v => by rw [hV a k (by omega) v, a5 a k u v], h1, by rw [hV 12 2 (by omega) (by omega)]; exact a7, h3, h5, by rw [hV 12 7 (by omega) (by omega)]; exact a10, hdr, a12⟩
theorem RX_up {X0 : KM} {b0 b b' : Int → Int} {X Y : KM} {dr dn ms ar lf ov dr' ar' : Int} (h : RX X0 b0 b X dr dn ms ar lf ov) (h2 : Y.2 = X.2) (hY : ∀ a k, ¬ (a = 227 ∧ (k = 28 ∨ k = 29 ∨ k = 40 ∨ k = 43 ∨ k = 44 ∨ k = 45)) → Y.1 a k = X.1 a k) (h40 : Y.1 227 40 = zI dr') (h43 : Y.1 227 43 = zI (b' 5 - b0 5)) (h44 : Y.1 227 44 = zI ar') (h45 : Y.1 227 45 = zI (sL b' - sL b0)) : RX X0 b0 b' Y dr' dn ms ar' lf ov := by
  obtain ⟨a1, a2, a3, a4, a5, a6, a7, a8, a9, a10⟩ := h
  exact ⟨by rw [h2, a1], fun a k u => by rw [hY a k (by omega), a2 a k u], h40, by rw [hY 227 41 (by omega)]; exact a4, by rw [hY 227 42 (by omega)]; exact a5, h43, h44, h45, by rw [hY 227 46 (by omega)]; exact a9, by rw [hY 227 39 (by omega)]; exact a10⟩
theorem RX_b {X0 : KM} {b0 b b' : Int → Int} {X : KM} {dr dn ms ar lf ov : Int} (h : RX X0 b0 b X dr dn ms ar lf ov) (h5 : b' 5 = b 5) (hs : sL b' = sL b) : RX X0 b0 b' X dr dn ms ar lf ov := by
  obtain ⟨a1, a2, a3, a4, a5, a6, a7, a8, a9, a10⟩ := h
  exact ⟨a1, a2, a3, a4, a5, by rw [h5]; exact a6, a7, by rw [hs]; exact a8, a9, a10⟩
/-- what a step comes to -/
def OneS (W0 X0 : KM) (L : Nat) (b0 b : Int → Int) (g : Int → Int → Int → Int) (W X : KM) (dn ms lf : Int) (n n2 : Nat) (i w : Int) : Prop := ∃ b' g' W' X' dr' v ar', f_X4_doStep n 12 L (zI i) (ps W L g) = some (zI (i + 1), ps W' L g') ∧ f_X12_does n2 227 (zI w) (cs X b) = some (zI v, cs X' b') ∧ RC W0 L b0 b' g' W' dr' dn (ms + (1 - v)) ar' lf ∧ RX X0 b0 b' X' dr' dn ms ar' lf 0 ∧ (v = 0 ∨ v = 1) ∧ (∀ k, W'.1 13 k = W.1 13 k)
/-- a land goes on as it is, missed or not -/
theorem HL_12 {W : KM} {L k : Nat} {b : Int → Int} {v : Int32} (hl : 23 ≤ L) (h : HL W L b) : HL (uI W 12 k v) L b := HL_of (fun a j x y => uI_o (by omega)) h
theorem WB_ou {b : Int → Int} {p s to : Int} (hb : WB b) (hs : hasS s p = false) (hst : stOK b p to) (ha : awB b p s = -1) (h0 : 0 ≤ to) (h3 : to < b 0) (hp1 : 0 ≤ p) (hp2 : p < b 2) : WB (ouB b p s to) := by
  have hh := hb.1
  unfold WH at hh
  have hT := ou_T (b := b) (p := p) (s := s) (to := to) (by omega) (by omega) hp1 hp2 hs
  have e := hT.1
  refine ⟨?_, fun r u v => ?_, fun q u v => ?_, fun q r a c d f => ?_, fun q r a c d f => ?_, fun q u v => ?_⟩
  · unfold WH
    rw [e 0 (by omega), e 1 (by omega), e 2 (by omega), e 3 (by omega), e 4 (by omega), e 5 (by omega), e 6 (by omega), e 7 (by omega), e 8 (by omega), e 9 (by omega)]
    exact hb.1
  · rw [e 1 (by omega)] at v
    have := hb.2.1 r u v
    unfold WR at this ⊢
    rw [e 0 (by omega), e (10 + r) (by omega), e (22 + r) (by omega), e (34 + r) (by omega), e (46 + r) (by omega)]
    exact this
  · rw [e 2 (by omega)] at v
    exact out_WP hb hT hst h0 h3 hp1 hp2 u v
  · rw [e _ (by omega)]; exact hb.2.2.2.1 q r a c d f
  · rw [e _ (by omega), e _ (by omega)]; exact hb.2.2.2.2.1 q r a c d f
  · rw [e 2 (by omega)] at v
    exact out_WL hb hT hst ha h0 hp1 hp2 u v
theorem sL_ou {b : Int → Int} {p s to : Int} (hb : WB b) (hs : hasS s p = false) (hp1 : 0 ≤ p) (hp2 : p < b 2) : sL (ouB b p s to) = sL b := by
  have hh := hb.1
  unfold WH at hh
  have hT := ou_T (b := b) (p := p) (s := s) (to := to) (by omega) (by omega) hp1 hp2 hs
  unfold sL
  rw [hT.1 2 (by omega)]
  exact sumB_c (fun q h1 h2 => (hT.2.1 q h1 h2).2.1)
theorem bc0 {M : KM} : f_J6_bitCount_0f7a4 (zI 0) M = zI 0 := by
  rw [c_bitCount (by decide) (by decide)]; decide
theorem sL_5 {b : Int → Int} {e v : Int} (h : e < 58) (h2 : ¬ e = 2) : sL (bu b e v) = sL b := by
  unfold sL
  rw [bu_o (by omega)]
  exact sumB_c (fun q h1 h2 => bu_o (by omega))
theorem stp_wait {W0 X0 : KM} {L P : Nat} {b0 b : Int → Int} {g : Int → Int → Int → Int} {W X : KM} {dr dn ms ar lf : Int} {n n2 : Nat} {i w N : Int} (hl : 23 ≤ L) (hPL : P = L + 8 ∨ (31 ≤ P ∧ P + 6 ≤ L) ∨ L + 38 ≤ P) (hP : W.2.2 L 7 = P) (hR : RC W0 L b0 b g W dr dn ms ar lf) (hX : RX X0 b0 b X dr dn ms ar lf 0) (hi : 0 ≤ i ∧ i < 60) (hw : 292 ≤ w ∧ w ≤ 553) (k1 : b w = 0) (r1 : W.1 (P + 1) i.toNat = zI 0) (r2 : W.1 (P + 2) i.toNat = zI (b (w + 1))) (hN : N = b (w + 1)) (hN1 : 1 ≤ N) (hN2 : N ≤ 600) (hn : 800 < n) (hn2 : 800 < n2) : OneS W0 X0 L b0 b g W X dn ms lf n n2 i w := by
  have hRR := hR
  obtain ⟨⟨hL, hg, hb, h5⟩, a2, a3, a4, a5, a6, a7, a8, a9, a10, a11, a12⟩ := hR
  have hXX := hX
  obtain ⟨x1, x2, x3, x4, x5, x6, x7, x8, x9, x10⟩ := hX
  have hh := hb.1
  unfold WH at hh
  have i5 : 0 ≤ b 5 := by omega
  clear hh
  rw [← hN] at r2
  have cw : ∀ X : KM, (cs X b).1 232 w.toNat = zI 0 := fun X => by rw [cs_c (by omega), k1]
  have cw1 : ∀ X : KM, (cs X b).1 232 (w + 1).toNat = zI N := fun X => by rw [cs_c (by omega), hN]
  by_cases hm : b 5 + N ≤ 99999
  · have e := c_passMinutes (n := n) hL hg hb hm hN1 (by omega) (by omega)
    have en := aS_ne (b := b) (N := N)
    have eb : ∀ M : KM, f_J6_bitCount_0f7a4 (aS b N) M = zI (cA9 b N) := fun M => c_bitB
    obtain ⟨Y, y1, y2, y3, y4, y5, y6⟩ := m_waits (n := n2) hb hm hN1 hN2 x6 x7 x8 (by omega)
    refine ⟨cI b N, gC g b N (AG b) (AG b), uI (uI (uI W L 11 (zI (b 5 + N))) 12 5 (zI (ar + cA9 b N))) 12 3 (zI (ms + 0)), Y, dr, 1, ar + cA9 b N, ?_, ?_, ?_, ?_, Or.inr rfl, fun k => ?_⟩
    · generalize aS b N = S at *
      generalize cA9 b N = C at *
      unfold f_X4_doStep
      have en2 : ¬ S = zI (-1) := en
      simp (disch := first | omega | assumption) only [↓lt, ↓reduceIte, Option.bind_some, zl, zneg, zadd, zsub, zmul, Int.reduceNeg, Int.reduceMul, ixT, zidx, if_true, if_false, zeqT, zeqF, zltT, zltF, zleT, zleF, ps_2, pu_o, uI_o, uI_s, uI_j, uI_j2, ps_o, Nat.reduceAdd, hP, r1, r2, e, en2, eb, a8, a9]
    · unfold f_X12_does
      simp (disch := first | omega | assumption) only [↓lt, ↓reduceIte, Option.bind_some, zl, zneg, zadd, zsub, zmul, Int.reduceNeg, Int.reduceMul, ixT, zidx, if_true, if_false, zeqT, zeqF, zltT, zltF, zleT, zleF, ps_2, pu_o, uI_o, uI_s, uI_j, uI_j2, ps_o, Nat.reduceAdd, cw, cw1, y1]
    · rw [show ms + (1 - 1) = ms + 0 by omega]
      refine RC_up hRR hl rfl (fun a k u v => ?_) ?_ uI_s ?_ ?_ (GR_c hg hb) (WB_cI' hb (by omega) (by omega)) (by rw [cI_5]; exact hm) (fun z u v _ => cI_o (by omega) v) (fun z u => cI_o (by omega) (by omega)) a11
      · rw [uI_o (by omega), uI_o (by omega), uI_o (by omega)]
      · rw [uI_o (by omega), uI_o (by omega), uI_o (by omega)]; exact a6
      · rw [uI_o (by omega), uI_s]
      · refine HL_12 hl (HL_12 hl ?_)
        exact HL_of (fun a k u v => by rw [uI_o (show ¬ (a = 0 ∧ k = 15) by omega)]) (HL_cI (v := zI 0) hb hL hl)
    · exact RX_up hXX y2 (fun a k u => y3 a k (by omega)) (by rw [y3 227 40 (by omega)]; exact x3) (by rw [y4, cI_5]; congr 1; omega) y5 (by rw [y6, sL_cI hb]; congr 1; omega)
    · rw [uI_o (by omega), uI_o (by omega), uI_o (by omega)]
  · have e := c_pass_F (n := n) (g := g) hL hb hm hN1 hN2 h5
    have y1 := m_waits_F (n := n2) (X := X) hb hm hN1 hN2 h5
    refine ⟨b, g, uI (uI W 12 5 (zI (ar + 0))) 12 3 (zI (ms + 1)), X, dr, 0, ar, ?_, ?_, ?_, hXX, Or.inl rfl, fun k => ?_⟩
    · unfold f_X4_doStep
      simp (disch := first | omega | assumption) only [↓lt, ↓reduceIte, Option.bind_some, zl, zneg, zadd, zsub, zmul, Int.reduceNeg, Int.reduceMul, ixT, zidx, if_true, if_false, zeqT, zeqF, zltT, zltF, zleT, zleF, ps_2, pu_o, uI_o, uI_s, uI_j, uI_j2, ps_o, Nat.reduceAdd, hP, r1, r2, e, a8, a9]
    · unfold f_X12_does
      simp (disch := first | omega | assumption) only [↓lt, ↓reduceIte, Option.bind_some, zl, zneg, zadd, zsub, zmul, Int.reduceNeg, Int.reduceMul, ixT, zidx, if_true, if_false, zeqT, zeqF, zltT, zltF, zleT, zleF, ps_2, pu_o, uI_o, uI_s, uI_j, uI_j2, ps_o, Nat.reduceAdd, cw, cw1, y1]
    · rw [show ms + (1 - 0) = ms + 1 by omega]
      refine RC_up hRR hl rfl (fun a k u v => ?_) ?_ uI_s ?_ (HL_12 hl (HL_12 hl hL)) hg hb h5 (fun _ _ _ _ => rfl) (fun _ _ => rfl) a11
      · rw [uI_o (by omega), uI_o (by omega)]
      · rw [uI_o (by omega), uI_o (by omega)]; exact a6
      · rw [uI_o (by omega), uI_s, Int.add_zero]
    · rw [uI_o (by omega), uI_o (by omega)]
theorem stp_out {W0 X0 : KM} {L P : Nat} {b0 b : Int → Int} {g : Int → Int → Int → Int} {W X : KM} {dr dn ms ar lf : Int} {n n2 : Nat} {i w p q to kd : Int} (hl : 23 ≤ L) (hPL : P = L + 8 ∨ (31 ≤ P ∧ P + 6 ≤ L) ∨ L + 38 ≤ P) (hP : W.2.2 L 7 = P) (hR : RC W0 L b0 b g W dr dn ms ar lf) (hX : RX X0 b0 b X dr dn ms ar lf 0) (hi : 0 ≤ i ∧ i < 60) (hw : 292 ≤ w ∧ w ≤ 553) (k1 : b w = kd) (r1 : W.1 (P + 1) i.toNat = zI kd) (r2 : W.1 (P + 2) i.toNat = zI p) (h1 : 0 ≤ p) (h2 : p < b 2) (t1 : 0 ≤ to) (t2 : to < b 0) (b1 : b (w + 1) = p) (b2 : b (w + 2) = to) (hk : (kd = 1 ∧ W.1 (P + 3) i.toNat = zI to) ∨ (kd = 2 ∧ W.1 (P + 3) i.toNat = zI q ∧ W.1 (P + 4) i.toNat = zI to ∧ b (w + 3) = q ∧ 0 ≤ q ∧ q < b 2 ∧ ¬ p = q)) (hn : 800 < n) (hn2 : 800 < n2) : OneS W0 X0 L b0 b g W X dn ms lf n n2 i w := by
  have hRR := hR
  obtain ⟨⟨hL, hg, hb, h5⟩, a2, a3, a4, a5, a6, a7, a8, a9, a10, a11, a12⟩ := hR
  have hXX := hX
  have hh := hb.1
  unfold WH at hh
  have i8 : b 2 ≤ 8 ∧ 0 ≤ b 2 ∧ b 0 ≤ 8 := by omega
  clear hh
  have cw : ∀ X : KM, (cs X b).1 232 w.toNat = zI kd := fun X => by rw [cs_c (by omega), k1]
  have cw1 : ∀ X : KM, (cs X b).1 232 (w + 1).toNat = zI p := fun X => by rw [cs_c (by omega), b1]
  have cw2 : ∀ X : KM, (cs X b).1 232 (w + 2).toNat = zI to := fun X => by rw [cs_c (by omega), b2]
  -- the set that is led
  have key : ∀ s : Int, 0 ≤ s → s < 256 → hasS s p = false → (∀ (r : Int32) (K : KM), f_X2_setOut n L (zI p) (zI s) (zI to) (ps W L g) = some (r, K) → f_X4_doStep n 12 L (zI i) (ps W L g) = some (zI (i + 1), uI (uI K 12 5 (K.1 12 5 + zI 0)) 12 3 ((uI K 12 5 (K.1 12 5 + zI 0)).1 12 3 + (if r = zI (-1) then zI 1 else zI 0)))) → (stOK b p to ∧ awB b p s = -1 → f_X12_does n2 227 (zI w) (cs X b) = some (zI 1, cs X (ouB b p s to))) → (¬ (stOK b p to ∧ awB b p s = -1) → f_X12_does n2 227 (zI w) (cs X b) = some (zI 0, cs X b)) → OneS W0 X0 L b0 b g W X dn ms lf n n2 i w := fun s s1 s2 hs hc hT hF => by
    by_cases ok : stOK b p to ∧ awB b p s = -1
    · have e := hc _ _ (c_setOut_T (n := n) hL hg hb h1 h2 s1 s2 t1 t2 (by omega) ok.1 ok.2)
      have hgr := go_r hb ok.1
      have hne : ¬ zI (b (34 + goR b p to)) = zI (-1) := of_eq_false (zeqF (by omega) (by omega) (by omega) (by decide) (by decide))
      rw [if_neg hne] at e
      have hD := ou_T (b := b) (p := p) (s := s) (to := to) i8.2.1 i8.1 h1 h2 hs
      refine ⟨ouB b p s to, ouG b g p s to, uI (uI W 12 5 (zI (ar + 0))) 12 3 (zI (ms + 0)), X, dr, 1, ar, ?_, hT ok, ?_, RX_b hXX (hD.1 5 (by omega)) (sL_ou hb hs h1 h2), Or.inr rfl, fun k => ?_⟩
      · rw [e]
        simp (disch := first | omega | assumption) only [↓lt, ↓reduceIte, Option.bind_some, zl, zneg, zadd, zsub, zmul, Int.reduceNeg, Int.reduceMul, ixT, zidx, if_true, if_false, zeqT, zeqF, zltT, zltF, zleT, zleF, ps_2, pu_o, uI_o, uI_s, uI_j, uI_j2, ps_o, Nat.reduceAdd, a8, a9]
      · rw [show ms + (1 - 1) = ms + 0 by omega]
        refine RC_up hRR hl rfl (fun a k u v => ?_) ?_ uI_s ?_ (HL_12 hl (HL_12 hl (HL_b hL (fun z u v => hD.1 z (by omega)) ?_))) (out_GR hb hg ok.1 ok.2 hs t1 h1 h2) (WB_ou hb hs ok.1 ok.2 t1 t2 h1 h2) (by rw [hD.1 5 (by omega)]; exact h5) (fun z u v _ => hD.1 z (by omega)) (fun z u => hD.1 z (by omega)) a11
        · rw [uI_o (by omega), uI_o (by omega)]
        · rw [uI_o (by omega), uI_o (by omega)]; exact a6
        · rw [uI_o (by omega), uI_s, Int.add_zero]
        · have hh := hb.1
          unfold WH at hh
          omega
      · rw [uI_o (by omega), uI_o (by omega)]
    · have e := hc _ _ (c_setOut_F (n := n) hL hg hb h1 h2 s1 s2 t1 t2 (by omega) ok)
      rw [if_pos rfl] at e
      refine ⟨b, g, uI (uI W 12 5 (zI (ar + 0))) 12 3 (zI (ms + 1)), X, dr, 0, ar, ?_, hF ok, ?_, hXX, Or.inl rfl, fun k => ?_⟩
      · rw [e]
        simp (disch := first | omega | assumption) only [↓lt, ↓reduceIte, Option.bind_some, zl, zneg, zadd, zsub, zmul, Int.reduceNeg, Int.reduceMul, ixT, zidx, if_true, if_false, zeqT, zeqF, zltT, zltF, zleT, zleF, ps_2, pu_o, uI_o, uI_s, uI_j, uI_j2, ps_o, Nat.reduceAdd, a8, a9]
      · rw [show ms + (1 - 0) = ms + 1 by omega]
        refine RC_up hRR hl rfl (fun a k u v => ?_) ?_ uI_s ?_ (HL_12 hl (HL_12 hl hL)) hg hb h5 (fun _ _ _ _ => rfl) (fun _ _ => rfl) a11
        · rw [uI_o (by omega), uI_o (by omega)]
        · rw [uI_o (by omega), uI_o (by omega)]; exact a6
        · rw [uI_o (by omega), uI_s, Int.add_zero]
      · rw [uI_o (by omega), uI_o (by omega)]
  rcases hk with ⟨rfl, r3⟩ | ⟨rfl, r3, r4, b3, q1, q2, pq⟩
  · refine key 0 (by decide) (by decide) hs_0 (fun r K e => ?_) (fun ok => ?_) (fun ok => ?_)
    · unfold f_X4_doStep
      by_cases hr : r = zI (-1)
      · subst hr
        simp (disch := first | omega | assumption) only [↓lt, ↓reduceIte, Option.bind_some, zl, zneg, zadd, zsub, zmul, Int.reduceNeg, Int.reduceMul, ixT, zidx, if_true, if_false, zeqT, zeqF, zltT, zltF, zleT, zleF, ps_2, pu_o, uI_o, uI_s, uI_j, uI_j2, ps_o, Nat.reduceAdd, hP, r1, r2, r3, e, bc0]
      · rw [if_neg hr]
        simp (disch := first | omega | assumption) only [↓lt, ↓reduceIte, Option.bind_some, zl, zneg, zadd, zsub, zmul, Int.reduceNeg, Int.reduceMul, ixT, zidx, if_true, if_false, zeqT, zeqF, zltT, zltF, zleT, zleF, ps_2, pu_o, uI_o, uI_s, uI_j, uI_j2, ps_o, Nat.reduceAdd, hP, r1, r2, r3, e, hr, bc0]
    · rw [ou_0]
      have e := m_goes_T (n := n2) (X := X) hb h1 h2 t1 t2 (by omega) ok.1
      unfold f_X12_does
      simp (disch := first | omega | assumption) only [↓lt, ↓reduceIte, Option.bind_some, zl, zneg, zadd, zsub, zmul, Int.reduceNeg, Int.reduceMul, ixT, zidx, if_true, if_false, zeqT, zeqF, zltT, zltF, zleT, zleF, ps_2, pu_o, uI_o, uI_s, uI_j, uI_j2, ps_o, Nat.reduceAdd, cw, cw1, cw2, e]
    · have e := m_goes_F (n := n2) (X := X) hb h1 h2 t1 t2 (by omega) (fun z => ok ⟨z, aw_0⟩)
      unfold f_X12_does
      simp (disch := first | omega | assumption) only [↓lt, ↓reduceIte, Option.bind_some, zl, zneg, zadd, zsub, zmul, Int.reduceNeg, Int.reduceMul, ixT, zidx, if_true, if_false, zeqT, zeqF, zltT, zltF, zleT, zleF, ps_2, pu_o, uI_o, uI_s, uI_j, uI_j2, ps_o, Nat.reduceAdd, cw, cw1, cw2, e]
  · have p2 := p2_r (i := q) q1 (by omega)
    have lt2 : (2 : Int) ^ q.toNat < 256 := by
      have := p2_all ⟨q.toNat + 1, by omega⟩
      have h3 : (2 : Int) ^ (q.toNat + 1) ≤ 256 := this.2
      rw [Int.pow_succ] at h3
      omega
    have sl := sl_1 (i := q) q1 (by omega)
    have cw3 : ∀ X : KM, (cs X b).1 232 (w + 3).toNat = zI q := fun X => by rw [cs_c (by omega), b3]
    have hs : hasS (2 ^ q.toNat) p = false := by rw [has2 q1 h1]; exact decide_eq_false pq
    have p0 : 0 ≤ (2 : Int) ^ q.toNat := by omega
    refine key (2 ^ q.toNat) p0 lt2 hs (fun r K e => ?_) (fun ok => ?_) (fun ok => ?_)
    · unfold f_X4_doStep
      by_cases hr : r = zI (-1)
      · subst hr
        simp (disch := first | omega | assumption) only [↓lt, ↓reduceIte, Option.bind_some, zl, zneg, zadd, zsub, zmul, Int.reduceNeg, Int.reduceMul, ixT, zidx, if_true, if_false, zeqT, zeqF, zltT, zltF, zleT, zleF, ps_2, pu_o, uI_o, uI_s, uI_j, uI_j2, ps_o, Nat.reduceAdd, hP, r1, r2, r3, r4, sl, e, bc0]
      · rw [if_neg hr]
        simp (disch := first | omega | assumption) only [↓lt, ↓reduceIte, Option.bind_some, zl, zneg, zadd, zsub, zmul, Int.reduceNeg, Int.reduceMul, ixT, zidx, if_true, if_false, zeqT, zeqF, zltT, zltF, zleT, zleF, ps_2, pu_o, uI_o, uI_s, uI_j, uI_j2, ps_o, Nat.reduceAdd, hP, r1, r2, r3, r4, sl, e, hr, bc0]
    · have e := m_leads_T (n := n2) (X := X) hb h1 h2 p0 lt2 t1 t2 (by omega) ok.1 ok.2 hs
      unfold f_X12_does
      simp (disch := first | omega | assumption) only [↓lt, ↓reduceIte, Option.bind_some, zl, zneg, zadd, zsub, zmul, Int.reduceNeg, Int.reduceMul, ixT, zidx, if_true, if_false, zeqT, zeqF, zltT, zltF, zleT, zleF, ps_2, pu_o, uI_o, uI_s, uI_j, uI_j2, ps_o, Nat.reduceAdd, cw, cw1, cw2, cw3, sl, e]
    · have e := m_leads_F (n := n2) (X := X) hb h1 h2 p0 lt2 t1 t2 (by omega) ok
      unfold f_X12_does
      simp (disch := first | omega | assumption) only [↓lt, ↓reduceIte, Option.bind_some, zl, zneg, zadd, zsub, zmul, Int.reduceNeg, Int.reduceMul, ixT, zidx, if_true, if_false, zeqT, zeqF, zltT, zltF, zleT, zleF, ps_2, pu_o, uI_o, uI_s, uI_j, uI_j2, ps_o, Nat.reduceAdd, cw, cw1, cw2, cw3, sl, e]
