/-! ===== days: a loop, in both; all steps ===== -/
theorem Gen_z {W0 X0 : KM} {L P : Nat} {b0 : Int → Int} {F : Nat} {c4 c5 : Int32} {κ : KM → Option KM} {i j lo hi c c' : Int} {g : Int → Int → Int → Int} {W : KM} {dn t : Int} {Q Q' : KM → (Int → Int) → Prop} (h : Gen W0 X0 L P b0 F c4 c5 κ i j lo hi c g W dn t Q) (h3 : c ≤ c') (h4 : ∀ X b, Q X b → (∀ z, 290 ≤ z → b z = b0 z) → Q' X b) : Gen W0 X0 L P b0 F c4 c5 κ i j lo hi c' g W dn t Q' := by
  obtain ⟨b', g', W', X', dr', dn', ms', ar', lf', ov', t', hd, hq, hR, hX, hm, hdn, hlf, hfr⟩ := h
  refine ⟨b', g', W', X', dr', dn', ms', ar', lf', ov', t', ?_, h4 _ _ hq hR.2.2.1, hR, hX, hm, hdn, hlf, hfr⟩
  rcases hd with ⟨o1, o2, o3, o4, o5⟩ | o
  · exact Or.inl ⟨o1, o2, o3, by omega, o5⟩
  · exact Or.inr o
theorem it_loop {W0 X0 : KM} {L P : Nat} {b0 b : Int → Int} {F nn E : Nat} {c4 c5 : Int32} {κ : KM → Option KM} {i x s f jt : Int} {g : Int → Int → Int → Int} {W X : KM} {dr dn ms ar t : Int} (hC : Ctx W0 L P jt F nn) (hA : At W0 X0 L b0 b g W X dr dn ms ar t) (hi : 0 ≤ i ∧ i < x ∧ x < jt) (hs : 0 ≤ s ∧ s < f ∧ f ≤ 30) (k7 : b (292 + 9 * s) = 7) (h1 : W.1 (P + 1) i.toNat = zI 9) (h2 : W.1 (P + 2) i.toNat = zI (b (292 + 9 * s + 1))) (ha : 1 ≤ b (292 + 9 * s + 1) ∧ b (292 + 9 * s + 1) ≤ 99) (hx1 : W.1 (P + 1) x.toNat = zI 10) (hx5 : W.1 (P + 5) x.toNat = zI i) (hf : b0 (292 + 9 * s + 8) = f)
    (hB : ∀ b' g' W' X' dr' dn' ms' ar' t', At W0 X0 L b0 b' g' W' X' dr' dn' ms' ar' t' → Gen W0 X0 L P b0 F c4 c5 κ (i + 1) x (i + 1) x 0 g' W' dn' t' (StQ nn E (s + 1) f X' b')) : Gen W0 X0 L P b0 F c4 c5 κ i (x + 1) i (x + 1) 0 g W dn t (fun X' b' => rE nn (E + 1) (zI s) (cs X b) = some (cs X' b') ∧ b' (292 + 9 * s + 8) = f) := by
  have hA' := hA
  obtain ⟨hR, hX, hm, ht⟩ := hA
  have q := RC_P hC hR
  have fb : ∀ b' : Int → Int, (∀ z, 290 ≤ z → b' z = b0 z) → b' (292 + 9 * s + 8) = f := fun b' h => by rw [h _ (by omega)]; exact hf
  have hjt := hC.2.2.2.2.1
  by_cases d3 : dn = 300
  · subst d3
    exact it_cut (x := x + 1) hC hA' ⟨hi.1, by omega⟩ h1 ⟨by decide, by decide, by decide⟩ (fb b q.2.2.2.1)
  · have dd := hR.2.2.2.2.2.2.2.2.2.2.2
    have d9 : dn < 300 := by omega
    have l23 : 23 ≤ L := hC.1
    have p31 : 31 ≤ P := by have := hC.2.1; omega
    have hR1 := RC_inc l23 hR d9
    have hX1 := RX_inc hX
    have hP1 : (uI W 12 2 (zI (dn + 1))).2.2 L 7 = P := q.1
    have fe : F + (40000 - t).toNat = F + (40000 - (t + 1)).toNat + 1 := by omega
    have hR2 := RC_sm l23 (RC_13 (k := i.toNat) (v := zI (b (292 + 9 * s + 1))) l23 hR1)
    have ae : b0 (292 + 9 * s + 1) = b (292 + 9 * s + 1) := (q.2.2.2.1 _ (by omega)).symm
    generalize hav : b (292 + 9 * s + 1) = a at *
    have e1 := stp_loop (n := F + (40000 - (t + 1)).toNat) (g := g) (W := uI W 12 2 (zI (dn + 1))) (ms := ms) (ar := ar) (a := a) l23 hC.2.1 hP1 ⟨hi.1, by omega⟩ (by rw [uI_o (by omega)]; exact h1) (by rw [uI_o (by omega)]; exact h2) hR1.2.2.2.2.2.2.2.1 hR1.2.2.2.2.2.2.2.2.1
    have ts := t_step l23 hC.2.1 (κ := κ) (c4 := c4) (c5 := c5) q.2.1 hjt.2 ⟨hi.1, by omega⟩ ⟨ht.1, by omega⟩ h1 ⟨by decide, by decide, by decide⟩ hR.2.2.2.2.2.2.1 ⟨dd.1, d9⟩ e1
    have fr : ∀ j k, 1 ≤ j → j ≤ 5 → W0.1 (P + j) k = W.1 (P + j) k := fun j k u v => (q.2.2.1 j k u v).symm
    refine Gen_pre (t2 := t + 1) (dn2 := dn + 1) (c2 := a) (i2 := i + 1) (g2 := g) (W2 := uI (uI (uI (uI W 12 2 (zI (dn + 1))) 13 i.toNat (zI a)) 12 5 (zI (ar + 0))) 12 3 (zI (ms + 0))) ?_ (fun k u => ?_) ?_ (by omega) (by omega) (by omega)
    · unfold RN
      rw [fe, ts]
    · rw [uI_o (by omega), uI_o (by omega), uI_o (by omega), uI_o (by omega)]
    · have la := lo_all (W0 := W0) (X0 := X0) (κ := κ) (c4 := c4) (c5 := c5) hC hi hs (by rw [fr 1 _ (by omega) (by omega)]; exact h1) (by rw [fr 1 _ (by omega) (by omega)]; exact hx1) (by rw [fr 5 _ (by omega) (by omega)]; exact hx5) hf ae ha hB a.toNat (by omega) (by omega) b g _ _ dr (dn + 1) ms ar (t + 1) ⟨hR2, hX1, by omega, by omega⟩ (by omega) (by rw [uI_o (by omega), uI_o (by omega), uI_s]; congr 1; omega)
      refine Gen_z la (by omega) (fun X' b' hq hz2 => ?_)
      have hz : a - (a.toNat : Int) = 0 := by omega
      rw [hz] at hq
      exact ⟨one_loop hX.2.2.2.1 ⟨dd.1, d9⟩ ⟨hs.1, by omega⟩ k7 (hq nn (by have := hC.2.2.2.2.2; omega)), fb b' hz2⟩
theorem sim {W0 X0 : KM} {L P : Nat} {b0 : Int → Int} {F nn : Nat} {c4 c5 : Int32} {κ : KM → Option KM} {jt : Int} (hC : Ctx W0 L P jt F nn) : ∀ (m d : Nat) (s e i j : Int), PRB W0 P b0 m d s e i j → 0 ≤ s → e ≤ 30 → 0 ≤ i → j ≤ jt → ∀ E, d ≤ E → ∀ b g W X dr dn ms ar t, At W0 X0 L b0 b g W X dr dn ms ar t → Gen W0 X0 L P b0 F c4 c5 κ i j i j 0 g W dn t (StQ nn E s e X b) := by
  intro m
  have base : ∀ (s i : Int), 0 ≤ s → s ≤ 30 → ∀ E b g W X dr dn ms ar t, At W0 X0 L b0 b g W X dr dn ms ar t → Gen W0 X0 L P b0 F c4 c5 κ i i i i 0 g W dn t (StQ nn E s s X b) := fun s i h1 h2 E b g W X dr dn ms ar t hA => by
    refine Gen_0 hA.1 hA.2.1 hA.2.2.1 (Int.le_refl _) (fun k hk => ?_)
    obtain ⟨k, rfl⟩ : ∃ k', k = k' + 1 := ⟨k - 1, by omega⟩
    exact da_end (Int.le_refl _) h1 h2
  induction m with
  | zero =>
    intro d s e i j h hs he hi hj E hE b g W X dr dn ms ar t hA
    obtain ⟨rfl, rfl⟩ := h
    exact base s i hs he E b g W X dr dn ms ar t hA
  | succ m ih =>
    intro d s e i j h hs he hi hj E hE b g W X dr dn ms ar t hA
    have q := RC_P hC hA.1
    rcases h with ⟨rfl, rfl⟩ | ⟨a1, a2, a3, a4, a5, a6⟩ | ⟨a1, a2, x, f, a3, a4, a5, a6, a7, a8, a9, a10, a11, a12, a13⟩
    · exact base s i hs he E b g W X dr dn ms ar t hA
    · exact Str_cons hA hs he a1 (by omega) (by omega) (by omega) (by omega) a5 (it_simple hC hA ⟨hi, by omega⟩ ⟨hs, by omega⟩ (PSt_c q.2.2.1 q.2.2.2.1 q.2.2.2.2.1 q.2.2.2.2.2 (by omega) a3) a5) (fun b' g' W' X' dr' dn' ms' ar' t' hA' => ih d _ _ _ _ a6 (by omega) he (by omega) hj E hE b' g' W' X' dr' dn' ms' ar' t' hA')
    · obtain ⟨E, rfl⟩ : ∃ E', E = E' + 1 := ⟨E - 1, by omega⟩
      have hB := ih (d - 1) _ _ _ _ a12 (by omega) (by omega) (by omega) (by omega) E (by omega)
      have hp := PBl_c q.2.2.1 q.2.2.2.1 q.2.2.2.2.1 q.2.2.2.2.2 (by omega) a7
      have f5 := q.2.2.1 5 i.toNat (by omega) (by omega)
      have g5 := q.2.2.1 5 x.toNat (by omega) (by omega)
      have g1 := q.2.2.1 1 x.toNat (by omega) (by omega)
      refine Str_cons (x := x + 1) (f := f) hA hs he a1 a5 a6 (by omega) (by omega) a11 ?_ (fun b' g' W' X' dr' dn' ms' ar' t' hA' => ih d _ _ _ _ a13 (by omega) he (by omega) hj (E + 1) hE b' g' W' X' dr' dn' ms' ar' t' hA')
      obtain ⟨kd, kd1, kd2, kd3, kd5, ⟨k6, -⟩ | ⟨k7, k9, r2, r3⟩⟩ := PBl_kd hp
      · exact it_when hC hA ⟨hi, a3, by omega⟩ ⟨hs, a5, by omega⟩ hp k6 (by rw [f5]; exact a8) (by rw [g1]; exact a9) (by rw [g5]; exact a10) a11 hB
      · subst k9
        exact it_loop hC hA ⟨hi, a3, by omega⟩ ⟨hs, a5, by omega⟩ k7 kd5 r2 r3 (by rw [g1]; exact a9) (by rw [g5]; exact a10) a11 hB
