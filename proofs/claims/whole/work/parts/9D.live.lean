/-! ===== days: a step of each kind, in both; all steps ===== -/
theorem PSt_6 {W : KM} {P : Nat} {b : Int → Int} {w i : Int} (h : PSt W P b w i) (h8 : ¬ b w = 8) : ∃ kd, b w = kd ∧ 0 ≤ kd ∧ kd < 6 := by
  unfold PSt at h
  exact ⟨b w, rfl, by omega⟩
theorem it_simple {W0 X0 : KM} {L P : Nat} {b0 b : Int → Int} {F nn E : Nat} {c4 c5 : Int32} {κ : KM → Option KM} {i s jt : Int} {g : Int → Int → Int → Int} {W X : KM} {dr dn ms ar t : Int} (hC : Ctx W0 L P jt F nn) (hA : At W0 X0 L b0 b g W X dr dn ms ar t) (hi : 0 ≤ i ∧ i < jt) (hs : 0 ≤ s ∧ s < 30) (hp : PSt W P b (292 + 9 * s) i) (hf : b0 (292 + 9 * s + 8) = s + 1) : Gen W0 X0 L P b0 F c4 c5 κ i (i + 1) i (i + 1) 0 g W dn t (fun X' b' => rE nn E (zI s) (cs X b) = some (cs X' b') ∧ b' (292 + 9 * s + 8) = s + 1) := by
  have hA' := hA
  obtain ⟨hR, hX, hm, ht⟩ := hA
  have q := RC_P hC hR
  obtain ⟨kd, kd1, kd2, kd3, kd4, kd5⟩ := PSt_kd hp
  have fb : ∀ b' : Int → Int, (∀ z, 290 ≤ z → b' z = b0 z) → b' (292 + 9 * s + 8) = s + 1 := fun b' h => by rw [h _ (by omega)]; exact hf
  by_cases d3 : dn = 300
  · subst d3
    exact Gen_w (it_cut (x := i + 1) hC hA' hi kd5 ⟨kd1, kd2, kd3⟩ (fb b q.2.2.2.1)) (Int.le_refl _) (Int.le_refl _) (Int.le_refl _) (fun _ _ z => z)
  · have dd := hR.2.2.2.2.2.2.2.2.2.2.2
    have d9 : dn < 300 := by omega
    have l23 : 23 ≤ L := hC.1
    have p31 : 31 ≤ P := by have := hC.2.1; omega
    have hR1 := RC_inc l23 hR d9
    have hX1 := RX_inc hX
    have hP1 : (uI W 12 2 (zI (dn + 1))).2.2 L 7 = P := q.1
    have fe : F + (40000 - t).toNat = F + (40000 - (t + 1)).toNat + 1 := by omega
    have fr : ∀ j k, 1 ≤ j → j ≤ 5 → (uI W 12 2 (zI (dn + 1))).1 (P + j) k = W.1 (P + j) k := fun j k u v => uI_o (by omega)
    have hp1 : PSt (uI W 12 2 (zI (dn + 1))) P b (292 + 9 * s) i := PSt_c fr (fun _ _ => rfl) rfl rfl (by omega) hp
    have i60 : 0 ≤ i ∧ i < 60 := ⟨hi.1, by have := hC.2.2.2.2.1; omega⟩
    by_cases k8 : b (292 + 9 * s) = 8
    · have r1 : (uI W 12 2 (zI (dn + 1))).1 (P + 1) i.toNat = zI 11 := by
        unfold PSt at hp1
        rcases hp1 with h | h | h | h | h | h | h <;> first | (exfalso; have := h.1; omega) | exact h.2
      have e := stp_stop (n := F + (40000 - (t + 1)).toNat) (g := g) l23 hC.2.1 hP1 i60 r1 (jt := jt) (by rw [uI_o (by have := hC.2.1; omega)]; exact q.2.1)
      refine ⟨b, g, uI W 12 2 (zI (dn + 1)), uI (uI X 227 41 (zI (dn + 1))) 227 39 (zI 1), dr, dn + 1, ms, ar, 0, 1, t, Or.inr ⟨rfl, ?_⟩, ⟨one_stop hX.2.2.2.1 ⟨dd.1, d9⟩ hs k8, fb b q.2.2.2.1⟩, hR1, RX_ov hX1, by omega, by omega, Or.inl rfl, fun k _ => uI_o (by omega)⟩
      unfold RN
      rw [fe, t_step l23 hC.2.1 q.2.1 hC.2.2.2.2.1.2 hi ⟨ht.1, by omega⟩ kd5 ⟨kd1, kd2, kd3⟩ hR.2.2.2.2.2.2.1 ⟨dd.1, d9⟩ e]
      have fe2 : F + (40000 - (t + 1)).toNat = F + (40000 - (t + 2)).toNat + 1 := by omega
      rw [fe2]
      exact t_out l23 hC.2.1 (by rw [uI_o (by have := hC.2.1; omega)]; exact q.2.1) hC.2.2.2.2.1 ⟨by omega, by omega⟩
    · obtain ⟨b', g', W', X', dr', v, ar', s1, s2, s3, s4, s5, s6⟩ := stp_all (n := F + (40000 - (t + 1)).toNat) (n2 := nn) l23 hC.2.1 hP1 hR1 hX1 i60 (by omega) hp1 k8 (by have := hC.2.2.2.2.2; omega) (by have := hC.2.2.2.2.2; omega)
      obtain ⟨kk, k1, k2, k3⟩ := PSt_6 hp k8
      have q2 := RC_P hC s3
      refine ⟨b', g', W', uI X' 227 42 (zI (ms + (1 - v))), dr', dn + 1, ms + (1 - v), ar', 0, 0, t + 1, Or.inl ⟨rfl, rfl, by omega, by omega, ?_⟩, ⟨one_simple hX.2.2.2.1 ⟨dd.1, d9⟩ hs hX.2.2.2.2.1 k1 ⟨k2, k3⟩ s5 s2, fb b' q2.2.2.2.1⟩, s3, RX_ms s4, by omega, by omega, Or.inl rfl, fun k _ => by rw [s6 k]; exact uI_o (by omega)⟩
      unfold RN
      rw [fe, t_step l23 hC.2.1 q.2.1 hC.2.2.2.2.1.2 hi ⟨ht.1, by omega⟩ kd5 ⟨kd1, kd2, kd3⟩ hR.2.2.2.2.2.2.1 ⟨dd.1, d9⟩ s1]
theorem it_when {W0 X0 : KM} {L P : Nat} {b0 b : Int → Int} {F nn E : Nat} {c4 c5 : Int32} {κ : KM → Option KM} {i x s f jt : Int} {g : Int → Int → Int → Int} {W X : KM} {dr dn ms ar t : Int} (hC : Ctx W0 L P jt F nn) (hA : At W0 X0 L b0 b g W X dr dn ms ar t) (hi : 0 ≤ i ∧ i < x ∧ x < jt) (hs : 0 ≤ s ∧ s < f ∧ f ≤ 30) (hp : PBl W P b (292 + 9 * s) i) (k6 : b (292 + 9 * s) = 6) (h5 : W.1 (P + 5) i.toNat = zI x) (hx1 : W.1 (P + 1) x.toNat = zI 10) (hx5 : W.1 (P + 5) x.toNat = zI i) (hf : b0 (292 + 9 * s + 8) = f)
    (hB : ∀ b' g' W' X' dr' dn' ms' ar' t', At W0 X0 L b0 b' g' W' X' dr' dn' ms' ar' t' → Gen W0 X0 L P b0 F c4 c5 κ (i + 1) x (i + 1) x 0 g' W' dn' t' (StQ nn E (s + 1) f X' b')) : Gen W0 X0 L P b0 F c4 c5 κ i (x + 1) i (x + 1) 0 g W dn t (fun X' b' => rE nn (E + 1) (zI s) (cs X b) = some (cs X' b') ∧ b' (292 + 9 * s + 8) = f) := by
  have hA' := hA
  obtain ⟨hR, hX, hm, ht⟩ := hA
  have q := RC_P hC hR
  obtain ⟨kd, kd1, kd2, kd3, kd5, kd4⟩ := PBl_kd hp
  have kd9 : ¬ kd = 9 := by omega
  have fb : ∀ b' : Int → Int, (∀ z, 290 ≤ z → b' z = b0 z) → b' (292 + 9 * s + 8) = f := fun b' h => by rw [h _ (by omega)]; exact hf
  have hjt := hC.2.2.2.2.1
  by_cases d3 : dn = 300
  · subst d3
    exact it_cut (x := x + 1) hC hA' ⟨hi.1, by omega⟩ kd5 ⟨kd1, kd2, kd3⟩ (fb b q.2.2.2.1)
  · have dd := hR.2.2.2.2.2.2.2.2.2.2.2
    have d9 : dn < 300 := by omega
    have l23 : 23 ≤ L := hC.1
    have p31 : 31 ≤ P := by have := hC.2.1; omega
    have hR1 := RC_inc l23 hR d9
    have hX1 := RX_inc hX
    have hP1 : (uI W 12 2 (zI (dn + 1))).2.2 L 7 = P := q.1
    have fe : F + (40000 - t).toNat = F + (40000 - (t + 1)).toNat + 1 := by omega
    have fr : ∀ j k, 1 ≤ j → j ≤ 5 → (uI W 12 2 (zI (dn + 1))).1 (P + j) k = W.1 (P + j) k := fun j k u v => uI_o (by omega)
    have hp1 : PBl (uI W 12 2 (zI (dn + 1))) P b (292 + 9 * s) i := PBl_c fr (fun _ _ => rfl) rfl rfl (by omega) hp
    have h51 : (uI W 12 2 (zI (dn + 1))).1 (P + 5) i.toNat = zI x := by rw [fr 5 _ (by omega) (by omega)]; exact h5
    obtain ⟨h, h01, e1, e2⟩ := stp_when (X0 := X0) (n := F + (40000 - (t + 1)).toNat) (n2 := nn) l23 hC.2.1 hP1 hR1 ⟨hi.1, by omega⟩ (by omega) hp1 k6 h51 ⟨by omega, by omega⟩ (by have := hC.2.2.2.2.2; omega)
    have hR2 := RC_sm l23 hR1
    have ts := t_step l23 hC.2.1 (κ := κ) (c4 := c4) (c5 := c5) q.2.1 hjt.2 ⟨hi.1, by omega⟩ ⟨ht.1, by omega⟩ kd5 ⟨kd1, kd2, kd3⟩ hR.2.2.2.2.2.2.1 ⟨dd.1, d9⟩ e1
    have hfr : ∀ k : Nat, ¬ (i ≤ (k : Int) ∧ (k : Int) < x + 1) → (uI (uI (uI W 12 2 (zI (dn + 1))) 12 5 (zI (ar + 0))) 12 3 (zI (ms + 0))).1 13 k = W.1 13 k := fun k _ => by rw [uI_o (by omega), uI_o (by omega), uI_o (by omega)]
    rcases h01 with rfl | rfl
    · refine Gen_pre (t2 := t + 1) (dn2 := dn + 1) (c2 := 0) (i2 := x + 1) ?_ hfr (Gen_0 (g := g) (c := 0) hR2 hX1 (by omega) (Int.le_refl _) ⟨one_when0 hX.2.2.2.1 ⟨dd.1, d9⟩ ⟨hs.1, by omega⟩ k6 e2, fb b q.2.2.2.1⟩) (by omega) (by omega) (by omega)
      unfold RN
      rw [fe, ts]
      rfl
    · refine Gen_pre (t2 := t + 1) (dn2 := dn + 1) (c2 := 1) (i2 := i + 1) (g2 := g) ?_ hfr ?_ (by omega) (by omega) (by omega)
      · unfold RN
        rw [fe, ts]
        rfl
      · have bd := hB b g _ _ dr (dn + 1) ms ar (t + 1) ⟨hR2, hX1, by omega, by omega⟩
        refine Gen_w (c := 0 + 1) ?_ (Int.le_refl _) (Int.le_refl _) (by omega) (fun _ _ z => z)
        have fin : ∀ X' b', StQ nn E (s + 1) f (uI X 227 41 (zI (dn + 1))) b X' b' → rE nn (E + 1) (zI s) (cs X b) = some (cs X' b') := fun X' b' hq => by
          refine one_when1 hX.2.2.2.1 ⟨dd.1, d9⟩ ⟨hs.1, by omega⟩ k6 (fb b q.2.2.2.1) e2 ?_
          rw [da_S]
          exact hq nn (by have := hC.2.2.2.2.2; omega)
        refine Gen_bind bd ⟨by omega, by omega⟩ (fun b' g' W' X' dr' dn' ms' ar' t' hq hR' hX' hm' u1 u2 u3 _ => ?_) (fun X' b' hq h39 hz => ⟨fin X' b' hq, fb b' hz⟩)
        have q' := RC_P hC hR'
        have dd' := hR'.2.2.2.2.2.2.2.2.2.2.2
        have rr : ∀ j k, 1 ≤ j → j ≤ 5 → W'.1 (P + j) k = W.1 (P + j) k := fun j k u v => by rw [q'.2.2.1 j k u v, q.2.2.1 j k u v]
        refine Gen_pre (t2 := t' + 1) (dn2 := dn') (c2 := 0) (i2 := x + 1) (g2 := g') (W2 := W') ?_ (fun _ _ => rfl) (Gen_0 hR' hX' hm' (Int.le_refl _) ⟨fin X' b' hq, fb b' q'.2.2.2.1⟩) (by omega) (by omega) (by omega)
        have fe2 : F + (40000 - t').toNat = F + (40000 - (t' + 1)).toNat + 1 := by omega
        unfold RN
        rw [fe2]
        exact t_endW l23 hC.2.1 q'.2.1 hjt.2 ⟨hi.1, hi.2⟩ ⟨by omega, by omega⟩ (by rw [rr 1 _ (by omega) (by omega)]; exact kd5) ⟨kd1, kd2, kd9⟩ (by rw [rr 1 _ (by omega) (by omega)]; exact hx1) (by rw [rr 5 _ (by omega) (by omega)]; exact hx5)
/-- the turns of a loop -/
theorem lo_all {W0 X0 : KM} {L P : Nat} {b0 : Int → Int} {F nn E : Nat} {c4 c5 : Int32} {κ : KM → Option KM} {i x s f jt a : Int} (hC : Ctx W0 L P jt F nn) (hi : 0 ≤ i ∧ i < x ∧ x < jt) (hs : 0 ≤ s ∧ s < f ∧ f ≤ 30) (h1 : W0.1 (P + 1) i.toNat = zI 9) (hx1 : W0.1 (P + 1) x.toNat = zI 10) (hx5 : W0.1 (P + 5) x.toNat = zI i) (hf : b0 (292 + 9 * s + 8) = f) (ha : b0 (292 + 9 * s + 1) = a) (ha2 : 1 ≤ a ∧ a ≤ 99)
    (hB : ∀ b' g' W' X' dr' dn' ms' ar' t', At W0 X0 L b0 b' g' W' X' dr' dn' ms' ar' t' → Gen W0 X0 L P b0 F c4 c5 κ (i + 1) x (i + 1) x 0 g' W' dn' t' (StQ nn E (s + 1) f X' b')) : ∀ (c : Nat), 1 ≤ c → (c : Int) ≤ a → ∀ b g W X dr dn ms ar t, At W0 X0 L b0 b g W X dr dn ms ar t → t ≤ 100 * dn - c → W.1 13 i.toNat = zI c → Gen W0 X0 L P b0 F c4 c5 κ (i + 1) (x + 1) i (x + 1) c g W dn t (fun X' b' => ∀ k, c < k → lp_X12_doOne_120 k (fun u v M => da_X12 (E + 1) nn 227 u v M) 227 (zI s) (zI (292 + 9 * s)) (zI (a - c)) (cs X b) (fun M => some M) = some (cs X' b')) := by
  intro c
  induction c with
  | zero => intro h; omega
  | succ c ih =>
    intro _ hca b g W X dr dn ms ar t hA ht9 hw
    obtain ⟨hR, hX, hm, ht⟩ := id hA
    have q := RC_P hC hR
    have hjt := hC.2.2.2.2.1
    have l23 : 23 ≤ L := hC.1
    have p31 : 31 ≤ P := by have := hC.2.1; omega
    have ab : ∀ b' : Int → Int, (∀ z, 290 ≤ z → b' z = b0 z) → b' (292 + 9 * s + 1) = a := fun b' h => by rw [h _ (by omega)]; exact ha
    have fb : ∀ b' : Int → Int, (∀ z, 290 ≤ z → b' z = b0 z) → b' (292 + 9 * s + 8) = f := fun b' h => by rw [h _ (by omega)]; exact hf
    have fin : ∀ X' b' k, StQ nn E (s + 1) f X b X' b' → lp_X12_doOne_120 (k + 1) (fun u v M => da_X12 (E + 1) nn 227 u v M) 227 (zI s) (zI (292 + 9 * s)) (zI (a - (c + 1 : Nat))) (cs X b) (fun M => some M) = lp_X12_doOne_120 k (fun u v M => da_X12 (E + 1) nn 227 u v M) 227 (zI s) (zI (292 + 9 * s)) (zI (a - c)) (cs X' b') (fun M => some M) := fun X' b' k hq => by
      have e := lo_step (k := k) (nn := nn) (E := E + 1) (X := X) (X2 := X') (b2 := b') (c := a - (c + 1 : Nat)) (κ := fun M => some M) (show 0 ≤ s ∧ s < 30 by omega) (ab b q.2.2.2.1) (fb b q.2.2.2.1) (by omega) ha2.2 hX.2.2.2.2.2.2.2.2.2 (by rw [da_S]; exact hq nn (by have := hC.2.2.2.2.2; omega))
      rw [e, show a - (c + 1 : Nat) + 1 = a - c by omega]
    refine Gen_w (c := 0 + ((c : Int) + 1)) ?_ (Int.le_refl _) (Int.le_refl _) (by omega) (fun _ _ z => z)
    refine Gen_bind (hB b g W X dr dn ms ar t hA) ⟨by omega, by omega⟩ (fun b' g' W' X' dr' dn' ms' ar' t' hq hR' hX' hm' u1 u2 u3 u4 => ?_) (fun X' b' hq h39 hz k hk => ?_)
    · have q' := RC_P hC hR'
      have dd' := hR'.2.2.2.2.2.2.2.2.2.2.2
      have rr : ∀ j k, 1 ≤ j → j ≤ 5 → W'.1 (P + j) k = W0.1 (P + j) k := q'.2.2.1
      have w13 : W'.1 13 i.toNat = zI ((c : Int) + 1) := by rw [u4 i.toNat (by omega), hw]; congr 1
      have fe2 : F + (40000 - t').toNat = F + (40000 - (t' + 1)).toNat + 1 := by omega
      have te := t_endL (F := F + (40000 - (t' + 1)).toNat) (g := g') (W := W') (t := t') (c4 := c4) (c5 := c5) (κ := κ) (c := (c : Int) + 1) l23 hC.2.1 q'.2.1 hjt.2 hi ⟨by omega, by omega⟩ (by rw [rr 1 _ (by omega) (by omega)]; exact h1) (by rw [rr 1 _ (by omega) (by omega)]; exact hx1) (by rw [rr 5 _ (by omega) (by omega)]; exact hx5) w13 ⟨by omega, by omega⟩
      by_cases c0 : c = 0
      · subst c0
        rw [if_pos (by rfl)] at te
        refine Gen_pre (t2 := t' + 1) (dn2 := dn') (c2 := 0) (i2 := x + 1) (g2 := g') (W2 := W') ?_ (fun _ _ => rfl) (Gen_0 hR' hX' hm' (Int.le_refl _) (fun k hk => ?_)) (by omega) (by omega) (by omega)
        · unfold RN
          rw [fe2]
          exact te
        · obtain ⟨k, rfl⟩ : ∃ k', k = k' + 1 + 1 := ⟨k - 1 - 1, by omega⟩
          rw [fin X' b' _ hq]
          exact lo_end ⟨hs.1, by omega⟩ (ab b' q'.2.2.2.1) (by omega) ha2.1 (by omega)
      · rw [if_neg (by omega)] at te
        refine Gen_pre (t2 := t' + 1) (dn2 := dn') (c2 := c) (i2 := i + 1) (g2 := g') (W2 := uI W' 13 i.toNat (zI ((c : Int) + 1 - 1))) ?_ (fun k u => uI_o (by omega)) (Gen_w (ih (by omega) (by omega) b' g' _ X' dr' dn' ms' ar' (t' + 1) ⟨RC_13 l23 hR', hX', hm', by omega, by omega⟩ (by omega) (by rw [uI_s]; congr 1; omega)) (Int.le_refl _) (Int.le_refl _) (Int.le_refl _) (fun X2 b2 hq2 k hk => ?_)) (by omega) (by omega) (by omega)
        · unfold RN
          rw [fe2]
          exact te
        · obtain ⟨k, rfl⟩ : ∃ k', k = k' + 1 := ⟨k - 1, by omega⟩
          rw [fin X' b' _ hq]
          exact hq2 k (by omega)
    · obtain ⟨k, rfl⟩ : ∃ k', k = k' + 1 + 1 := ⟨k - 1 - 1, by omega⟩
      rw [fin X' b' _ hq]
      exact lo_over ⟨hs.1, by omega⟩ (ab b' hz) ⟨by omega, by omega⟩ ha2 h39
