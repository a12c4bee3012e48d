/-! ===== days: stretches, in both ===== -/
def RN (F L P : Nat) (c4 c5 : Int32) (κ : KM → Option KM) (i t : Int) (W : KM) (g : Int → Int → Int → Int) : Option KM := lp_X4_run_48 (F + (40000 - t).toNat) 12 L P c4 c5 (zI i) (zI t) (ps W L g) κ
/-- from row i to row j, in at most c turns more than the steps done pay for; or over -/
def Gen (W0 X0 : KM) (L P : Nat) (b0 : Int → Int) (F : Nat) (c4 c5 : Int32) (κ : KM → Option KM) (i j lo hi c : Int) (g : Int → Int → Int → Int) (W : KM) (dn t : Int) (Q : KM → (Int → Int) → Prop) : Prop :=
  ∃ b' g' W' X' dr' dn' ms' ar' lf' ov' t',
    ((ov' = 0 ∧ lf' = 0 ∧ t ≤ t' ∧ t' ≤ t + 100 * (dn' - dn) + c ∧ RN F L P c4 c5 κ i t W g = RN F L P c4 c5 κ j t' W' g') ∨ (ov' = 1 ∧ RN F L P c4 c5 κ i t W g = κ (ps W' L g'))) ∧
    Q X' b' ∧ RC W0 L b0 b' g' W' dr' dn' ms' ar' lf' ∧ RX X0 b0 b' X' dr' dn' ms' ar' lf' ov' ∧ (0 ≤ ms' ∧ ms' ≤ dn') ∧ dn ≤ dn' ∧ (lf' = 0 ∨ lf' = 1) ∧ ∀ k : Nat, ¬ (lo ≤ (k : Int) ∧ (k : Int) < hi) → W'.1 13 k = W.1 13 k
/-- where it holds from -/
def At (W0 X0 : KM) (L : Nat) (b0 b : Int → Int) (g : Int → Int → Int → Int) (W X : KM) (dr dn ms ar t : Int) : Prop := RC W0 L b0 b g W dr dn ms ar 0 ∧ RX X0 b0 b X dr dn ms ar 0 0 ∧ (0 ≤ ms ∧ ms ≤ dn) ∧ (0 ≤ t ∧ t ≤ 100 * dn)
theorem Gen_bind {W0 X0 : KM} {L P : Nat} {b0 : Int → Int} {F : Nat} {c4 c5 : Int32} {κ : KM → Option KM} {i x j lo hi lo1 hi1 c1 c2 : Int} {g : Int → Int → Int → Int} {W : KM} {dn t : Int} {Q1 Q2 : KM → (Int → Int) → Prop} (h1 : Gen W0 X0 L P b0 F c4 c5 κ i x lo1 hi1 c1 g W dn t Q1) (hlo : lo ≤ lo1 ∧ hi1 ≤ hi)
    (h2 : ∀ b' g' W' X' dr' dn' ms' ar' t', Q1 X' b' → RC W0 L b0 b' g' W' dr' dn' ms' ar' 0 → RX X0 b0 b' X' dr' dn' ms' ar' 0 0 → (0 ≤ ms' ∧ ms' ≤ dn') → t ≤ t' → t' ≤ t + 100 * (dn' - dn) + c1 → dn ≤ dn' → (∀ k : Nat, ¬ (lo1 ≤ (k : Int) ∧ (k : Int) < hi1) → W'.1 13 k = W.1 13 k) → Gen W0 X0 L P b0 F c4 c5 κ x j lo hi c2 g' W' dn' t' Q2)
    (h3 : ∀ X' b', Q1 X' b' → X'.1 227 39 = zI 1 → (∀ z, 290 ≤ z → b' z = b0 z) → Q2 X' b') : Gen W0 X0 L P b0 F c4 c5 κ i j lo hi (c1 + c2) g W dn t Q2 := by
  obtain ⟨b', g', W', X', dr', dn', ms', ar', lf', ov', t', hd, hq, hR, hX, hm, hdn, hlf, hfr⟩ := h1
  rcases hd with ⟨o1, o2, o3, o4, o5⟩ | ⟨o1, o2⟩
  · subst o1; subst o2
    obtain ⟨b2, g2, W2, X2, dr2, dn2, ms2, ar2, lf2, ov2, t2, kd, kq, kR, kX, km, kdn, klf, kfr⟩ := h2 b' g' W' X' dr' dn' ms' ar' t' hq hR hX hm o3 o4 hdn hfr
    refine ⟨b2, g2, W2, X2, dr2, dn2, ms2, ar2, lf2, ov2, t2, ?_, kq, kR, kX, km, by omega, klf, fun k u => by rw [kfr k u, hfr k (by omega)]⟩
    rcases kd with ⟨p1, p2, p3, p4, p5⟩ | ⟨p1, p2⟩
    · exact Or.inl ⟨p1, p2, by omega, by omega, by rw [o5, p5]⟩
    · exact Or.inr ⟨p1, by rw [o5, p2]⟩
  · subst o1
    exact ⟨b', g', W', X', dr', dn', ms', ar', lf', 1, t', Or.inr ⟨rfl, o2⟩, h3 X' b' hq hX.2.2.2.2.2.2.2.2.2 hR.2.2.1, hR, hX, hm, hdn, hlf, fun k u => hfr k (by omega)⟩
theorem Gen_w {W0 X0 : KM} {L P : Nat} {b0 : Int → Int} {F : Nat} {c4 c5 : Int32} {κ : KM → Option KM} {i j lo hi lo' hi' c c' : Int} {g : Int → Int → Int → Int} {W : KM} {dn t : Int} {Q Q' : KM → (Int → Int) → Prop} (h : Gen W0 X0 L P b0 F c4 c5 κ i j lo hi c g W dn t Q) (h1 : lo' ≤ lo) (h2 : hi ≤ hi') (h3 : c ≤ c') (h4 : ∀ X b, Q X b → Q' X b) : Gen W0 X0 L P b0 F c4 c5 κ i j lo' hi' c' g W dn t Q' := by
  obtain ⟨b', g', W', X', dr', dn', ms', ar', lf', ov', t', hd, hq, hR, hX, hm, hdn, hlf, hfr⟩ := h
  refine ⟨b', g', W', X', dr', dn', ms', ar', lf', ov', t', ?_, h4 _ _ hq, hR, hX, hm, hdn, hlf, fun k u => hfr k (by omega)⟩
  rcases hd with ⟨o1, o2, o3, o4, o5⟩ | o
  · exact Or.inl ⟨o1, o2, o3, by omega, o5⟩
  · exact Or.inr o
/-- a turn before -/
theorem Gen_pre {W0 X0 : KM} {L P : Nat} {b0 : Int → Int} {F : Nat} {c4 c5 : Int32} {κ : KM → Option KM} {i i2 j lo hi c c2 : Int} {g g2 : Int → Int → Int → Int} {W W2 : KM} {dn dn2 t t2 : Int} {Q : KM → (Int → Int) → Prop} (h : RN F L P c4 c5 κ i t W g = RN F L P c4 c5 κ i2 t2 W2 g2) (hf : ∀ k : Nat, ¬ (lo ≤ (k : Int) ∧ (k : Int) < hi) → W2.1 13 k = W.1 13 k) (hG : Gen W0 X0 L P b0 F c4 c5 κ i2 j lo hi c2 g2 W2 dn2 t2 Q) (hd : dn ≤ dn2) (ht : t ≤ t2) (hc : t2 + c2 + 100 * (dn - dn2) ≤ t + c) : Gen W0 X0 L P b0 F c4 c5 κ i j lo hi c g W dn t Q := by
  obtain ⟨b', g', W', X', dr', dn', ms', ar', lf', ov', t', hd', hq, hR, hX, hm, hdn, hlf, hfr⟩ := hG
  refine ⟨b', g', W', X', dr', dn', ms', ar', lf', ov', t', ?_, hq, hR, hX, hm, by omega, hlf, fun k u => by rw [hfr k u, hf k u]⟩
  rcases hd' with ⟨o1, o2, o3, o4, o5⟩ | ⟨o1, o2⟩
  · exact Or.inl ⟨o1, o2, by omega, by omega, by rw [h, o5]⟩
  · exact Or.inr ⟨o1, by rw [h, o2]⟩
/-- nothing more to do -/
theorem Gen_0 {W0 X0 : KM} {L P : Nat} {b0 b : Int → Int} {F : Nat} {c4 c5 : Int32} {κ : KM → Option KM} {i lo hi c : Int} {g : Int → Int → Int → Int} {W X : KM} {dr dn ms ar t : Int} {Q : KM → (Int → Int) → Prop} (hR : RC W0 L b0 b g W dr dn ms ar 0) (hX : RX X0 b0 b X dr dn ms ar 0 0) (hm : 0 ≤ ms ∧ ms ≤ dn) (hc : 0 ≤ c) (hq : Q X b) : Gen W0 X0 L P b0 F c4 c5 κ i i lo hi c g W dn t Q :=
  ⟨b, g, W, X, dr, dn, ms, ar, 0, 0, t, Or.inl ⟨rfl, rfl, Int.le_refl _, by omega, rfl⟩, hq, hR, hX, hm, Int.le_refl _, Or.inl rfl, fun _ _ => rfl⟩
/-- steps s to e -/
def StQ (nn E : Nat) (s e : Int) (X : KM) (b : Int → Int) : KM → (Int → Int) → Prop := fun X' b' => ∀ k, (e - s).toNat < k → lp_X12_doAll_2 k (rE nn E) 227 (zI e) (zI s) (cs X b) = some (cs X' b')
def Ctx (W0 : KM) (L P : Nat) (jt : Int) (F nn : Nat) : Prop := 23 ≤ L ∧ (P = L + 8 ∨ (31 ≤ P ∧ P + 6 ≤ L) ∨ L + 38 ≤ P) ∧ W0.2.2 L 7 = P ∧ W0.1 P 5 = zI jt ∧ (0 ≤ jt ∧ jt ≤ 60) ∧ 1000 < F ∧ 1000 < nn
theorem RC_P {W0 : KM} {L P : Nat} {b0 b : Int → Int} {g : Int → Int → Int → Int} {W : KM} {dr dn ms ar lf jt : Int} {F nn : Nat} (hC : Ctx W0 L P jt F nn) (hR : RC W0 L b0 b g W dr dn ms ar lf) : W.2.2 L 7 = P ∧ W.1 P 5 = zI jt ∧ (∀ j k, 1 ≤ j → j ≤ 5 → W.1 (P + j) k = W0.1 (P + j) k) ∧ (∀ z, 290 ≤ z → b z = b0 z) ∧ b 0 = b0 0 ∧ b 2 = b0 2 := by
  obtain ⟨c1, c2, c3, c4, c5, c6, c7⟩ := hC
  obtain ⟨a1, a2, a3, a4, a5, a6, a7, a8, a9, a10, a11, a12⟩ := hR
  refine ⟨by rw [a4]; exact c3, by rw [a5 P 5 (by omega) (by omega)]; exact c4, fun j k u v => a5 _ _ (by omega) (by omega), a3, a2 0 (by omega) (by omega) (by omega), a2 2 (by omega) (by omega) (by omega)⟩
theorem Str_cons {W0 X0 : KM} {L P : Nat} {b0 b : Int → Int} {F nn E : Nat} {c4 c5 : Int32} {κ : KM → Option KM} {i x j s e f : Int} {g : Int → Int → Int → Int} {W X : KM} {dr dn ms ar t : Int} (hA : At W0 X0 L b0 b g W X dr dn ms ar t) (hs : 0 ≤ s) (he : e ≤ 30) (hse : s < e) (hsf : s < f) (hfe : f ≤ e) (hix : i ≤ x) (hxj : x ≤ j) (hf : b0 (292 + 9 * s + 8) = f) (h1 : Gen W0 X0 L P b0 F c4 c5 κ i x i x 0 g W dn t (fun X' b' => rE nn E (zI s) (cs X b) = some (cs X' b') ∧ b' (292 + 9 * s + 8) = f))
    (h2 : ∀ b' g' W' X' dr' dn' ms' ar' t', At W0 X0 L b0 b' g' W' X' dr' dn' ms' ar' t' → Gen W0 X0 L P b0 F c4 c5 κ x j x j 0 g' W' dn' t' (StQ nn E f e X' b')) : Gen W0 X0 L P b0 F c4 c5 κ i j i j 0 g W dn t (StQ nn E s e X b) := by
  have z : (0 : Int) = 0 + 0 := rfl
  rw [z]
  have x39 := hA.2.1.2.2.2.2.2.2.2.2.2
  refine Gen_bind h1 ⟨Int.le_refl i, hxj⟩ (fun b' g' W' X' dr' dn' ms' ar' t' hq hR hX hm u1 u2 u3 _ => ?_) (fun X' b' hq h39 _ k hk => ?_)
  · refine Gen_w (h2 b' g' W' X' dr' dn' ms' ar' t' ⟨hR, hX, hm, ?_⟩) hix (Int.le_refl j) (Int.le_refl 0) (fun X2 b2 q k hk => ?_)
    · have := hA.2.2.2
      omega
    · obtain ⟨k, rfl⟩ : ∃ k', k = k' + 1 := ⟨k - 1, by omega⟩
      rw [da_step hse hs he x39 hq.1 hq.2]
      exact q k (by omega)
  · obtain ⟨k, rfl⟩ : ∃ k', k = k' + 1 + 1 := ⟨k - 1 - 1, by omega⟩
    rw [da_step hse hs he x39 hq.1 hq.2]
    exact da_over h39 ⟨by omega, he⟩ ⟨by omega, by omega⟩
/-- no step is left to be done -/
theorem it_cut {W0 X0 : KM} {L P : Nat} {b0 b : Int → Int} {F nn E : Nat} {c4 c5 : Int32} {κ : KM → Option KM} {i x s kd f jt : Int} {g : Int → Int → Int → Int} {W X : KM} {dr ms ar t : Int} (hC : Ctx W0 L P jt F nn) (hA : At W0 X0 L b0 b g W X dr 300 ms ar t) (hi : 0 ≤ i ∧ i < jt) (hk : W.1 (P + 1) i.toNat = zI kd) (hkd : 0 ≤ kd ∧ kd ≤ 11 ∧ ¬ kd = 10) (hf : b (292 + 9 * s + 8) = f) : Gen W0 X0 L P b0 F c4 c5 κ i x i x 0 g W 300 t (fun X' b' => rE nn E (zI s) (cs X b) = some (cs X' b') ∧ b' (292 + 9 * s + 8) = f) := by
  obtain ⟨hR, hX, hm, ht⟩ := hA
  have q := RC_P hC hR
  have l23 : 23 ≤ L := hC.1
  have hdn : W.1 12 2 = zI 300 := hR.2.2.2.2.2.2.1
  refine ⟨b, g, uI W 12 7 (zI 1), uI (uI X 227 39 (zI 1)) 227 46 (zI 1), dr, 300, ms, ar, 1, 1, t, Or.inr ⟨rfl, ?_⟩, ⟨one_cut hX.2.2.2.1, hf⟩, RC_lf hC.1 hR, RX_lf (RX_ov hX), hm, Int.le_refl _, Or.inr rfl, fun k _ => uI_o (by omega)⟩
  unfold RN
  have e : F + (40000 - t).toNat = F + (40000 - (t + 2)).toNat + 1 + 1 := by omega
  rw [e]
  exact t_cut hC.1 hC.2.1 q.2.1 hC.2.2.2.2.1.2 hi ⟨ht.1, by omega⟩ hk hkd hdn
