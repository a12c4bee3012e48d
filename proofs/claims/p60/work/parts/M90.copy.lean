/-! ===== a land is copied: all of it ===== -/
def lH (M : KM) (D S : Nat) : KM :=
  let M3 := uI (uI (uI M D 8 (M.1 S 8)) D 9 (M.1 S 9)) D 10 (M.1 S 10)
  let M4 := uI (uI (uI M3 (D + 7) 0 (M.1 (S + 7) 0)) (D + 7) 1 (M.1 (S + 7) 1)) (D + 7) 2 ((M.1 (S + 7) 1 - M.1 (S + 7) 0) * zI 60)
  uI (uI (uI (uI (uI M4 D 11 (M.1 S 11)) D 12 (M.1 S 12)) D 13 (M.1 S 13)) D 14 (M.1 S 14)) D 15 (M.1 S 15)
theorem lH_2 {M : KM} {D S : Nat} : (lH M D S).2 = M.2 := rfl
theorem lH_o {M : KM} {D S a k : Nat} (h : ¬ (a = D ∨ a = D + 7)) : (lH M D S).1 a k = M.1 a k := by
  unfold lH
  simp only
  rw [uI_o (by omega), uI_o (by omega), uI_o (by omega), uI_o (by omega), uI_o (by omega), uI_o (by omega), uI_o (by omega), uI_o (by omega), uI_o (by omega), uI_o (by omega), uI_o (by omega)]
theorem lH_f {M : KM} {D S k : Nat} (h1 : 8 ≤ k) (h2 : k ≤ 15) : (lH M D S).1 D k = M.1 S k := by
  have : k = 8 ∨ k = 9 ∨ k = 10 ∨ k = 11 ∨ k = 12 ∨ k = 13 ∨ k = 14 ∨ k = 15 := by omega
  unfold lH
  simp only
  rcases this with rfl | rfl | rfl | rfl | rfl | rfl | rfl | rfl
  · rw [uI_o (by omega), uI_o (by omega), uI_o (by omega), uI_o (by omega), uI_o (by omega), uI_o (by omega), uI_o (by omega), uI_o (by omega), uI_o (by omega), uI_o (by omega), uI_s]
  · rw [uI_o (by omega), uI_o (by omega), uI_o (by omega), uI_o (by omega), uI_o (by omega), uI_o (by omega), uI_o (by omega), uI_o (by omega), uI_o (by omega), uI_s]
  · rw [uI_o (by omega), uI_o (by omega), uI_o (by omega), uI_o (by omega), uI_o (by omega), uI_o (by omega), uI_o (by omega), uI_o (by omega), uI_s]
  · rw [uI_o (by omega), uI_o (by omega), uI_o (by omega), uI_o (by omega), uI_s]
  · rw [uI_o (by omega), uI_o (by omega), uI_o (by omega), uI_s]
  · rw [uI_o (by omega), uI_o (by omega), uI_s]
  · rw [uI_o (by omega), uI_s]
  · rw [uI_s]
theorem lH_h {M : KM} {D S : Nat} : (lH M D S).1 (D + 7) 0 = M.1 (S + 7) 0 ∧ (lH M D S).1 (D + 7) 1 = M.1 (S + 7) 1 ∧ (lH M D S).1 (D + 7) 2 = (M.1 (S + 7) 1 - M.1 (S + 7) 0) * zI 60 := by
  unfold lH
  simp only
  refine ⟨?_, ?_, ?_⟩
  · rw [uI_o (by omega), uI_o (by omega), uI_o (by omega), uI_o (by omega), uI_o (by omega), uI_o (by omega), uI_o (by omega), uI_s]
  · rw [uI_o (by omega), uI_o (by omega), uI_o (by omega), uI_o (by omega), uI_o (by omega), uI_o (by omega), uI_s]
  · rw [uI_o (by omega), uI_o (by omega), uI_o (by omega), uI_o (by omega), uI_o (by omega), uI_s]
theorem set_eq {a : Nat} {p q : Int32} {M : KM} : f_X1_set a p q M = uI (uI (uI M a 0 p) a 1 q) a 2 ((q - p) * zI 60) := by
  unfold f_X1_set
  simp only [lt]
  rw [uI_s, uI_o (show ¬ (a = a ∧ 0 = 1) by omega), uI_s]
  rfl
theorem c_smellCopy {D S : Nat} {κ : KM → Option KM} (hd : D + 38 ≤ S ∨ S + 38 ≤ D) : ∀ (k : Nat) (i : Int) (N : KM) (n : Nat), 0 ≤ i → i + k = 12 → k < n → ∃ N', lp_X2_copyFrom_158 n D S (zI i) N κ = κ N' ∧ N'.2 = N.2 ∧ (∀ a (j : Nat), ¬ (a = D + 5 ∧ i ≤ (j : Int)) → N'.1 a j = N.1 a j) ∧ ∀ (j : Nat), i ≤ (j : Int) → j < 12 → N'.1 (D + 5) j = vp_nar .boolean (N.1 (S + 5) j) := by
  intro k
  induction k with
  | zero =>
    intro i N n h1 h2 h3
    obtain ⟨m, rfl⟩ : ∃ m, n = m + 1 := ⟨n - 1, by omega⟩
    have : i = 12 := by omega
    subst this
    refine ⟨N, ?_, rfl, fun _ _ _ => rfl, fun j j1 j2 => by omega⟩
    rw [lp_X2_copyFrom_158]
    simp (disch := first | omega | assumption) only [↓lt, Option.bind_some, zl, ll, zadd, zsub, zmul, zneg, ladd, lsub, lmul, lneg, zltT, zltF, zleT, zleF, zeqT, zeqF, zidx, ixT, zwide, bIT, bIF, if_true, if_false, ↓reduceIte, Nat.reduceAdd, Int.reduceAdd, Int.reduceMul, Int.reduceSub, Int.reduceNeg, cs_c, cs_o, cs_2, cu_c, cu_o, Int.cast_ofNat_Int, ps_f, ps_g, ps_w, ps_o, ps_2, pu_f, pu_g, pu_w, pu_o, uI_s, uI_o, uI_j, uI_j1, uI_j2, uI_tw, or0, true_or, or_true, false_or, or_false, nar0, nar1]
  | succ k ih =>
    intro i N n h1 h2 h3
    obtain ⟨m, rfl⟩ : ∃ m, n = m + 1 := ⟨n - 1, by omega⟩
    obtain ⟨N', e1, e2, e3, e4⟩ := ih (i + 1) (uI N (D + 5) i.toNat (vp_nar .boolean (N.1 (S + 5) i.toNat))) m (by omega) (by omega) (by omega)
    refine ⟨N', ?_, e2, fun a j h => ?_, fun j j1 j2 => ?_⟩
    · rw [lp_X2_copyFrom_158]
      simp (disch := first | omega | assumption) only [↓lt, zl, zleF, if_false, ixT, if_true, zidx, zadd]
      exact e1
    · rw [e3 a j (by omega), uI_o (by omega)]
    · by_cases y : (j : Int) = i
      · rw [e3 _ _ (by omega), show j = i.toNat by omega, uI_s]
      · rw [e4 j (by omega) j2, uI_o (by omega)]
/-- the land at D is that at S, their days at PD and PS -/
def LCo (M N : KM) (D S PD PS : Nat) : Prop := N.2.2 = M.2.2 ∧ (∀ a k, ¬ (D ≤ a ∧ a < D + 8) → ¬ (D + 14 ≤ a ∧ a < D + 38) → ¬ (PD ≤ a ∧ a < PD + 6) → N.1 a k = M.1 a k) ∧ (∀ a k, ¬ a = D + 1 → ¬ (D + 14 ≤ a ∧ a < D + 38) → N.2.1 a k = M.2.1 a k) ∧
  (∀ k, 8 ≤ k → k ≤ 15 → N.1 D k = M.1 S k) ∧ (N.1 (D + 7) 0 = M.1 (S + 7) 0 ∧ N.1 (D + 7) 1 = M.1 (S + 7) 1 ∧ N.1 (D + 7) 2 = (M.1 (S + 7) 1 - M.1 (S + 7) 0) * zI 60) ∧
  (∀ j k, 2 ≤ j → j ≤ 4 → k < 12 → N.1 (D + j) k = M.1 (S + j) k) ∧ (∀ k, k < 12 → N.1 (D + 5) k = vp_nar .boolean (M.1 (S + 5) k)) ∧
  (∀ p, p < 8 → (∀ k, 3 ≤ k → k ≤ 11 → N.1 (D + 14 + 3 * p) k = M.1 (S + 14 + 3 * p) k) ∧ (∀ k, k < 12 → N.1 (D + 14 + 3 * p + 1) k = M.1 (S + 14 + 3 * p + 1) k) ∧ (∀ k, k < 8 → N.1 (D + 14 + 3 * p + 2) k = M.1 (S + 14 + 3 * p + 2) k) ∧ N.2.1 (D + 14 + 3 * p) 2 = M.2.1 (S + 14 + 3 * p) 2) ∧
  (N.1 PD 5 = M.1 PS 5 ∧ N.1 PD 6 = M.1 PS 6 ∧ N.1 PD 7 = M.1 PS 7 ∧ ∀ j k, 1 ≤ j → j ≤ 5 → k < 60 → N.1 (PD + j) k = M.1 (PS + j) k) ∧ (∀ k, k < 8 → N.2.1 (D + 1) k = M.2.1 (S + 1) k)
/-- two lands apart, and their days -/
def apt (D S PD PS : Nat) : Prop := (D + 38 ≤ S ∨ S + 38 ≤ D) ∧ (PD + 6 ≤ PS ∨ PS + 6 ≤ PD) ∧ (PD + 6 ≤ S ∨ PD = S + 8 ∨ S + 38 ≤ PD) ∧ (PS + 6 ≤ D ∨ PS = D + 8 ∨ D + 38 ≤ PS) ∧ (PD + 6 ≤ D ∨ PD = D + 8 ∨ D + 38 ≤ PD) ∧ (PS + 6 ≤ S ∨ PS = S + 8 ∨ S + 38 ≤ PS)
set_option maxHeartbeats 6000000 in
theorem c_landCopy {M : KM} {D S PD PS n : Nat} (ha : apt D S PD PS) (hPD : M.2.2 D 7 = PD) (hPS : M.2.2 S 7 = PS) (h15 : M.1 S 15 = zI 0 ∨ M.1 S 15 = zI 1) (h7 : M.1 PS 7 = zI 0 ∨ M.1 PS 7 = zI 1) (h01 : ∀ p, p < 8 → (M.1 (S + 14 + 3 * p) 3 = zI 0 ∨ M.1 (S + 14 + 3 * p) 3 = zI 1) ∧ (M.1 (S + 14 + 3 * p) 4 = zI 0 ∨ M.1 (S + 14 + 3 * p) 4 = zI 1)) (hn : 30 < n) : ∃ N, f_X2_copyFrom n D S M = some N ∧ LCo M N D S PD PS := by
  obtain ⟨a1, a2, a3, a4, a5, a6⟩ := ha
  -- the days
  have d7 : (lH M D S).1 PS 7 = M.1 PS 7 := lH_o (by omega)
  have eD := c_daysCopy (n := n) (D := PD) (S := PS) (M := lH M D S) (by omega) (by rw [d7]; exact h7)
  -- rows 1 to 4
  let K0 := dC (lH M D S) PD PS
  let K1 := uJs K0 (D + 1) (va_cpy (K0.2.1 (S + 1)) (K0.2.1 (D + 1)) 0 0 8)
  let K2 := uIs K1 (D + 2) (va_cpy (K1.1 (S + 2)) (K1.1 (D + 2)) 0 0 12)
  let K3 := uIs K2 (D + 3) (va_cpy (K2.1 (S + 3)) (K2.1 (D + 3)) 0 0 12)
  let K4 := uIs K3 (D + 4) (va_cpy (K3.1 (S + 4)) (K3.1 (D + 4)) 0 0 12)
  have k0 : ∀ a k, ¬ (D ≤ a ∧ a < D + 8) → ¬ (PD ≤ a ∧ a < PD + 6) → K0.1 a k = M.1 a k := fun a k h1 h2 => by
    show (dC (lH M D S) PD PS).1 a k = _
    rw [dC_o h2, lH_o (by omega)]
  have k0r : ∀ j k, 2 ≤ j → j ≤ 5 → K0.1 (D + j) k = M.1 (D + j) k := fun j k h1 h2 => by
    show (dC (lH M D S) PD PS).1 _ k = _
    rw [dC_o (by omega), lH_o (by omega)]
  have k4 : ∀ a k, ¬ (a = D + 2 ∨ a = D + 3 ∨ a = D + 4) → K4.1 a k = K0.1 a k := fun a k h => by
    show (uIs K3 (D + 4) _).1 a k = _
    rw [uIs_ro (by omega)]
    show (uIs K2 (D + 3) _).1 a k = _
    rw [uIs_ro (by omega)]
    show (uIs K1 (D + 2) _).1 a k = _
    rw [uIs_ro (by omega)]
    rfl
  have k4r : ∀ j k, 2 ≤ j → j ≤ 4 → k < 12 → K4.1 (D + j) k = M.1 (S + j) k := fun j k h1 h2 hk => by
    have : j = 2 ∨ j = 3 ∨ j = 4 := by omega
    rcases this with rfl | rfl | rfl
    · show (uIs K3 (D + 4) _).1 (D + 2) k = _
      rw [uIs_ro (by omega)]
      show (uIs K2 (D + 3) _).1 (D + 2) k = _
      rw [uIs_ro (by omega)]
      show (uIs K1 (D + 2) _).1 (D + 2) k = _
      rw [uIs_rs, cpy_at hk]
      exact k0 _ _ (by omega) (by omega)
    · show (uIs K3 (D + 4) _).1 (D + 3) k = _
      rw [uIs_ro (by omega)]
      show (uIs K2 (D + 3) _).1 (D + 3) k = _
      rw [uIs_rs, cpy_at hk]
      show (uIs K1 (D + 2) _).1 (S + 3) k = _
      rw [uIs_ro (by omega)]
      exact k0 _ _ (by omega) (by omega)
    · show (uIs K3 (D + 4) _).1 (D + 4) k = _
      rw [uIs_rs, cpy_at hk]
      show (uIs K2 (D + 3) _).1 (S + 4) k = _
      rw [uIs_ro (by omega)]
      show (uIs K1 (D + 2) _).1 (S + 4) k = _
      rw [uIs_ro (by omega)]
      exact k0 _ _ (by omega) (by omega)
  have k4J : ∀ a k, ¬ a = D + 1 → K4.2.1 a k = M.2.1 a k := fun a k h => by
    show (uJs K0 (D + 1) _).2.1 a k = _
    rw [uJs_ro h]
    rfl
  have k4Js : ∀ k, k < 8 → K4.2.1 (D + 1) k = M.2.1 (S + 1) k := fun k h => by
    show (uJs K0 (D + 1) _).2.1 (D + 1) k = _
    rw [uJs_rs, cpy_at h]
    rfl
  have k42 : K4.2.2 = M.2.2 := rfl
  have eS : ∀ κ, ∃ N', lp_X2_copyFrom_158 n D S (zI 0) K4 κ = κ N' ∧ N'.2 = K4.2 ∧ (∀ a (j : Nat), ¬ (a = D + 5 ∧ (0 : Int) ≤ (j : Int)) → N'.1 a j = K4.1 a j) ∧ ∀ (j : Nat), (0 : Int) ≤ (j : Int) → j < 12 → N'.1 (D + 5) j = vp_nar .boolean (K4.1 (S + 5) j) := fun κ => c_smellCopy (κ := κ) a1 12 0 K4 n (by omega) (by omega) (by omega)
  obtain ⟨N1, f1, f2, f3, f4⟩ := eS (fun M27 => lp_X2_copyFrom_184 n D S (zI 0) M27)
  have n1 : ∀ a k, ¬ a = D + 5 → N1.1 a k = K4.1 a k := fun a k h => f3 a k (fun z => h z.1)
  have n2 : ∀ a k, ¬ (D ≤ a ∧ a < D + 8) → ¬ (PD ≤ a ∧ a < PD + 6) → N1.1 a k = M.1 a k := fun a k h1 h2 => by rw [n1 a k (by omega), k4 a k (by omega), k0 a k h1 h2]
  obtain ⟨N, g1, g2, g3, g4, g5⟩ := c_peopleCopy (M := N1) (D := D) (S := S) a1 (fun p hp => by rw [n2 _ _ (by omega) (by omega), n2 _ _ (by omega) (by omega)]; exact h01 p hp) 8 0 N1 n (by omega) (by omega) ⟨rfl, fun _ _ _ => rfl, fun _ _ _ => rfl, fun p hp => by omega⟩
  refine ⟨N, ?_, ?_, fun a k h1 h2 h3 => ?_, fun a k h1 h2 => ?_, fun k h1 h2 => ?_, ⟨?_, ?_, ?_⟩, fun j k h1 h2 h3 => ?_, fun k hk => ?_, fun p hp => ?_, ⟨?_, ?_, ?_, fun j k h1 h2 h3 => ?_⟩, fun k hk => ?_⟩
  · have eh : ∀ κ : KM → Option KM, (f_X8_copyFrom n PD PS (lH M D S)).bind κ = κ K0 := fun κ => by rw [eD]; rfl
    have q15 : ∀ (K : KM) (k j : Nat) (v : Int32), (uI K D k v).1 S j = K.1 S j := fun K k j v => uI_o (by omega)
    have q7 : ∀ (K : KM) (k j : Nat) (v : Int32), (uI K D k v).1 (S + 7) j = K.1 (S + 7) j := fun K k j v => uI_o (by omega)
    have q8 : ∀ (K : KM) (k j : Nat) (v : Int32), (uI K (D + 7) k v).1 S j = K.1 S j := fun K k j v => uI_o (by omega)
    have g1 : lp_X2_copyFrom_184 n D S (zI 0) N1 = some N := g1
    rw [← g1, ← f1]
    show _ = lp_X2_copyFrom_158 n D S (zI 0) (uIs (uIs (uIs (uJs K0 (D + 1) (va_cpy (K0.2.1 (S + 1)) (K0.2.1 (D + 1)) 0 0 8)) (D + 2) (va_cpy (K1.1 (S + 2)) (K1.1 (D + 2)) 0 0 12)) (D + 3) (va_cpy (K2.1 (S + 3)) (K2.1 (D + 3)) 0 0 12)) (D + 4) (va_cpy (K3.1 (S + 4)) (K3.1 (D + 4)) 0 0 12)) _
    unfold f_X2_copyFrom
    simp only [set_eq]
    simp only [zl]
    simp only [↓lt, ↓cgE12, ↓cgE8, if_true, ct0, ct8, ct12, q15, q7, q8, uI_j2, hPD, hPS, if_pos h15]
    show (f_X8_copyFrom n PD PS (lH M D S)).bind _ = _
    rw [eh]
  · rw [g2, f2]; exact k42
  · rw [g3 a k (by omega), n2 a k h1 h3]
  · rw [g4 a k (by omega), f2, k4J a k h1]
  · rw [g3 _ _ (by omega), n1 _ _ (by omega), k4 _ _ (by omega)]
    show (dC (lH M D S) PD PS).1 D k = _
    rw [dC_o (by omega), lH_f h1 h2]
  · rw [g3 _ _ (by omega), n1 _ _ (by omega), k4 _ _ (by omega)]
    show (dC (lH M D S) PD PS).1 (D + 7) 0 = _
    rw [dC_o (by omega)]; exact lH_h.1
  · rw [g3 _ _ (by omega), n1 _ _ (by omega), k4 _ _ (by omega)]
    show (dC (lH M D S) PD PS).1 (D + 7) 1 = _
    rw [dC_o (by omega)]; exact lH_h.2.1
  · rw [g3 _ _ (by omega), n1 _ _ (by omega), k4 _ _ (by omega)]
    show (dC (lH M D S) PD PS).1 (D + 7) 2 = _
    rw [dC_o (by omega)]; exact lH_h.2.2
  · rw [g3 _ _ (by omega), n1 _ _ (by omega)]
    exact k4r j k h1 h2 h3
  · rw [g3 _ _ (by omega), f4 k (by omega) hk, k4 _ _ (by omega), k0 _ _ (by omega) (by omega)]
  · have := g5 p hp
    refine ⟨fun k k1 k2 => ?_, fun k hk => ?_, fun k hk => ?_, ?_⟩
    · rw [this.1 k k1 k2, n2 _ _ (by omega) (by omega)]
    · rw [this.2.1 k hk, n2 _ _ (by omega) (by omega)]
    · rw [this.2.2.1 k hk, n2 _ _ (by omega) (by omega)]
    · rw [this.2.2.2, f2, k4J _ _ (by omega)]
  · rw [g3 _ _ (by omega), n1 _ _ (by omega), k4 _ _ (by omega)]
    show (dC (lH M D S) PD PS).1 PD 5 = _
    rw [dC_f.1, lH_o (by omega)]
  · rw [g3 _ _ (by omega), n1 _ _ (by omega), k4 _ _ (by omega)]
    show (dC (lH M D S) PD PS).1 PD 6 = _
    rw [dC_f.2.1, lH_o (by omega)]
  · rw [g3 _ _ (by omega), n1 _ _ (by omega), k4 _ _ (by omega)]
    show (dC (lH M D S) PD PS).1 PD 7 = _
    rw [dC_f.2.2, lH_o (by omega)]
  · rw [g3 _ _ (by omega), n1 _ _ (by omega), k4 _ _ (by omega)]
    show (dC (lH M D S) PD PS).1 (PD + j) k = _
    rw [dC_r h1 h2 h3, lH_o (by omega)]
  · rw [g4 _ _ (by omega), f2, k4Js k hk]

