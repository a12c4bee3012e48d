/-! ===== days: sizes of sets; a wait ===== -/
theorem sb8_n : ∀ p0 p1 p2 p3 p4 p5 p6 p7 : Bool, 0 ≤ (sb8 p0 p1 p2 p3 p4 p5 p6 p7).toInt ∧ (sb8 p0 p1 p2 p3 p4 p5 p6 p7).toInt < 256 ∧ szS (sb8 p0 p1 p2 p3 p4 p5 p6 p7).toInt = (if p0 = true then 1 else 0) + (if p1 = true then 1 else 0) + (if p2 = true then 1 else 0) + (if p3 = true then 1 else 0) + (if p4 = true then 1 else 0) + (if p5 = true then 1 else 0) + (if p6 = true then 1 else 0) + (if p7 = true then 1 else 0) := by decide +kernel
theorem szB (P : Int → Bool) : ∃ s, 0 ≤ s ∧ s < 256 ∧ setB P 8 = zI s ∧ szS s = cdB P := by
  have e := sb8_n (P 0) (P 1) (P 2) (P 3) (P 4) (P 5) (P 6) (P 7)
  rw [← sb8_of P] at e
  refine ⟨(setB P 8).toInt, e.1, e.2.1, z_of _, ?_⟩
  rw [e.2.2]
  unfold cdB
  rw [sum8]
theorem c_bitB {P : Int → Bool} {M : KM} : f_J6_bitCount_0f7a4 (setB P 8) M = zI (cdB P) := by
  obtain ⟨s, s1, s2, s3, s4⟩ := szB P
  rw [s3, c_bitCount s1 s2, s4]
theorem m_sizeB {P : Int → Bool} {M : KM} {n : Nat} (hn : 20 < n) : f_X12_sizeOf n (setB P 8) M = some (zI (cdB P)) := by
  obtain ⟨s, s1, s2, s3, s4⟩ := szB P
  rw [s3, m_sizeOf s1 (by omega) hn, s4]
def cA9 (b : Int → Int) (t : Int) : Int := cdB (fun q => decide (arQ b t q))
theorem cA9_0 {b : Int → Int} (hb : WB b) : cA9 b 0 = 0 := by
  unfold cA9 cdB
  exact sum_0 (fun q _ _ => if_neg (fun z => ar_0 hb (of_decide_eq_true z)))
theorem cA9_st {b : Int → Int} {t : Int} (hb : WB b) (ht : 0 ≤ t) : cA9 b t + cdB (fun q => AG (cI b t) q && decide (thB (cI b t) q)) = cA9 b (t + 1) := by
  unfold cA9 cdB
  refine (sumB_add (fun q h1 h2 => ?_)).symm
  have e := T_c (q := q) hb ht h1 h2
  have u := ar_up (q := q) hb ht
  by_cases w : arQ b t q
  · rw [if_pos (decide_eq_true (u w)), if_pos (decide_eq_true w), if_neg (fun z => by
      rw [Bool.and_eq_true] at z
      exact (e.mp ⟨z.1, of_decide_eq_true z.2⟩).1 w)]
    rfl
  · by_cases v : arQ b (t + 1) q
    · have z := e.mpr ⟨w, v⟩
      rw [if_pos (decide_eq_true v), if_neg (fun y => w (of_decide_eq_true y)), if_pos (by rw [Bool.and_eq_true]; exact ⟨z.1, decide_eq_true z.2⟩)]
      rfl
    · rw [if_neg (fun y => v (of_decide_eq_true y)), if_neg (fun y => w (of_decide_eq_true y)), if_neg (fun z => by
        rw [Bool.and_eq_true] at z
        exact v (e.mp ⟨z.1, of_decide_eq_true z.2⟩).2)]
      rfl
def sL (b : Int → Int) : Int := sumB (fun q => b (90 + q)) (b 2)
theorem sL_cI {b : Int → Int} {N : Int} (hb : WB b) : sL (cI b N) = sL b + lT b N := by
  have hh := hb.1
  unfold WH at hh
  unfold sL lT
  rw [cI_o (by omega) (by omega)]
  rw [← sumB_z (f := fun q => if goQ b q then LO b N q else 0) (k := b 2) (m := 8) (by omega) (by omega) (fun j j1 j2 => if_neg (fun z => by have := z.2.1; omega))]
  refine sumB_add (fun q h1 h2 => ?_)
  by_cases g : goQ b q
  · rw [if_pos g, cI_90 h1 (by omega) g]
  · rw [if_neg g, Int.add_zero]
    have := cI_f (b := b) (n := N) (q := q) (j := 4) h1 (by omega) (by omega) (by omega)
    rw [cF_g0 g] at this
    exact this
/-- the reference's cells while it waits -/
def WX (X Y : KM) (ar lo : Int) : Prop := Y.2 = X.2 ∧ (∀ a k, ¬ (a = 227 ∧ (k = 28 ∨ k = 29 ∨ k = 44 ∨ k = 45)) → Y.1 a k = X.1 a k) ∧ Y.1 227 44 = zI ar ∧ Y.1 227 45 = zI lo
theorem m_waitL {b : Int → Int} {N ar lo : Int} {X : KM} {κ : KM → Option (Int32 × KM)} (hb : WB b) (hN : b 5 + N ≤ 99999) (hN2 : N ≤ 600) : ∀ (k : Nat) (i : Int) (n : Nat) (Y : KM), 0 ≤ i → i + k = N → 60 + k < n → WX X Y (ar + cA9 b i) (lo + lT b i) → ∃ Z, lp_X12_waits_18 n 227 (zI N) (zI i) (cs Y (cI b i)) κ = κ (cs Z (cI b N)) ∧ WX X Z (ar + cA9 b N) (lo + lT b N) := by
  have hh := hb.1
  unfold WH at hh
  have i5 : 0 ≤ b 5 := by omega
  clear hh
  intro k
  induction k with
  | zero =>
    intro i n Y h1 h2 h3 h4
    obtain ⟨m, rfl⟩ : ∃ m, n = m + 1 := ⟨n - 1, by omega⟩
    have : i = N := by omega
    subst this
    refine ⟨Y, ?_, h4⟩
    rw [lp_X12_waits_18]
    simp (disch := first | omega | assumption) only [↓lt, Option.bind_some, zl, ll, zadd, zsub, zmul, zneg, ladd, lsub, lmul, lneg, zltT, zltF, zleT, zleF, zeqT, zeqF, zidx, ixT, zwide, bIT, bIF, if_true, if_false, ↓reduceIte, Nat.reduceAdd, Int.reduceAdd, Int.reduceMul, Int.reduceSub, Int.reduceNeg, cs_c, cs_o, cs_2, cu_c, cu_o, Int.cast_ofNat_Int, ps_f, ps_g, ps_w, ps_o, ps_2, pu_f, pu_g, pu_w, pu_o, uI_s, uI_o, uI_j, uI_j1, uI_j2, uI_tw, or0, true_or, or_true, false_or, or_false, nar0, nar1]
  | succ k ih =>
    intro i n Y h1 h2 h3 h4
    obtain ⟨m, rfl⟩ : ∃ m, n = m + 1 := ⟨n - 1, by omega⟩
    have hW := WB_cI' (n := i) hb h1 (by omega)
    have em := m_goesMinute (X := Y) (n := m) hW (by omega)
    rw [cI_step hb h1 (by omega)] at em
    have l1 := lT_step hb h1 (show b 5 + i < 200000 by omega)
    have a1 := cA9_st hb h1
    obtain ⟨w1, w2, w3, w4⟩ := h4
    have es : ∀ M : KM, f_X12_sizeOf m (cS (cI b i) (AG (cI b i))) M = some (zI (cdB (fun q => AG (cI b i) q && decide (thB (cI b i) q)))) := fun M => m_sizeB (by omega)
    generalize cdB (fun q => AG (cI b i) q && decide (thB (cI b i) q)) = C at *
    generalize cS (cI b i) (AG (cI b i)) = S at *
    generalize lS (cI b i) (AG (cI b i)) = T at *
    have c44 : (cl2 Y S T).1 227 44 = zI (ar + cA9 b i) := by unfold cl2; rw [uI_o (by omega), uI_o (by omega)]; exact w3
    have c45 : ∀ v, (uI (cl2 Y S T) 227 44 v).1 227 45 = zI (lo + lT b i) := fun v => by unfold cl2; rw [uI_o (by omega), uI_o (by omega), uI_o (by omega)]; exact w4
    have c29 : ∀ v, (uI (cl2 Y S T) 227 44 v).1 227 29 = zI T := fun v => by rw [uI_o (by omega)]; exact cl2_l
    have c28 : (cl2 Y S T).1 227 28 = S := cl2_c
    obtain ⟨Z, z1, z2⟩ := ih (i + 1) m (uI (uI (cl2 Y S T) 227 44 (zI (ar + cA9 b i + C))) 227 45 (zI (lo + lT b i + T))) (by omega) (by omega) (by omega) ⟨w1, fun a k h => by
      rw [uI_o (by omega), uI_o (by omega)]
      unfold cl2
      rw [uI_o (by omega), uI_o (by omega)]
      exact w2 a k h, by rw [uI_o (by omega), uI_s, ← a1, Int.add_assoc], by rw [uI_s, ← l1, Int.add_assoc]⟩
    refine ⟨Z, ?_, z2⟩
    rw [← z1, lp_X12_waits_18]
    simp (disch := first | omega | assumption) only [↓lt, zl, zleF, if_false, em, Option.bind_some, cs_o, c28, es, c44, zadd, cu_o, c45, c29]
theorem m_waits {b : Int → Int} {N mi ar lo : Int} {n : Nat} {X : KM} (hb : WB b) (hN : b 5 + N ≤ 99999) (hN1 : 1 ≤ N) (hN2 : N ≤ 600) (h43 : X.1 227 43 = zI mi) (h44 : X.1 227 44 = zI ar) (h45 : X.1 227 45 = zI lo) (hn : 700 < n) : ∃ Y, f_X12_waits n 227 (zI N) (cs X b) = some (zI 1, cs Y (cI b N)) ∧ Y.2 = X.2 ∧ (∀ a k, ¬ (a = 227 ∧ (k = 28 ∨ k = 29 ∨ k = 43 ∨ k = 44 ∨ k = 45)) → Y.1 a k = X.1 a k) ∧ Y.1 227 43 = zI (mi + N) ∧ Y.1 227 44 = zI (ar + cA9 b N) ∧ Y.1 227 45 = zI (lo + lT b N) := by
  have hh := hb.1
  unfold WH at hh
  have i5 : 0 ≤ b 5 := by omega
  clear hh
  obtain ⟨Z, z1, z2, z3, z4, z5⟩ := m_waitL (X := X) (ar := ar) (lo := lo) (κ := fun (M8 : KM) => some (zI 1, uI M8 227 43 (M8.1 227 43 + zI N))) hb hN hN2 N.toNat 0 n X (by omega) (by omega) (by omega) ⟨rfl, fun _ _ _ => rfl, by rw [cA9_0 hb, Int.add_zero]; exact h44, by rw [lT_0 hb, Int.add_zero]; exact h45⟩
  rw [cI_0 hb] at z1
  have z43 : Z.1 227 43 = zI mi := by rw [z3 227 43 (by omega)]; exact h43
  refine ⟨uI Z 227 43 (zI (mi + N)), ?_, z2, fun a k h => by rw [uI_o (by omega)]; exact z3 a k (by omega), uI_s, by rw [uI_o (by omega)]; exact z4, by rw [uI_o (by omega)]; exact z5⟩
  unfold f_X12_waits
  simp (disch := first | omega | assumption) only [↓lt, zl, ixT, if_true, zidx, Nat.reduceAdd, cs_c, zadd, zleT]
  rw [z1]
  simp (disch := first | omega | assumption) only [cs_o, z43, zadd, cu_o]
theorem m_waits_F {b : Int → Int} {N : Int} {n : Nat} {X : KM} (hb : WB b) (hN : ¬ b 5 + N ≤ 99999) (hN1 : 1 ≤ N) (hN2 : N ≤ 600) (h5 : b 5 ≤ 99999) : f_X12_waits n 227 (zI N) (cs X b) = some (zI 0, cs X b) := by
  have hh := hb.1
  unfold WH at hh
  unfold f_X12_waits
  simp (disch := first | omega | assumption) only [↓lt, zl, ixT, if_true, if_false, zidx, Nat.reduceAdd, cs_c, zadd, zleF]
theorem c_pass_F {b : Int → Int} {N : Int} {L n : Nat} {W : KM} {g : Int → Int → Int → Int} (hL : HL W L b) (hb : WB b) (hN : ¬ b 5 + N ≤ 99999) (hN1 : 1 ≤ N) (hN2 : N ≤ 600) (h5 : b 5 ≤ 99999) : f_X2_passMinutes n L (zI N) (ps W L g) = some (zI (-1), ps W L g) := by
  have q5 : W.1 L 11 = zI (b 5) := hL.2.2.2.1
  have hh := hb.1
  unfold WH at hh
  unfold f_X2_passMinutes
  simp (disch := first | omega | assumption) only [↓lt, Option.bind_some, zl, ll, zadd, zsub, zmul, zneg, ladd, lsub, lmul, lneg, zltT, zltF, zleT, zleF, zeqT, zeqF, zidx, ixT, zwide, bIT, bIF, if_true, if_false, ↓reduceIte, Nat.reduceAdd, Int.reduceAdd, Int.reduceMul, Int.reduceSub, Int.reduceNeg, cs_c, cs_o, cs_2, cu_c, cu_o, Int.cast_ofNat_Int, ps_f, ps_g, ps_w, ps_o, ps_2, pu_f, pu_g, pu_w, pu_o, uI_s, uI_o, uI_j, uI_j1, uI_j2, uI_tw, or0, true_or, or_true, false_or, or_false, nar0, nar1, q5]
theorem has2 {q i : Int} (h1 : 0 ≤ q) (h3 : 0 ≤ i) : hasS (2 ^ q.toNat) i = decide (i = q) := by
  unfold hasS
  have : ((2 : Int) ^ q.toNat).toNat = 2 ^ q.toNat := by
    have : ((2 : Int) ^ q.toNat) = ((2 ^ q.toNat : Nat) : Int) := by simp
    rw [this, Int.toNat_natCast]
  rw [this, Nat.testBit_two_pow]
  by_cases e : i = q
  · rw [e]; simp
  · simp [e]; omega
