/-! ===== days: sizes of sets; a wait ===== -/
theorem sb8_n : ∀ p0 p1 p2 p3 p4 p5 p6 p7 : Bool, 0 ≤ (sb8 p0 p1 p2 p3 p4 p5 p6 p7).toInt ∧ (sb8 p0 p1 p2 p3 p4 p5 p6 p7).toInt < 256 ∧ szS (sb8 p0 p1 p2 p3 p4 p5 p6 p7).toInt = (if p0 = true then 1 else 0) + (if p1 = true then 1 else 0) + (if p2 = true then 1 else 0) + (if p3 = true then 1 else 0) + (if p4 = true then 1 else 0) + (if p5 = true then 1 else 0) + (if p6 = true then 1 else 0) + (if p7 = true then 1 else 0) := by decide +kernel
theorem szB (P : Int → Bool) : ∃ s, 0 ≤ s ∧ s < 256 ∧ setB P 8 = zI s ∧ szS s = cdB P := by
  have e := sb8_n (P 0) (P 1) (P 2) (P 3) (P 4) (P 5) (P 6) (P 7)
  rw [← sb8_of P] at e
  refine ⟨(setB P 8).toInt, e.1, e.2.1, z_of _, ?_⟩
  rw [e.2.2]
  unfold cdB
  rw [sum8]
theorem c_bitB {P : Int → Bool} {M : KM} : f_J6_bitCount_0f7a4 (setB P 8) M = zI (cdB P) := by
  obtain ⟨s, s1, s2, s3, s4⟩ := szB P
  rw [s3, c_bitCount s1 s2, s4]
def cA9 (b : Int → Int) (t : Int) : Int := cdB (fun q => decide (arQ b t q))
theorem cA9_0 {b : Int → Int} (hb : WB b) : cA9 b 0 = 0 := by
  unfold cA9 cdB
  exact sum_0 (fun q _ _ => if_neg (fun z => ar_0 hb (of_decide_eq_true z)))
theorem cA9_st {b : Int → Int} {t : Int} (hb : WB b) (ht : 0 ≤ t) : cA9 b t + cdB (fun q => AG (cI b t) q && decide (thB (cI b t) q)) = cA9 b (t + 1) := by
  unfold cA9 cdB
  refine (sumB_add (fun q h1 h2 => ?_)).symm
  have e := T_c (q := q) hb ht h1 h2
  have u := ar_up (q := q) hb ht
  by_cases w : arQ b t q
  · rw [if_pos (decide_eq_true (u w)), if_pos (decide_eq_true w), if_neg (fun z => by
      rw [Bool.and_eq_true] at z
      exact (e.mp ⟨z.1, of_decide_eq_true z.2⟩).1 w)]
    rfl
  · by_cases v : arQ b (t + 1) q
    · have z := e.mpr ⟨w, v⟩
      rw [if_pos (decide_eq_true v), if_neg (fun y => w (of_decide_eq_true y)), if_pos (by rw [Bool.and_eq_true]; exact ⟨z.1, decide_eq_true z.2⟩)]
      rfl
    · rw [if_neg (fun y => v (of_decide_eq_true y)), if_neg (fun y => w (of_decide_eq_true y)), if_neg (fun z => by
        rw [Bool.and_eq_true] at z
        exact v (e.mp ⟨z.1, of_decide_eq_true z.2⟩).2)]
      rfl
def sL (b : Int → Int) : Int := sumB (fun q => b (90 + q)) (b 2)
theorem sL_cI {b : Int → Int} {N : Int} (hb : WB b) : sL (cI b N) = sL b + lT b N := by
  have hh := hb.1
  unfold WH at hh
  unfold sL lT
  rw [cI_o (by omega) (by omega)]
  rw [← sumB_z (f := fun q => if goQ b q then LO b N q else 0) (k := b 2) (m := 8) (by omega) (by omega) (fun j j1 j2 => if_neg (fun z => by have := z.2.1; omega))]
  refine sumB_add (fun q h1 h2 => ?_)
  by_cases g : goQ b q
  · rw [if_pos g, cI_90 h1 (by omega) g]
  · rw [if_neg g, Int.add_zero]
    have := cI_f (b := b) (n := N) (q := q) (j := 4) h1 (by omega) (by omega) (by omega)
    rw [cF_g0 g] at this
    exact this
/-- the reference's cells while it waits -/
def WX (X Y : KM) (ar lo : Int) : Prop := Y.2 = X.2 ∧ (∀ a k, ¬ (a = 227 ∧ (k = 28 ∨ k = 29 ∨ k = 44 ∨ k = 45)) → Y.1 a k = X.1 a k) ∧ Y.1 227 44 = zI ar ∧ Y.1 227 45 = zI lo
theorem c_pass_F {b : Int → Int} {N : Int} {L n : Nat} {W : KM} {g : Int → Int → Int → Int} (hL : HL W L b) (hb : WB b) (hN : ¬ b 5 + N ≤ 99999) (hN1 : 1 ≤ N) (hN2 : N ≤ 600) (h5 : b 5 ≤ 99999) : f_X2_passMinutes n L (zI N) (ps W L g) = some (zI (-1), ps W L g) := by
  have q5 : W.1 L 11 = zI (b 5) := hL.2.2.2.1
  have hh := hb.1
  unfold WH at hh
  unfold f_X2_passMinutes
  simp (disch := first | omega | assumption) only [↓lt, Option.bind_some, zl, ll, zadd, zsub, zmul, zneg, ladd, lsub, lmul, lneg, zltT, zltF, zleT, zleF, zeqT, zeqF, zidx, ixT, zwide, bIT, bIF, if_true, if_false, ↓reduceIte, Nat.reduceAdd, Int.reduceAdd, Int.reduceMul, Int.reduceSub, Int.reduceNeg, cs_c, cs_o, cs_2, cu_c, cu_o, Int.cast_ofNat_Int, ps_f, ps_g, ps_w, ps_o, ps_2, pu_f, pu_g, pu_w, pu_o, uI_s, uI_o, uI_j, uI_j1, uI_j2, uI_tw, or0, true_or, or_true, false_or, or_false, nar0, nar1, q5]
theorem has2 {q i : Int} (h1 : 0 ≤ q) (h3 : 0 ≤ i) : hasS (2 ^ q.toNat) i = decide (i = q) := by
  unfold hasS
  have : ((2 : Int) ^ q.toNat).toNat = 2 ^ q.toNat := by
    have : ((2 : Int) ^ q.toNat) = ((2 ^ q.toNat : Nat) : Int) := by simp
    rw [this, Int.toNat_natCast]
  rw [this, Nat.testBit_two_pow]
  by_cases e : i = q
  · rw [e]; simp
  · simp [e]; omega

