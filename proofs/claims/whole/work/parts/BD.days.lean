/-! ===== days: the call ===== -/
theorem LOK_290 {M : KM} {L : Nat} {b b' : Int → Int} (h : ∀ z, 0 ≤ z → z < 290 → b' z = b z) (hL : LOK M L b) : LOK M L b' := by
  obtain ⟨a1, a2, a3, a4⟩ := hL
  have hh := a3.1
  unfold WH at hh
  refine ⟨HL_b a1 (fun z u v => h z u (by omega)) (by omega), GR_p a2 (h 1 (by omega) (by omega)) (h 2 (by omega) (by omega)) (fun z u v => h z (by omega) (by omega)) a3, WB_c a3 (fun z u v => h z u (by omega)), by rw [h 5 (by omega) (by omega)]; exact a4⟩
/-- what the class and the reference may have touched, reading days -/
def RdD (P : Nat) (M Y : KM) : Prop := (∀ c i, ¬ c = 8 → ¬ (P ≤ c ∧ c < P + 6) → ¬ c = 11 → ¬ (c = 0 ∧ (i = 13 ∨ i = 15 ∨ i = 16 ∨ i = 17)) → ¬ (c = 227 ∧ (i ≤ 1 ∨ (8 ≤ i ∧ i ≤ 18) ∨ i = 27)) → ¬ c = 232 → Y.1 c i = M.1 c i) ∧ (∀ c i, ¬ c = 8 → ¬ (c = 227 ∧ i = 19) → Y.2.1 c i = M.2.1 c i)
theorem days_bad {M Y : KM} {L P : Nat} {b : Int → Int} (hI : Ptr M L) (hP : M.2.2 0 12 = P) (hb : ∀ k : Nat, M.1 232 k = zI (b k)) (hL : LOK M L b) (hC : CR M L b) (hF : RdD P M Y) (hR : ∀ c i, ¬ (c = 8 ∧ i = 1) → Y.2.2 c i = M.2.2 c i) (h562 : ∀ k, k < 2248 → Y.1 232 k = M.1 232 k) (t0 : Y.1 0 13 = zI 0) (t1 : Y.1 227 8 = zI 0) (f1 : Y.1 227 10 = Y.1 0 16) (f2 : Y.1 227 11 = Y.1 0 17) (hs : Y.1 0 15 = Y.1 227 0) : Inv Y := by
  have hi := hI
  unfold Ptr at hi
  obtain ⟨f, fj⟩ := hF
  have SL : L = 23 ∨ L = 61 := by omega
  have hPS : P = 31 ∨ P = 69 ∨ P = 99 := by omega
  have hPL : (M.2.2 L 7 = 31 ∨ M.2.2 L 7 = 69 ∨ M.2.2 L 7 = 99) ∧ ¬ M.2.2 L 7 = P := by
    rcases SL with w | w
    · rw [w]; omega
    · rw [w]; omega
  have hPt : Ptr Y L := by
    clear SL hPS hPL
    unfold Ptr
    rw [hR 0 10 (by decide), hR 0 11 (by decide), hR 23 7 (by decide), hR 61 7 (by decide), hR 0 12 (by decide), hR 113 7 (by decide), hR 151 7 (by decide), hR 189 7 (by decide), hR 14 2 (by decide), hR 14 3 (by decide)]
    exact hi
  clear hi hI
  have hh0 := hL.2.2.1.1
  unfold WH at hh0
  have hh : 0 ≤ b 0 ∧ b 0 ≤ 8 ∧ 0 ≤ b 2 ∧ b 2 ≤ 8 := by clear SL hPS hPL; omega
  clear hh0
  have hC2 := hC
  obtain ⟨a1, a2, -, -, -, -, -, -, -, -, -, co, -⟩ := hC2
  refine ⟨L, fun z => if z < 2248 then b z else (Y.1 232 z.toNat).toInt, hPt, fun k => ?_, ?_, ?_, hs⟩
  · by_cases q : (k : Int) < 2248
    · simp only
      rw [if_pos q, h562 k (by omega)]; exact hb k
    · simp only
      rw [if_neg q, Int.toNat_natCast]; exact z_of _
  · exact LOK_c (b := b) (fun z u v => if_pos (by omega)) (LOK_of (fun a k x y => f a k (by omega) (by omega) (by omega) (by omega) (by omega) (by omega)) (fun a k x y => f a k (by omega) (by omega) (by omega) (by omega) (by omega) (by omega)) hL)
  · have bz : ∀ z, z < 2248 → (if z < 2248 then b z else (Y.1 232 z.toNat).toInt) = b z := fun z h => if_pos h
    refine CR_mk hC ?_ ?_ (fun a k x => f a k (by omega) (by omega) (by omega) (by omega) (by omega) (by omega)) (fun k => ⟨f _ _ (by omega) (by omega) (by omega) (by omega) (by omega) (by omega), f _ _ (by omega) (by omega) (by omega) (by omega) (by omega) (by omega)⟩) (fun a k x => fj a k (by omega) (by omega)) t0 t1 f1 f2 (fun l hl hl2 p hp => ?_) (fun z u v => bz z v)
    · exact NM_c (w := fun z => M.2.1 235 z.toNat) (fun z u v => bz z (by omega)) (fun z u v => fj _ _ (by omega) (by omega)) (by omega) (by omega) (NM_of (fun a k x y => fj a k (by omega) (by omega)) (fun _ => rfl) rfl rfl (by omega) a1)
    · rw [hR L 7 (by omega)]
      exact PR_c (fun z u v => bz z (by omega)) (PR_of (fun a k x y => f a k (by omega) (by omega) (by omega) (by omega) (by omega) (by omega)) (fun _ _ _ => rfl) rfl rfl a2)
    · rw [f _ _ (by omega) (by omega) (by omega) (by omega) (by omega) (by omega), f _ _ (by omega) (by omega) (by omega) (by omega) (by omega) (by omega)]
      exact co l hl hl2 p hp
theorem days_good {M M' Y : KM} {L P Q : Nat} {b b9 : Int → Int} {e j : Int} {q : Nat} (hI : Ptr M L) (hP : M.2.2 0 12 = P) (hQ : M.2.2 L 7 = Q) (hb : ∀ k : Nat, M.1 232 k = zI (b k)) (hL : LOK M L b) (hC : CR M L b) (hF : RdD P M Y) (hR : ∀ c i, ¬ (c = 8 ∧ i = 1) → ¬ (c = L ∧ i = 7) → ¬ (c = 0 ∧ i = 12) → Y.2.2 c i = M.2.2 c i) (hR7 : Y.2.2 L 7 = P) (hR12 : Y.2.2 0 12 = Q)
    (e0 : 0 ≤ e ∧ e ≤ 30) (j0 : 0 ≤ j ∧ j ≤ 60) (hY : ∀ a k, P ≤ a → a < P + 6 → Y.1 a k = M'.1 a k) (p5 : M'.1 P 5 = zI j) (p6 : M'.1 P 6 = zI e) (p7 : M'.1 P 7 = zI 1) (hPB : PRB M' P (dcB b9) q 3 0 e 0 j) (h9 : ∀ z, z < 2540 → b9 z = b z)
    (h290 : Y.1 232 290 = zI 1) (h291 : Y.1 232 291 = zI e) (hD : ∀ k : Nat, 292 ≤ k → (k : Int) < 292 + 9 * e → Y.1 232 k = zI (b9 (2248 + k))) (h562 : ∀ k : Nat, ¬ k = 290 → ¬ k = 291 → ¬ (292 ≤ k ∧ (k : Int) < 292 + 9 * e) → k < 2248 → Y.1 232 k = M.1 232 k) (t0 : Y.1 0 13 = zI 0) (t1 : Y.1 227 8 = zI 0) (f1 : Y.1 227 10 = Y.1 0 16) (f2 : Y.1 227 11 = Y.1 0 17) (hs : Y.1 0 15 = Y.1 227 0) : Inv Y := by
  have hi := hI
  unfold Ptr at hi
  obtain ⟨f, fj⟩ := hF
  have SL : L = 23 ∨ L = 61 := by omega
  have hPS : P = 31 ∨ P = 69 ∨ P = 99 := by omega
  have hPt : Ptr Y L := by
    unfold Ptr
    rw [hR 0 10 (by omega) (by omega) (by omega), hR 0 11 (by omega) (by omega) (by omega), hR12, hR 113 7 (by omega) (by omega) (by omega), hR 151 7 (by omega) (by omega) (by omega), hR 189 7 (by omega) (by omega) (by omega), hR 14 2 (by omega) (by omega) (by omega), hR 14 3 (by omega) (by omega) (by omega)]
    clear hPS
    rcases SL with w | w
    · subst w
      rw [hR7, hR 61 7 (by omega) (by omega) (by omega)]
      omega
    · subst w
      rw [hR7, hR 23 7 (by omega) (by omega) (by omega)]
      omega
  clear hi hI
  have hh0 := hL.2.2.1.1
  unfold WH at hh0
  have hh : 0 ≤ b 0 ∧ b 0 ≤ 8 ∧ 0 ≤ b 2 ∧ b 2 ≤ 8 := by clear SL hPS; omega
  clear hh0
  have hC2 := hC
  obtain ⟨a1, -, -, -, -, -, -, -, -, -, -, co, -⟩ := hC2
  have hbb : ∃ bb : Int → Int, (∀ z, z < 290 → bb z = b z) ∧ bb 290 = 1 ∧ bb 291 = e ∧ (∀ z, 292 ≤ z → z < 292 + 9 * e → bb z = b9 (2248 + z)) ∧ (∀ z, 562 ≤ z → z < 2248 → bb z = b z) ∧ ∀ k : Nat, Y.1 232 k = zI (bb k) := by
    refine ⟨fun z => if z = 290 then 1 else if z = 291 then e else if 292 ≤ z ∧ z < 292 + 9 * e then b9 (2248 + z) else if z < 2248 then b z else (Y.1 232 z.toNat).toInt, fun z u => ?_, ?_, ?_, fun z u v => ?_, fun z u v => ?_, fun k => ?_⟩
    · simp only
      rw [if_neg (by omega), if_neg (by omega), if_neg (by omega), if_pos (by omega)]
    · simp only
      rw [if_pos trivial]
    · simp only
      rw [if_neg (by omega), if_pos trivial]
    · simp only
      rw [if_neg (by omega), if_neg (by omega), if_pos ⟨u, v⟩]
    · simp only
      rw [if_neg (by omega), if_neg (by omega), if_neg (by omega), if_pos (by omega)]
    · simp only
      by_cases q0 : (k : Int) = 290
      · rw [if_pos q0, show k = 290 by omega]; exact h290
      · rw [if_neg q0]
        by_cases q1 : (k : Int) = 291
        · rw [if_pos q1, show k = 291 by omega]; exact h291
        · rw [if_neg q1]
          by_cases q2 : 292 ≤ (k : Int) ∧ (k : Int) < 292 + 9 * e
          · rw [if_pos q2]; exact hD k (by omega) q2.2
          · rw [if_neg q2]
            by_cases q3 : (k : Int) < 2248
            · rw [if_pos q3, h562 k (by omega) (by omega) (by omega) (by omega)]; exact hb k
            · rw [if_neg q3, Int.toNat_natCast]; exact z_of _
  obtain ⟨bb, z1, z2, z3, z4, z5, z6⟩ := hbb
  refine ⟨L, bb, hPt, z6, ?_, ?_, hs⟩
  · exact LOK_290 (b := b) (fun z u v => z1 z v) (LOK_of (fun a k x y => f a k (by omega) (by omega) (by omega) (by omega) (by omega) (by omega)) (fun a k x y => f a k (by omega) (by omega) (by omega) (by omega) (by omega) (by omega)) hL)
  · refine CR_mk hC ?_ ?_ (fun a k x => f a k (by omega) (by omega) (by omega) (by omega) (by omega) (by omega)) (fun k => ⟨f _ _ (by omega) (by omega) (by omega) (by omega) (by omega) (by omega), f _ _ (by omega) (by omega) (by omega) (by omega) (by omega) (by omega)⟩) (fun a k x => fj a k (by omega) (by omega)) t0 t1 f1 f2 (fun l hl hl2 p hp => ?_) z5
    · exact NM_of (M := M) (fun a k x y => fj a k (by omega) (by omega)) (fun z => fj _ _ (by omega) (by omega)) (z1 0 (by omega)) (z1 2 (by omega)) (by omega) a1
    · rw [hR7]
      refine ⟨j, by omega, by omega, by rw [z3]; omega, by rw [z3]; omega, by rw [z2]; omega, by rw [z2]; omega, by rw [hY _ _ (by omega) (by omega)]; exact p5, by rw [z3, hY _ _ (by omega) (by omega)]; exact p6, by rw [z2, hY _ _ (by omega) (by omega)]; exact p7, ?_⟩
      rw [z3]
      refine PRB_loc (M := M') (c := dcB b9) (s0 := 0) (e0 := e) (i0 := 0) (j0 := j) (fun a k u v w x => hY a k (by omega) v) (fun z u v => ?_) ?_ ?_ (by omega) 61 3 0 e 0 j (by omega) (by omega) (by omega) (by omega) (PRB_n q 61 3 0 e 0 j (by omega) hPB)
      · rw [dc_at (by omega)]; exact z4 z (by omega) v
      · rw [dc_lo (by omega), z1 0 (by omega), h9 0 (by omega)]
      · rw [dc_lo (by omega), z1 2 (by omega), h9 2 (by omega)]
    · rw [f _ _ (by omega) (by omega) (by omega) (by omega) (by omega) (by omega), f _ _ (by omega) (by omega) (by omega) (by omega) (by omega) (by omega)]
      exact co l hl hl2 p hp
theorem fI_dy : ∀ (k : Nat) (i : Int) (w : Int → Int) (z : Int), 0 ≤ i → i + k ≤ 270 → fI (fun i w => bu w (292 + i) (w (2540 + i))) k i w z = if 292 + i ≤ z ∧ z < 292 + i + k then w (z + 2248) else w z := by
  intro k
  induction k with
  | zero => intro i w z h1 h2; rw [if_neg (by omega)]; rfl
  | succ k ih =>
    intro i w z h1 h2
    simp only [fI]
    rw [ih (i + 1) _ z (by omega) (by omega)]
    by_cases q : 292 + (i + 1) ≤ z ∧ z < 292 + (i + 1) + k
    · rw [if_pos q, if_pos (by omega), bu_o (by omega)]
    · rw [if_neg q]
      by_cases e : z = 292 + i
      · rw [e, bu_s, if_pos (by omega), show 292 + i + 2248 = 2540 + i by omega]
      · rw [bu_o e, if_neg (by omega)]
theorem m_days82 {X : KM} {b : Int → Int} {e : Int} {n : Nat} (h27 : X.1 227 27 = zI e) (e0 : 0 ≤ e) (e30 : e ≤ 30) (hn : 300 < n) : lp_X12_days_82 n 227 (zI 0) (cs X b) = some (zI e, cs X (fI (fun i w => bu w (292 + i) (w (2540 + i))) (9 * e).toNat 0 b)) := by
  refine (loop_f (lp := fun k i w => lp_X12_days_82 k 227 i (cs X w)) (f := fun i w => bu w (292 + i) (w (2540 + i))) (fin := fun w => some (zI e, cs X w)) (fun _ _ => True) (N := 1) (R := 9 * e) (fun k i w hk u v _ => ⟨?_, trivial⟩) (fun k w _ _ => ?_) (9 * e).toNat 0 b n (by omega) (by omega) (by omega) trivial).1
  · rw [lp_X12_days_82]
    simp (disch := first | omega | assumption) only [↓lt, Option.bind_some, zl, ll, zadd, zsub, zmul, zneg, ladd, lsub, lmul, lneg, zltT, zltF, zleT, zleF, zeqT, zeqF, zidx, ixT, zwide, bIT, bIF, if_true, if_false, ↓reduceIte, Nat.reduceAdd, Int.reduceAdd, Int.reduceMul, Int.reduceSub, Int.reduceNeg, cs_c, cs_o, cs_2, cu_c, cu_o, Int.cast_ofNat_Int, ps_f, ps_g, ps_w, ps_o, ps_2, pu_f, pu_g, pu_w, pu_o, uI_s, uI_o, uI_j, uI_j1, uI_j2, uI_tw, or0, true_or, or_true, false_or, or_false, nar0, nar1, h27]
  · rw [lp_X12_days_82]
    simp (disch := first | omega | assumption) only [↓lt, Option.bind_some, zl, ll, zadd, zsub, zmul, zneg, ladd, lsub, lmul, lneg, zltT, zltF, zleT, zleF, zeqT, zeqF, zidx, ixT, zwide, bIT, bIF, if_true, if_false, ↓reduceIte, Nat.reduceAdd, Int.reduceAdd, Int.reduceMul, Int.reduceSub, Int.reduceNeg, cs_c, cs_o, cs_2, cu_c, cu_o, Int.cast_ofNat_Int, ps_f, ps_g, ps_w, ps_o, ps_2, pu_f, pu_g, pu_w, pu_o, uI_s, uI_o, uI_j, uI_j1, uI_j2, uI_tw, or0, true_or, or_true, false_or, or_false, nar0, nar1, h27]
