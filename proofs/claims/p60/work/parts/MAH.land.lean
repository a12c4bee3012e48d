/-! ===== land: the call ===== -/
theorem LB_LOK {S : Nat} {b : Int → Int} {M X : KM} (h : LB S b M X) : LOK M S (sh b 2248) := by
  obtain ⟨a1, a2, a3, a4, a5, a6, a7, a8, a9, a10⟩ := h
  have hw := CB_WB a2
  obtain ⟨h1, h2, h3, h4, h5, h6⟩ := a2
  refine ⟨a3, ⟨fun p u v => ?_, fun p r u v w x => ?_, fun p q u v w x => ?_, fun p u v => ?_⟩, hw.1, hw.2⟩
  · obtain ⟨q3, q4, q5, q6, q7, q8, q9, q10, q11, qg, qo⟩ := a4 p u v
    have hp := h4 p u (by omega)
    have e : ∀ k : Int, pg M S p 0 k = (M.1 (S + 14 + 3 * p.toNat) k.toNat).toInt := fun k => rfl
    unfold GP
    rw [e 3, e 4, e 5, e 6, e 7, e 8, e 9, e 10, e 11]
    rw [show (3 : Int).toNat = 3 from rfl, show (4 : Int).toNat = 4 from rfl, show (5 : Int).toNat = 5 from rfl, show (6 : Int).toNat = 6 from rfl, show (7 : Int).toNat = 7 from rfl, show (8 : Int).toNat = 8 from rfl, show (9 : Int).toNat = 9 from rfl, show (10 : Int).toNat = 10 from rfl, show (11 : Int).toNat = 11 from rfl, q3, q4, q5, q6, q7, q8, q9, q10, q11]
    have hx := hp.2.2.2.2.2.2.2.2.1 v
    rw [zI_toInt (by omega) (by omega), zI_toInt (by omega) (by omega), zI_toInt (by omega) (by omega), zI_toInt (by omega) (by omega), zI_toInt (by omega) (by omega)]
    omega
  · obtain ⟨q3, q4, q5, q6, q7, q8, q9, q10, q11, qg, qo⟩ := a4 p u v
    have := h5 p r u (by omega) w (by omega)
    show (M.1 (S + 14 + 3 * p.toNat + 1) r.toNat).toInt = _
    rw [qg r w (by omega), zI_toInt (by omega) (by omega)]
  · obtain ⟨q3, q4, q5, q6, q7, q8, q9, q10, q11, qg, qo⟩ := a4 p u v
    show (M.1 (S + 14 + 3 * p.toNat + 2) q.toNat).toInt = _
    rw [qo q w (by omega), h6 _ (by omega) (by omega), zI_toInt (by omega) (by omega)]
  · have := a5 p.toNat (by omega)
    have e : ∀ k : Int, pg M S p 0 k = (M.1 (S + 14 + 3 * p.toNat) k.toNat).toInt := fun k => rfl
    rw [e 3, e 4, show (3 : Int).toNat = 3 from rfl, show (4 : Int).toNat = 4 from rfl]
    have f : ∀ x : Int32, (x = zI 0 ∨ x = zI 1) → x.toInt = 0 ∨ x.toInt = 1 := fun x h => by
      rcases h with h | h
      · exact Or.inl (by rw [h, zI_toInt (by omega) (by omega)])
      · exact Or.inr (by rw [h, zI_toInt (by omega) (by omega)])
    exact ⟨f _ this.1, f _ this.2⟩
/-- what the class and the reference may have touched, reading -/
def RdF (S P : Nat) (M Y : KM) : Prop := (∀ c i, ¬ c = 5 → ¬ (S ≤ c ∧ c < S + 38 ∧ ¬ (S + 8 ≤ c ∧ c < S + 14)) → ¬ c = P → ¬ (c = 0 ∧ (i = 13 ∨ i = 15 ∨ i = 16 ∨ i = 17)) → ¬ (c = 227 ∧ (i ≤ 1 ∨ (8 ≤ i ∧ i ≤ 18) ∨ i = 25 ∨ i = 26)) → ¬ (c = 232 ∧ (2248 ≤ i ∨ i < 562)) → Y.1 c i = M.1 c i) ∧ (∀ c i, ¬ c = 5 → ¬ (S ≤ c ∧ c < S + 38 ∧ ¬ (S + 8 ≤ c ∧ c < S + 14)) → ¬ (c = 227 ∧ i = 19) → ¬ (c = 235 ∧ (64 ≤ i ∨ i < 16)) → Y.2.1 c i = M.2.1 c i)
theorem land_bad {M Y : KM} {L S P : Nat} {b : Int → Int} (hI : Ptr M L) (hS : M.2.2 0 11 = S) (hP : M.2.2 S 7 = P) (hb : ∀ k : Nat, M.1 232 k = zI (b k)) (hL : LOK M L b) (hC : CR M L b) (hF : RdF S P M Y) (hR : ∀ c i, ¬ (c = 5 ∧ i = 1) → Y.2.2 c i = M.2.2 c i) (h562 : ∀ k, k < 2248 → Y.1 232 k = M.1 232 k) (hw : ∀ k, k < 64 → Y.2.1 235 k = M.2.1 235 k) (t0 : Y.1 0 13 = zI 0) (t1 : Y.1 227 8 = zI 0) (f1 : Y.1 227 10 = Y.1 0 16) (f2 : Y.1 227 11 = Y.1 0 17) (h01 : P01 Y S) (hs : Y.1 0 15 = Y.1 227 0) : Inv Y := by
  have hi := hI
  unfold Ptr at hi
  obtain ⟨f, fj⟩ := hF
  have SL : (S = 61 ∧ L = 23) ∨ (S = 23 ∧ L = 61) := by omega
  have hPS : P = 31 ∨ P = 69 ∨ P = 99 := by
    rcases SL with ⟨w, -⟩ | ⟨w, -⟩
    · rw [w] at hP; omega
    · rw [w] at hP; omega
  have hPL : (M.2.2 L 7 = 31 ∨ M.2.2 L 7 = 69 ∨ M.2.2 L 7 = 99) ∧ ¬ M.2.2 L 7 = P := by
    rcases SL with ⟨w, w2⟩ | ⟨w, w2⟩
    · rw [w] at hP; rw [w2]; omega
    · rw [w] at hP; rw [w2]; omega
  have hPt : Ptr Y L := by
    clear SL hPS hPL
    unfold Ptr
    rw [hR 0 10 (by decide), hR 0 11 (by decide), hR 23 7 (by decide), hR 61 7 (by decide), hR 0 12 (by decide), hR 113 7 (by decide), hR 151 7 (by decide), hR 189 7 (by decide), hR 14 2 (by decide), hR 14 3 (by decide)]
    exact hi
  clear hi hI
  have hh0 := hL.2.2.1.1
  unfold WH at hh0
  have hh : 0 ≤ b 0 ∧ b 0 ≤ 8 ∧ 0 ≤ b 2 ∧ b 2 ≤ 8 := by clear SL hPS hPL; omega
  clear hh0
  have hC2 := hC
  obtain ⟨a1, a2, -, -, -, -, -, -, -, -, -, co, -⟩ := hC2
  refine ⟨L, fun z => if z < 2248 then b z else (Y.1 232 z.toNat).toInt, hPt, fun k => ?_, ?_, ?_, hs⟩
  · by_cases q : (k : Int) < 2248
    · simp only
      rw [if_pos q, h562 k (by omega)]; exact hb k
    · simp only
      rw [if_neg q, Int.toNat_natCast]; exact z_of _
  · exact LOK_c (b := b) (fun z u v => if_pos (by omega)) (LOK_of (fun a k x y => f a k (by omega) (by omega) (by omega) (by omega) (by omega) (by omega)) (fun a k x y => f a k (by omega) (by omega) (by omega) (by omega) (by omega) (by omega)) hL)
  · have bz : ∀ z, z < 2248 → (if z < 2248 then b z else (Y.1 232 z.toNat).toInt) = b z := fun z h => if_pos h
    refine CR_mk hC ?_ ?_ (fun a k x => f a k (by omega) (by omega) (by omega) (by omega) (by omega) (by omega)) (fun k => ⟨f _ _ (by omega) (by omega) (by omega) (by omega) (by omega) (by omega), f _ _ (by omega) (by omega) (by omega) (by omega) (by omega) (by omega)⟩) (fun a k x => fj a k (by omega) (by omega) (by omega) (by omega)) t0 t1 f1 f2 (fun l hl hl2 p hp => ?_) (fun z u v => bz z v)
    · exact NM_c (w := fun z => M.2.1 235 z.toNat) (fun z u v => bz z (by omega)) (fun z u v => hw _ (by omega)) (by omega) (by omega) (NM_of (fun a k x y => fj a k (by omega) (by omega) (by omega) (by omega)) (fun _ => rfl) rfl rfl (by omega) a1)
    · rw [hR L 7 (by omega)]
      exact PR_c (fun z u v => bz z (by omega)) (PR_of (fun a k x y => f a k (by omega) (by omega) (by omega) (by omega) (by omega) (by omega)) (fun _ _ _ => rfl) rfl rfl a2)
    · by_cases q : l = S
      · rw [q]; exact h01 p hp
      · rw [f _ _ (by omega) (by omega) (by omega) (by omega) (by omega) (by omega), f _ _ (by omega) (by omega) (by omega) (by omega) (by omega) (by omega)]
        exact co l hl hl2 p hp
theorem land_good {M M' X' Y : KM} {L S P : Nat} {b b9 : Int → Int} (hI : Ptr M L) (hS : M.2.2 0 11 = S) (hP : M.2.2 S 7 = P) (hb : ∀ k : Nat, M.1 232 k = zI (b k)) (hL : LOK M L b) (hC : CR M L b) (hF : RdF S P M Y) (hR : ∀ c i, ¬ (c = 5 ∧ i = 1) → ¬ (c = 0 ∧ (i = 10 ∨ i = 11)) → Y.2.2 c i = M.2.2 c i) (h10 : Y.2.2 0 10 = S) (h11 : Y.2.2 0 11 = L) (hB : LB S b9 M' X') (hPM : M'.2.2 S 7 = P) (hY : ∀ c i, 23 ≤ c → c < 105 → Y.1 c i = M'.1 c i) (hYj : ∀ c i, 23 ≤ c → c < 105 → Y.2.1 c i = M'.2.1 c i)
    (h0 : ∀ k, k < 562 → Y.1 232 k = X'.1 232 (k + 2248)) (h562 : ∀ k, 562 ≤ k → k < 2248 → Y.1 232 k = M.1 232 k) (hw0 : ∀ k, k < 16 → Y.2.1 235 k = X'.2.1 235 (k + 64)) (t0 : Y.1 0 13 = zI 0) (t1 : Y.1 227 8 = zI 0) (f1 : Y.1 227 10 = Y.1 0 16) (f2 : Y.1 227 11 = Y.1 0 17) (hs : Y.1 0 15 = Y.1 227 0) : Inv Y := by
  have hi := hI
  unfold Ptr at hi
  obtain ⟨f, fj⟩ := hF
  have SL : (S = 61 ∧ L = 23) ∨ (S = 23 ∧ L = 61) := by omega
  have hPS : P = 31 ∨ P = 69 ∨ P = 99 := by
    rcases SL with ⟨w, -⟩ | ⟨w, -⟩
    · rw [w] at hP; omega
    · rw [w] at hP; omega
  have hPt : Ptr Y S := by
    unfold Ptr
    rw [h10, h11, hR 23 7 (by decide) (by decide), hR 61 7 (by decide) (by decide), hR 0 12 (by decide) (by decide), hR 113 7 (by decide) (by decide), hR 151 7 (by decide) (by decide), hR 189 7 (by decide) (by decide), hR 14 2 (by decide) (by decide), hR 14 3 (by decide) (by decide)]
    clear hPS
    omega
  clear hi hI
  have hK := LB_LOK hB
  obtain ⟨l1, l2, l3, l4, l5, l6, l7, l8, l9, l10⟩ := hB
  have hh0 := l2.1
  have hh : 0 ≤ sh b9 2248 0 ∧ sh b9 2248 0 ≤ 8 ∧ 0 ≤ sh b9 2248 2 ∧ sh b9 2248 2 ≤ 8 := by clear SL hPS; omega
  clear hh0
  have lz := l2.2.2.2.2.2
  have h01 := LOK_01 hL
  have hC2 := hC
  obtain ⟨-, -, -, -, -, -, -, -, -, -, -, co, -⟩ := hC2
  have hbb : ∃ bb : Int → Int, (∀ z, 0 ≤ z → z < 562 → bb z = sh b9 2248 z) ∧ (∀ z, 562 ≤ z → z < 2248 → bb z = b z) ∧ ∀ k : Nat, Y.1 232 k = zI (bb k) := by
    refine ⟨fun z => if z < 562 then sh b9 2248 z else if z < 2248 then b z else (Y.1 232 z.toNat).toInt, fun z u v => if_pos v, fun z u v => ?_, fun k => ?_⟩
    · simp only
      rw [if_neg (by omega), if_pos v]
    · simp only
      by_cases q0 : (k : Int) < 562
      · rw [if_pos q0, h0 k (by omega), l1, sh_at (by omega) q0, show ((k + 2248 : Nat) : Int) = 2248 + (k : Int) by omega]
      · rw [if_neg q0]
        by_cases q : (k : Int) < 2248
        · rw [if_pos q, h562 k (by omega) (by omega)]; exact hb k
        · rw [if_neg q, Int.toNat_natCast]; exact z_of _
  obtain ⟨bb, bz, bz2, bz3⟩ := hbb
  refine ⟨S, bb, hPt, bz3, ?_, ?_, hs⟩
  · exact LOK_c (b := sh b9 2248) bz (LOK_of (fun a k x y => hY a k (by omega) (by omega)) (fun a k x y => hY a k (by omega) (by omega)) hK)
  · refine CR_mk hC ?_ ?_ (fun a k x => f a k (by omega) (by omega) (by omega) (by omega) (by omega) (by omega)) (fun k => ⟨f _ _ (by omega) (by omega) (by omega) (by omega) (by omega) (by omega), f _ _ (by omega) (by omega) (by omega) (by omega) (by omega) (by omega)⟩) (fun a k x => fj a k (by omega) (by omega) (by omega) (by omega)) t0 t1 f1 f2 (fun l hl hl2 p hp => ?_) bz2
    · refine NM_c (b := sh b9 2248) (w := fun z => Y.2.1 235 z.toNat) bz (fun _ _ _ => rfl) (by omega) (by omega) ⟨fun k u v => ?_, fun k u v => ?_⟩
      · rw [hYj _ _ (by omega) (by omega), l6 k u v]
        show _ = Y.2.1 235 k.toNat
        rw [hw0 _ (by omega), show (64 + k).toNat = k.toNat + 64 by omega]
      · rw [show S + 6 + 8 + 3 * k.toNat = S + 14 + 3 * k.toNat by omega, hYj _ _ (by omega) (by omega), l7 k u v]
        show _ = Y.2.1 235 (8 + k).toNat
        rw [hw0 _ (by omega), show (72 + k).toNat = (8 + k).toNat + 64 by omega]
    · rw [hR S 7 (by omega) (by omega), hP]
      rw [hPM] at l8 l9 l10
      have z291 := lz 291 (by omega) (by omega)
      have z290 := lz 290 (by omega) (by omega)
      refine ⟨0, by omega, by omega, ?_, ?_, ?_, ?_, ?_, ?_, ?_, Or.inl ⟨?_, rfl⟩⟩
      · rw [bz 291 (by omega) (by omega), z291]; omega
      · rw [bz 291 (by omega) (by omega), z291]; omega
      · rw [bz 290 (by omega) (by omega), z290]; omega
      · rw [bz 290 (by omega) (by omega), z290]; omega
      · rw [hY _ _ (by omega) (by omega)]; exact l8
      · rw [hY _ _ (by omega) (by omega), bz 291 (by omega) (by omega), z291]; exact l9
      · rw [hY _ _ (by omega) (by omega), bz 290 (by omega) (by omega), z290]; exact l10
      · rw [bz 291 (by omega) (by omega), z291]
    · by_cases q : l = L
      · rw [q, f _ _ (by omega) (by omega) (by omega) (by omega) (by omega) (by omega), f _ _ (by omega) (by omega) (by omega) (by omega) (by omega) (by omega)]
        exact h01 p hp
      · rw [f _ _ (by omega) (by omega) (by omega) (by omega) (by omega) (by omega), f _ _ (by omega) (by omega) (by omega) (by omega) (by omega) (by omega)]
        exact co l hl q p hp

