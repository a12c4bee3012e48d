/-! ===== a land is copied to another one: the class ===== -/
theorem uIs_r {M : KM} {a c k : Nat} {f : Nat → Int32} : (uIs M a f).1 c k = if c = a then f k else M.1 c k := by
  show (if c = a then f else M.1 c) k = _
  by_cases e : c = a
  · rw [if_pos e, if_pos e]
  · rw [if_neg e, if_neg e]
theorem uIs_ro {M : KM} {a c k : Nat} {f : Nat → Int32} (h : ¬ c = a) : (uIs M a f).1 c k = M.1 c k := by rw [uIs_r, if_neg h]
theorem uIs_rs {M : KM} {a k : Nat} {f : Nat → Int32} : (uIs M a f).1 a k = f k := by rw [uIs_r, if_pos rfl]
theorem uIs_2 {M : KM} {a : Nat} {f : Nat → Int32} : (uIs M a f).2 = M.2 := rfl
theorem uJs_1 {M : KM} {a : Nat} {f : Nat → Int64} : (uJs M a f).1 = M.1 := rfl
theorem uJs_22 {M : KM} {a : Nat} {f : Nat → Int64} : (uJs M a f).2.2 = M.2.2 := rfl
theorem uJs_ro {M : KM} {a c k : Nat} {f : Nat → Int64} (h : ¬ c = a) : (uJs M a f).2.1 c k = M.2.1 c k := by
  show (if c = a then f else M.2.1 c) k = _
  rw [if_neg h]
theorem uJs_rs {M : KM} {a k : Nat} {f : Nat → Int64} : (uJs M a f).2.1 a k = f k := by
  show (if a = a then f else M.2.1 a) k = _
  rw [if_pos rfl]
theorem uIs_row {M : KM} {a c : Nat} {f : Nat → Int32} (h : ¬ c = a) : (uIs M a f).1 c = M.1 c := by
  show (if c = a then f else M.1 c) = _
  rw [if_neg h]
theorem cpy_at {α : Type} {f g : Nat → α} {n k : Nat} (h : k < n) : va_cpy f g 0 0 n k = f k := by
  unfold va_cpy
  rw [if_pos (by omega), show 0 + (k - 0) = k by omega]
theorem cgE12 : (¬ (zI 0 < zI 0) ∧ ¬ (zI 0 < zI 0) ∧ ¬ (zI 12 < zI 0) ∧ (zI 0).toNatClampNeg + (zI 12).toNatClampNeg ≤ 12 ∧ (zI 0).toNatClampNeg + (zI 12).toNatClampNeg ≤ 12) = True := eq_true (by decide)
theorem cgE8 : (¬ (zI 0 < zI 0) ∧ ¬ (zI 0 < zI 0) ∧ ¬ (zI 8 < zI 0) ∧ (zI 0).toNatClampNeg + (zI 8).toNatClampNeg ≤ 8 ∧ (zI 0).toNatClampNeg + (zI 8).toNatClampNeg ≤ 8) = True := eq_true (by decide)
theorem cgE60 : (¬ (zI 0 < zI 0) ∧ ¬ (zI 0 < zI 0) ∧ ¬ (zI 60 < zI 0) ∧ (zI 0).toNatClampNeg + (zI 60).toNatClampNeg ≤ 60 ∧ (zI 0).toNatClampNeg + (zI 60).toNatClampNeg ≤ 60) = True := eq_true (by decide)
theorem ct0 : (zI 0).toNatClampNeg = 0 := rfl
theorem ct8 : (zI 8).toNatClampNeg = 8 := rfl
theorem ct12 : (zI 12).toNatClampNeg = 12 := rfl
theorem ct60 : (zI 60).toNatClampNeg = 60 := rfl
def pC (M : KM) (D S : Nat) : KM :=
  let M2 := uIs M (D + 1) (va_cpy (M.1 (S + 1)) (M.1 (D + 1)) 0 0 12)
  let M4 := uIs M2 (D + 2) (va_cpy (M.1 (S + 2)) (M.1 (D + 2)) 0 0 8)
  let M5 := uJ M4 D 2 (M.2.1 S 2)
  uI (uI (uI (uI (uI (uI (uI (uI (uI M5 D 3 (M.1 S 3)) D 4 (M.1 S 4)) D 5 (M.1 S 5)) D 6 (M.1 S 6)) D 7 (M.1 S 7)) D 8 (M.1 S 8)) D 9 (M.1 S 9)) D 10 (M.1 S 10)) D 11 (M.1 S 11)
theorem c_personCopy {M : KM} {D S n : Nat} (hd : D + 3 ≤ S ∨ S + 3 ≤ D) (h3 : M.1 S 3 = zI 0 ∨ M.1 S 3 = zI 1) (h4 : M.1 S 4 = zI 0 ∨ M.1 S 4 = zI 1) : f_X7_copyFrom n D S M = some (pC M D S) := by
  have n1 : ¬ S = D := by omega
  have n2 : ¬ S = D + 1 := by omega
  have n3 : ¬ S = D + 2 := by omega
  have n4 : ¬ S + 2 = D + 1 := by omega
  have n5 : ¬ D + 2 = D + 1 := by omega
  have rI : ∀ (K : KM) (k j : Nat) (v : Int32), (uI K D k v).1 S j = K.1 S j := fun K k j v => uI_o (fun z => n1 z.1)
  unfold f_X7_copyFrom pC
  simp only [zl] at *
  simp only [↓lt, ↓cgE12, ↓cgE8, if_true, ct0, ct8, ct12, rI, uJ_i, uIs_ro n2, uIs_ro n3, uIs_row n4, uIs_row n5, if_pos h3, if_pos h4, uIs_2]
theorem pC_2 {M : KM} {D S : Nat} : (pC M D S).2.2 = M.2.2 := rfl
theorem pC_o {M : KM} {D S a k : Nat} (h : ¬ (D ≤ a ∧ a < D + 3)) : (pC M D S).1 a k = M.1 a k := by
  unfold pC
  simp only
  rw [uI_o (by omega), uI_o (by omega), uI_o (by omega), uI_o (by omega), uI_o (by omega), uI_o (by omega), uI_o (by omega), uI_o (by omega), uI_o (by omega), uJ_i, uIs_ro (by omega), uIs_ro (by omega)]
theorem pC_J {M : KM} {D S a k : Nat} (h : ¬ (a = D ∧ k = 2)) : (pC M D S).2.1 a k = M.2.1 a k := by
  unfold pC
  show (uJ _ D 2 _).2.1 a k = _
  rw [uJ_o h]
  rfl
theorem pC_Js {M : KM} {D S : Nat} : (pC M D S).2.1 D 2 = M.2.1 S 2 := by
  unfold pC
  show (uJ _ D 2 _).2.1 D 2 = _
  rw [uJ_s]
theorem pC_f {M : KM} {D S k : Nat} (h1 : 3 ≤ k) (h2 : k ≤ 11) : (pC M D S).1 D k = M.1 S k := by
  have : k = 3 ∨ k = 4 ∨ k = 5 ∨ k = 6 ∨ k = 7 ∨ k = 8 ∨ k = 9 ∨ k = 10 ∨ k = 11 := by omega
  unfold pC
  simp only
  rcases this with rfl | rfl | rfl | rfl | rfl | rfl | rfl | rfl | rfl
  · rw [uI_o (by omega), uI_o (by omega), uI_o (by omega), uI_o (by omega), uI_o (by omega), uI_o (by omega), uI_o (by omega), uI_o (by omega), uI_s]
  · rw [uI_o (by omega), uI_o (by omega), uI_o (by omega), uI_o (by omega), uI_o (by omega), uI_o (by omega), uI_o (by omega), uI_s]
  · rw [uI_o (by omega), uI_o (by omega), uI_o (by omega), uI_o (by omega), uI_o (by omega), uI_o (by omega), uI_s]
  · rw [uI_o (by omega), uI_o (by omega), uI_o (by omega), uI_o (by omega), uI_o (by omega), uI_s]
  · rw [uI_o (by omega), uI_o (by omega), uI_o (by omega), uI_o (by omega), uI_s]
  · rw [uI_o (by omega), uI_o (by omega), uI_o (by omega), uI_s]
  · rw [uI_o (by omega), uI_o (by omega), uI_s]
  · rw [uI_o (by omega), uI_s]
  · rw [uI_s]
theorem pC_1 {M : KM} {D S k : Nat} (h : k < 12) : (pC M D S).1 (D + 1) k = M.1 (S + 1) k := by
  unfold pC
  simp only
  rw [uI_o (by omega), uI_o (by omega), uI_o (by omega), uI_o (by omega), uI_o (by omega), uI_o (by omega), uI_o (by omega), uI_o (by omega), uI_o (by omega), uJ_i, uIs_ro (by omega), uIs_rs, cpy_at h]
theorem pC_w {M : KM} {D S k : Nat} (h : k < 8) : (pC M D S).1 (D + 2) k = M.1 (S + 2) k := by
  unfold pC
  simp only
  rw [uI_o (by omega), uI_o (by omega), uI_o (by omega), uI_o (by omega), uI_o (by omega), uI_o (by omega), uI_o (by omega), uI_o (by omega), uI_o (by omega), uJ_i, uIs_rs, cpy_at h]
/-- the people of a land are copied -/
def PCo (M N : KM) (D S i : Nat) : Prop := N.2.2 = M.2.2 ∧ (∀ a k, ¬ (D + 14 ≤ a ∧ a < D + 14 + 3 * i) → N.1 a k = M.1 a k) ∧ (∀ a k, ¬ (D + 14 ≤ a ∧ a < D + 14 + 3 * i) → N.2.1 a k = M.2.1 a k) ∧ ∀ p, p < i → (∀ k, 3 ≤ k → k ≤ 11 → N.1 (D + 14 + 3 * p) k = M.1 (S + 14 + 3 * p) k) ∧ (∀ k, k < 12 → N.1 (D + 14 + 3 * p + 1) k = M.1 (S + 14 + 3 * p + 1) k) ∧ (∀ k, k < 8 → N.1 (D + 14 + 3 * p + 2) k = M.1 (S + 14 + 3 * p + 2) k) ∧ N.2.1 (D + 14 + 3 * p) 2 = M.2.1 (S + 14 + 3 * p) 2
theorem c_peopleCopy {M : KM} {D S : Nat} (hd : D + 38 ≤ S ∨ S + 38 ≤ D) (h01 : ∀ p, p < 8 → (M.1 (S + 14 + 3 * p) 3 = zI 0 ∨ M.1 (S + 14 + 3 * p) 3 = zI 1) ∧ (M.1 (S + 14 + 3 * p) 4 = zI 0 ∨ M.1 (S + 14 + 3 * p) 4 = zI 1)) : ∀ (k i : Nat) (N : KM) (n : Nat), i + k = 8 → 2 + k < n → PCo M N D S i → ∃ N', lp_X2_copyFrom_184 n D S (zI (i : Int)) N = some N' ∧ PCo M N' D S 8 := by
  intro k
  induction k with
  | zero =>
    intro i N n h1 h2 h3
    obtain ⟨m, rfl⟩ : ∃ m, n = m + 1 := ⟨n - 1, by omega⟩
    have : i = 8 := by omega
    subst this
    refine ⟨N, ?_, h3⟩
    rw [lp_X2_copyFrom_184]
    simp (disch := first | omega | assumption) only [↓lt, Option.bind_some, zl, ll, zadd, zsub, zmul, zneg, ladd, lsub, lmul, lneg, zltT, zltF, zleT, zleF, zeqT, zeqF, zidx, ixT, zwide, bIT, bIF, if_true, if_false, ↓reduceIte, Nat.reduceAdd, Int.reduceAdd, Int.reduceMul, Int.reduceSub, Int.reduceNeg, cs_c, cs_o, cs_2, cu_c, cu_o, Int.cast_ofNat_Int, ps_f, ps_g, ps_w, ps_o, ps_2, pu_f, pu_g, pu_w, pu_o, uI_s, uI_o, uI_j, uI_j1, uI_j2, uI_tw, or0, true_or, or_true, false_or, or_false, nar0, nar1]
  | succ k ih =>
    intro i N n h1 h2 h3
    obtain ⟨m, rfl⟩ : ∃ m, n = m + 1 := ⟨n - 1, by omega⟩
    obtain ⟨a1, a2, a3, a4⟩ := h3
    have q := h01 i (by omega)
    rw [← a2 (S + 14 + 3 * i) 3 (by omega), ← a2 (S + 14 + 3 * i) 4 (by omega)] at q
    have e := c_personCopy (n := m) (D := D + 14 + 3 * i) (S := S + 14 + 3 * i) (M := N) (by omega) q.1 q.2
    obtain ⟨N', e1, e2⟩ := ih (i + 1) (pC N (D + 14 + 3 * i) (S + 14 + 3 * i)) m (by omega) (by omega) ⟨a1, fun a k h => by rw [pC_o (by omega), a2 a k (by omega)], fun a k h => by rw [pC_J (by omega), a3 a k (by omega)], fun p hp => by
      by_cases y : p = i
      · subst y
        refine ⟨fun k k1 k2 => by rw [pC_f k1 k2, a2 _ _ (by omega)], fun k hk => by rw [pC_1 hk, a2 _ _ (by omega)], fun k hk => by rw [pC_w hk, a2 _ _ (by omega)], by rw [pC_Js, a3 _ _ (by omega)]⟩
      · have := a4 p (by omega)
        refine ⟨fun k k1 k2 => by rw [pC_o (by omega)]; exact this.1 k k1 k2, fun k hk => by rw [pC_o (by omega)]; exact this.2.1 k hk, fun k hk => by rw [pC_o (by omega)]; exact this.2.2.1 k hk, by rw [pC_J (by omega)]; exact this.2.2.2⟩⟩
    refine ⟨N', ?_, e2⟩
    rw [lp_X2_copyFrom_184]
    have ad : D + 6 + 8 + 3 * (i : Int).toNat = D + 14 + 3 * i := by omega
    have as : S + 6 + 8 + 3 * (i : Int).toNat = S + 14 + 3 * i := by omega
    have ei : zI (i : Int) + zI 1 = zI ((i + 1 : Nat) : Int) := by rw [zadd]; congr 1
    have i0 : (0 : Int) ≤ (i : Int) ∧ (i : Int) < 8 := by omega
    simp (disch := first | omega | assumption) only [↓lt, zl, zleF, if_false, ixT, if_true, zidx, ad, as, e, Option.bind_some, ei]
    exact e1
/-- the days of a land are copied -/
def dC (M : KM) (D S : Nat) : KM :=
  let M2 := uIs M (D + 1) (va_cpy (M.1 (S + 1)) (M.1 (D + 1)) 0 0 60)
  let M4 := uIs M2 (D + 2) (va_cpy (M.1 (S + 2)) (M.1 (D + 2)) 0 0 60)
  let M6 := uIs M4 (D + 3) (va_cpy (M.1 (S + 3)) (M.1 (D + 3)) 0 0 60)
  let M8 := uIs M6 (D + 4) (va_cpy (M.1 (S + 4)) (M.1 (D + 4)) 0 0 60)
  let M10 := uIs M8 (D + 5) (va_cpy (M.1 (S + 5)) (M.1 (D + 5)) 0 0 60)
  uI (uI (uI M10 D 5 (M.1 S 5)) D 6 (M.1 S 6)) D 7 (M.1 S 7)
theorem c_daysCopy {M : KM} {D S n : Nat} (hd : D + 6 ≤ S ∨ S + 6 ≤ D) (h7 : M.1 S 7 = zI 0 ∨ M.1 S 7 = zI 1) : f_X8_copyFrom n D S M = some (dC M D S) := by
  have n0 : ¬ S = D := by omega
  have n1 : ¬ S = D + 1 := by omega
  have n2 : ¬ S = D + 2 := by omega
  have n3 : ¬ S = D + 3 := by omega
  have n4 : ¬ S = D + 4 := by omega
  have n5 : ¬ S = D + 5 := by omega
  have rI : ∀ (K : KM) (k j : Nat) (v : Int32), (uI K D k v).1 S j = K.1 S j := fun K k j v => uI_o (fun z => n0 z.1)
  unfold f_X8_copyFrom dC
  simp only [zl]
  simp (disch := omega) only [↓lt, ↓cgE60, if_true, ct0, ct60, rI, uIs_ro, uIs_row, if_pos h7]
theorem dC_2 {M : KM} {D S : Nat} : (dC M D S).2 = M.2 := rfl
theorem dC_o {M : KM} {D S a k : Nat} (h : ¬ (D ≤ a ∧ a < D + 6)) : (dC M D S).1 a k = M.1 a k := by
  unfold dC
  simp only
  rw [uI_o (by omega), uI_o (by omega), uI_o (by omega), uIs_ro (by omega), uIs_ro (by omega), uIs_ro (by omega), uIs_ro (by omega), uIs_ro (by omega)]
theorem dC_f {M : KM} {D S : Nat} : (dC M D S).1 D 5 = M.1 S 5 ∧ (dC M D S).1 D 6 = M.1 S 6 ∧ (dC M D S).1 D 7 = M.1 S 7 := by
  unfold dC
  simp only
  refine ⟨?_, ?_, ?_⟩
  · rw [uI_o (by omega), uI_o (by omega), uI_s]
  · rw [uI_o (by omega), uI_s]
  · rw [uI_s]
theorem dC_r {M : KM} {D S j k : Nat} (h1 : 1 ≤ j) (h2 : j ≤ 5) (h : k < 60) : (dC M D S).1 (D + j) k = M.1 (S + j) k := by
  have : j = 1 ∨ j = 2 ∨ j = 3 ∨ j = 4 ∨ j = 5 := by omega
  unfold dC
  simp only
  rw [uI_o (by omega), uI_o (by omega), uI_o (by omega)]
  rcases this with rfl | rfl | rfl | rfl | rfl
  · rw [uIs_ro (by omega), uIs_ro (by omega), uIs_ro (by omega), uIs_ro (by omega), uIs_rs, cpy_at h]
  · rw [uIs_ro (by omega), uIs_ro (by omega), uIs_ro (by omega), uIs_rs, cpy_at h]
  · rw [uIs_ro (by omega), uIs_ro (by omega), uIs_rs, cpy_at h]
  · rw [uIs_ro (by omega), uIs_rs, cpy_at h]
  · rw [uIs_rs, cpy_at h]

