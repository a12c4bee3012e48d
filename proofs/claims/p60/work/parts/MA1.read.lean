/-! ===== land, days: names ===== -/
theorem c_placeNamed {M : KM} {L n : Nat} {w : Int64} {c : Int} (h8 : M.1 L 8 = zI c) (c0 : 0 ≤ c) (c8 : c ≤ 8) (hn : 10 < n) : f_X2_placeNamed n L w M = some (zI (fstI (fun i => decide (M.2.1 (L + 1) i.toNat = w)) c.toNat 0)) := by
  unfold f_X2_placeNamed
  refine loop_fst (lp := fun n i => lp_X2_placeNamed_2 n L w M i) (P := fun i => decide (M.2.1 (L + 1) i.toNat = w)) (res := fun i => some (zI i)) (N := 0) (R := c) (fun n i hn h1 h2 => ?_) (fun n hn => ?_) c.toNat 0 n (by omega) (by omega) (by omega)
  · rw [lp_X2_placeNamed_2]
    simp (disch := first | omega | assumption) only [↓lt, ↓reduceIte, zl, lgz, h8, zleF, if_false, ixT, zidx, if_true, zadd]
    by_cases q : M.2.1 (L + 1) i.toNat = w
    · rw [if_pos q, if_pos (decide_eq_true q)]
    · rw [if_neg q, if_neg (by simpa using q)]
  · rw [lp_X2_placeNamed_2]
    simp (disch := first | omega | assumption) only [↓reduceIte, zl, h8, zleT, if_true]
    rfl
theorem c_personNamed {M : KM} {L n : Nat} {w : Int64} {c : Int} (h8 : M.1 L 10 = zI c) (c0 : 0 ≤ c) (c8 : c ≤ 8) (hn : 10 < n) : f_X2_personNamed n L w M = some (zI (fstI (fun i => decide (M.2.1 (L + 14 + 3 * i.toNat) 2 = w)) c.toNat 0)) := by
  unfold f_X2_personNamed
  refine loop_fst (lp := fun n i => lp_X2_personNamed_2 n L w M i) (P := fun i => decide (M.2.1 (L + 14 + 3 * i.toNat) 2 = w)) (res := fun i => some (zI i)) (N := 0) (R := c) (fun n i hn h1 h2 => ?_) (fun n hn => ?_) c.toNat 0 n (by omega) (by omega) (by omega)
  · rw [lp_X2_personNamed_2]
    simp (disch := first | omega | assumption) only [↓lt, ↓reduceIte, zl, lgz, h8, zleF, if_false, ixT, zidx, if_true, zadd]
    by_cases q : M.2.1 (L + 14 + 3 * i.toNat) 2 = w
    · rw [if_pos q, if_pos (decide_eq_true q)]
    · rw [if_neg q, if_neg (by simpa using q)]
  · rw [lp_X2_personNamed_2]
    simp (disch := first | omega | assumption) only [↓reduceIte, zl, h8, zleT, if_true]
    rfl
/-- the names of the class's land at L are those of the reference's block k -/
def NA (L : Nat) (k c0 c2 : Int) (M X : KM) : Prop := (0 ≤ c0 ∧ c0 ≤ 8 ∧ 0 ≤ c2 ∧ c2 ≤ 8) ∧ M.1 L 8 = zI c0 ∧ M.1 L 10 = zI c2 ∧ X.1 232 (562 * k).toNat = zI c0 ∧ X.1 232 (562 * k + 2).toNat = zI c2 ∧ (∀ i, 0 ≤ i → i < c0 → M.2.1 (L + 1) i.toNat = X.2.1 235 (16 * k + i).toNat) ∧ ∀ i, 0 ≤ i → i < c2 → M.2.1 (L + 14 + 3 * i.toNat) 2 = X.2.1 235 (16 * k + 8 + i).toNat
theorem NA_of {L : Nat} {k c0 c2 : Int} {M M' X X' : KM} (hk : 0 ≤ k) (h1 : ∀ i, M'.1 L i = M.1 L i) (h2 : ∀ c i, L ≤ c → c < L + 38 → M'.2.1 c i = M.2.1 c i) (h3 : ∀ i : Int, 562 * k ≤ i → i ≤ 562 * k + 2 → X'.1 232 i.toNat = X.1 232 i.toNat) (h4 : ∀ i, X'.2.1 235 i = X.2.1 235 i) (h : NA L k c0 c2 M X) : NA L k c0 c2 M' X' := by
  obtain ⟨q0, q1, q2, q3, q4, q5, q6⟩ := h
  exact ⟨q0, by rw [h1]; exact q1, by rw [h1]; exact q2, by rw [h3 _ (by omega) (by omega)]; exact q3, by rw [h3 _ (by omega) (by omega)]; exact q4, fun i u w => by rw [h2 _ _ (by omega) (by omega), h4]; exact q5 i u w, fun i u w => by rw [h2 _ _ (by omega) (by omega), h4]; exact q6 i u w⟩
theorem NA_C {L a : Nat} {k c0 c2 : Int} {M M' X X' : KM} (hk : 0 ≤ k) (ha : a = 5 ∨ a = 8) (hL : 23 ≤ L) (h1 : FC a M M') (h2 : GC X X') (h : NA L k c0 c2 M X) : NA L k c0 c2 M' X' :=
  NA_of hk (fun i => h1.1 _ _ (by omega)) (fun c i u w => h1.2.1 _ _ (by omega)) (fun i u w => h2.1 _ _ (by omega)) (fun i => h2.2.1 _ _ (by omega)) h
