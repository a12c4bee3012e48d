/-! ===== land: a place ===== -/
/-- a new name laid behind those that are there -/
theorem LB_n {S : Nat} {b : Int → Int} {M M' X X' : KM} {o cnt : Int} (hS : Sp S M) (ho : (o = 0 ∧ cnt = sh b 2248 0) ∨ (o = 1 ∧ cnt = sh b 2248 2)) (c8 : cnt < 8) (h1 : FC 5 M M') (h2 : ∀ c i, ¬ (c = 227 ∧ 12 ≤ i ∧ i ≤ 18) → X'.1 c i = X.1 c i) (h3 : ∀ c i, ¬ (c = 227 ∧ i = 19) → ¬ (c = 235 ∧ i = (64 + 8 * o + cnt).toNat) → X'.2.1 c i = X.2.1 c i) (h : LB S b M X) : LB S b M' X' := by
  obtain ⟨a1, a2, a3, a4, a5, a6, a7, a8, a9, a10⟩ := h
  have hh := a2.1
  have S2 := hS.2
  have hP := hS.1
  refine ⟨fun k => by rw [h2 _ _ (by omega)]; exact a1 k, a2, HL_of (fun a k u v => h1.1 a k (by omega)) a3, PB_of (fun a k u v => h1.1 a k (by omega)) (fun _ _ _ => rfl) rfl (by omega) a4, P01_of (fun a k u v => h1.1 a k (by omega)) a5, fun k u v => ?_, fun k u v => ?_, ?_, ?_, ?_⟩
  · rw [h1.2.1 _ _ (by omega), h3 _ _ (by omega) (by omega)]; exact a6 k u v
  · rw [h1.2.1 _ _ (by omega), h3 _ _ (by omega) (by omega)]; exact a7 k u v
  · rw [h1.2.2, h1.1 _ _ (by omega)]; exact a8
  · rw [h1.2.2, h1.1 _ _ (by omega)]; exact a9
  · rw [h1.2.2, h1.1 _ _ (by omega)]; exact a10
theorem TO_of {M M' X X' : KM} (h1 : ∀ i, 12 ≤ i → M'.1 5 i = M.1 5 i) (h2 : ∀ i, 25 ≤ i → X'.1 227 i = X.1 227 i) (h : TO M X) : TO M' X' := by
  obtain ⟨t, u, a1, a2, a3, a4, a5, a6, a7, a8⟩ := h
  exact ⟨t, u, a1, a2, a3, a4, by rw [h1 _ (by omega)]; exact a5, by rw [h2 _ (by omega)]; exact a6, by rw [h1 _ (by omega)]; exact a7, by rw [h2 _ (by omega)]; exact a8⟩
theorem c_addPlace {M : KM} {S n : Nat} {w : Int64} {c : Int} (h : M.1 S 8 = zI c) (c0 : 0 ≤ c) (c8 : c < 8) : f_X2_addPlace n S w M = some (uI (uJ M (S + 1) c.toNat w) S 8 (zI (c + 1))) := by
  have e : (uJ M (S + 1) c.toNat w).1 S 8 = zI c := h
  unfold f_X2_addPlace
  simp (disch := first | omega | assumption) only [↓lt, ↓reduceIte, zl, h, e, zleF, if_false, ixT, zidx, if_true, zadd]
