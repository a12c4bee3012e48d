/-! ===== land, days: both go on to the next sign ===== -/
theorem c_num {T : Int → Int} {E s : Int} {a : Nat} {M : KM} {n : Nat} (ha : a = 5 ∨ a = 8) (h1 : 0 ≤ E) (h2 : E ≤ 900) (hs : 0 ≤ s) (hE : s < E) (t1 : 48 ≤ T s) (t2 : T s ≤ 57) (r1 : M.2.2 a 1 = 2) (e2 : M.1 a 2 = zI E) (hT : ∀ z, 0 ≤ z → z < 900 → M.1 2 z.toNat = zI (T z) ∧ -128 ≤ T z ∧ T z < 128) (h10 : M.1 a 10 = zI s) (h3 : M.1 a 3 = zI s) (h8 : M.1 a 8 = zI 0) (hn : 1000 < n) :
    f_X9_scanNumber n a M = some (uI (uI (uI M a 8 (zI (nuB T E s 900 s 0).2)) a 3 (zI (nuB T E s 900 s 0).1)) a 6 (zI (if (nuB T E s 900 s 0).1 - s ≤ 4 then 2 else 4))) := by
  have L := fun κ => c_digits (T := T) (E := E) (s := s) (a := a) (κ := κ) ha h1 h2 hs 900 s 0 M n r1 e2 hT h10 h3 h8 (by omega) (by omega) (by omega) (by omega)
  have wl := nu_1 (k := 899) hE t1 t2
  generalize nuB T E s 900 s 0 = W at L wl ⊢
  obtain ⟨q, v⟩ := W
  simp only at L wl ⊢
  have g3 : (uI (uI M a 8 (zI v)) a 3 (zI q)).1 a 3 = zI q := uI_s
  have g10 : (uI (uI M a 8 (zI v)) a 3 (zI q)).1 a 10 = zI s := by
    rw [uI_o (by omega), uI_o (by omega)]; exact h10
  unfold f_X9_scanNumber
  rw [L, g3, g10, zsub]
  by_cases q4 : q - s ≤ 4
  · rw [if_pos q4]
    simp (disch := first | omega | assumption) only [↓lt, ↓reduceIte, zl, zleT, if_true]
  · rw [if_neg q4]
    simp (disch := first | omega | assumption) only [↓lt, ↓reduceIte, zl, zleF, if_false]
