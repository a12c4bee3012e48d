/-! ===== land: the text, whole ===== -/
/-- what stands between the calls, made of what stood: a text was read -/
theorem CR_mk {M M' : KM} {L L' : Nat} {b b' : Int → Int} (h : CR M L b) (hNM : NM M' L' b' (fun z => M'.2.1 235 z.toNat)) (hPR : PR M' (M'.2.2 L' 7) b')
    (h1 : ∀ a k, (a = 4 ∨ (105 ≤ a ∧ a < 227) ∨ a = 228 ∨ a = 229 ∨ a = 243 ∨ (a = 0 ∧ k = 14) ∨ (a = 227 ∧ (k = 24 ∨ k = 38))) → M'.1 a k = M.1 a k)
    (hT : ∀ k : Nat, M'.1 231 k = M.1 231 k ∧ M'.1 2 k = M.1 2 k)
    (h2 : ∀ a k, (a = 6 ∨ a = 9 ∨ (105 ≤ a ∧ a < 227) ∨ a = 230 ∨ (a = 235 ∧ 16 ≤ k ∧ k < 64) ∨ (a = 0 ∧ (k = 18 ∨ k = 19)) ∨ (a = 227 ∧ (k = 2 ∨ k = 3))) → M'.2.1 a k = M.2.1 a k)
    (t0 : M'.1 0 13 = zI 0) (t1 : M'.1 227 8 = zI 0) (f1 : M'.1 227 10 = M'.1 0 16) (f2 : M'.1 227 11 = M'.1 0 17)
    (ho : ∀ l : Nat, l = 23 ∨ l = 61 ∨ l = 113 ∨ l = 151 ∨ l = 189 → ¬ l = L' → ∀ p : Nat, p < 8 → (M'.1 (l + 14 + 3 * p) 3 = zI 0 ∨ M'.1 (l + 14 + 3 * p) 3 = zI 1) ∧ (M'.1 (l + 14 + 3 * p) 4 = zI 0 ∨ M'.1 (l + 14 + 3 * p) 4 = zI 1))
    (h4 : ∀ z, 562 ≤ z → z < 2248 → b' z = b z) : CR M' L' b' := by
  obtain ⟨a1, a2, ⟨mk, a3, a4, a5, a6, a7⟩, ⟨tp, a8, a9, a10, a11⟩, a12, a13, a14, a15, a16, a17, a18, a19, a20⟩ := h
  refine ⟨hNM, hPR, ⟨mk, a3, a4, ?_, ?_, fun i hi hi2 => ?_⟩, ⟨0, by omega, by omega, t0, t1⟩, fun k hk => ?_, f1, f2, ?_, ?_, fun t ht ht2 => ?_, ?_, ho, fun k hk => ?_⟩
  · rw [h1 _ _ (by omega)]; exact a5
  · rw [h1 _ _ (by omega)]; exact a6
  · obtain ⟨c1, c2, c3⟩ := a7 i hi hi2
    have e : sh b' (562 * (i + 1)) = sh b (562 * (i + 1)) := by
      funext z
      simp only [sh]
      by_cases x : 0 ≤ z ∧ z < 562
      · rw [if_pos x, if_pos x]; exact h4 _ (by omega) (by omega)
      · rw [if_neg x, if_neg x]
    have e0 := c1.2.2.1.1
    unfold WH at e0
    rw [e]
    exact ⟨LOK_of (fun a k x y => h1 a k (by omega)) (fun a k x y => h1 a k (by omega)) c1, NM_c (w := fun z => M.2.1 235 (16 * (i + 1) + z).toNat) (fun _ _ _ => rfl) (fun z u v => h2 235 _ (by omega)) (by omega) (by omega) (NM_of (fun a k x y => h2 a k (by omega)) (fun _ => rfl) rfl rfl (by omega) c2), PR_of (fun a k x y => h1 a k (by omega)) (fun z _ _ => rfl) rfl rfl c3⟩
  · rw [(hT k).1, (hT k).2]; exact a12 k hk
  · rw [h2 227 _ (by omega), h2 0 _ (by omega)]; exact a15
  · rw [h2 227 _ (by omega), h2 0 _ (by omega)]; exact a16
  · obtain ⟨s, m, c1, c2, c3, c4, c5, c6, c7, c8, c9⟩ := a17 t ht ht2
    refine ⟨s, m, c1, c2, c3, c4, ?_, ?_, ?_, ?_, fun k x y => ?_⟩
    · rw [h1 _ _ (by omega)]; exact c5
    · rw [h1 _ _ (by omega)]; exact c6
    · rw [h1 _ _ (by omega)]; exact c7
    · rw [h1 _ _ (by omega)]; exact c8
    · rw [h2 _ _ (by omega), h2 230 _ (by omega)]; exact c9 k x y
  · rcases a18 with ⟨c1, c2⟩ | ⟨c1, ⟨v, c2, c3, c4⟩, c5⟩
    · refine Or.inl ⟨?_, ?_⟩
      · rw [h1 _ _ (by omega)]; exact c1
      · rw [h1 _ _ (by omega)]; exact c2
    · refine Or.inr ⟨?_, ⟨v, c2, c3, ?_⟩, fun k hk => ?_⟩
      · rw [h1 _ _ (by omega)]; exact c1
      · rw [h1 _ _ (by omega)]; exact c4
      · rw [h1 243 _ (by omega), h1 4 _ (by omega)]; exact c5 k hk
  · rw [h2 6 _ (by omega), h2 9 _ (by omega)]; exact a20 k hk
theorem EV_F {T : Int → Int} {E : Int} {a : Nat} {M M' X X' : KM} (ha : ¬ a = 2) (h1 : FC a M M') (h2 : GC X X') (h : EV T E a M X) : EV T E a M' X' := by
  obtain ⟨q1, q2, q3, q4, q5, q6⟩ := h
  exact ⟨by rw [h1.2.2]; exact q1, by rw [h1.1 _ _ (by omega)]; exact q2, by rw [h2.1 _ _ (by omega)]; exact q3, fun z u w => by rw [h1.1 _ _ (by omega)]; exact q4 z u w, fun z u w => by rw [h2.1 _ _ (by omega)]; exact q5 z u w, fun k u => by rw [h1.2.1 _ _ (by omega)]; exact q6 k u⟩
