/-! ===== mean: what stands between the calls ===== -/
theorem CR_mn {M M' : KM} {L S : Nat} {b b' : Int → Int} (hb : 0 ≤ b 2 ∧ b 2 ≤ 8) (hL : L = 23 ∨ L = 61) (hS : S = 23 ∨ S = 61) (hPp : M.2.2 L 7 = 31 ∨ M.2.2 L 7 = 69 ∨ M.2.2 L 7 = 99) (h1 : ∀ a k, KI L (M.2.2 L 7) a k → ¬ (S + 14 ≤ a ∧ a < S + 38) → M'.1 a k = M.1 a k) (h01 : ∀ p : Nat, p < 8 → (M'.1 (S + 14 + 3 * p) 3 = zI 0 ∨ M'.1 (S + 14 + 3 * p) 3 = zI 1) ∧ (M'.1 (S + 14 + 3 * p) 4 = zI 0 ∨ M'.1 (S + 14 + 3 * p) 4 = zI 1)) (h2 : ∀ a k, KJ L a k → ¬ (a = 0 ∧ (k = 18 ∨ k = 19)) → ¬ (a = 227 ∧ (k = 2 ∨ k = 3)) → M'.2.1 a k = M.2.1 a k) (hf : M'.2.1 227 2 = M'.2.1 0 18) (hf2 : M'.2.1 227 3 = M'.2.1 0 19) (h3 : M'.2.2 L 7 = M.2.2 L 7) (h4 : ∀ z, 290 ≤ z → z < 2248 → b' z = b z) (h5 : b' 0 = b 0) (h6 : b' 2 = b 2) (h : CR M L b) : CR M' L b' := by
  obtain ⟨a1, a2, ⟨mk, a3, a4, a5, a6, a7⟩, ⟨tp, a8, a9, a10, a11⟩, a12, a13, a14, a15, a16, a17, a18, a19, a20⟩ := h
  refine ⟨?_, ?_, ⟨mk, a3, a4, ?_, ?_, fun i hi hi2 => ?_⟩, ⟨tp, a8, a9, ?_, ?_⟩, fun k hk => ?_, ?_, ?_, ?_, ?_, fun t ht ht2 => ?_, ?_, fun l hl hl2 p hp => ?_, fun k hk => ?_⟩
  · exact NM_of (fun a k x y => h2 a k (by unfold KJ; omega) (by omega) (by omega)) (fun z => h2 235 _ (by unfold KJ; omega) (by omega) (by omega)) h5 h6 hb.2 a1
  · rw [h3]; exact PR_of (fun a k x y => h1 a k (by unfold KI; omega) (by omega)) (fun z x y => h4 z x (by omega)) h5 h6 a2
  · rw [h1 _ _ (by unfold KI; omega) (by omega)]; exact a5
  · rw [h1 _ _ (by unfold KI; omega) (by omega)]; exact a6
  · obtain ⟨c1, c2, c3⟩ := a7 i hi hi2
    have e : sh b' (562 * (i + 1)) = sh b (562 * (i + 1)) := by
      funext z
      simp only [sh]
      by_cases x : 0 ≤ z ∧ z < 562
      · rw [if_pos x, if_pos x]; exact h4 _ (by omega) (by omega)
      · rw [if_neg x, if_neg x]
    have e0 := c1.2.2.1.1
    unfold WH at e0
    rw [e]
    exact ⟨LOK_of (fun a k x y => h1 a k (by unfold KI; omega) (by omega)) (fun a k x y => h1 a k (by unfold KI; omega) (by omega)) c1, NM_of (fun a k x y => h2 a k (by unfold KJ; omega) (by omega) (by omega)) (fun z => h2 235 _ (by unfold KJ; omega) (by omega) (by omega)) rfl rfl (by omega) c2, PR_of (fun a k x y => h1 a k (by unfold KI; omega) (by omega)) (fun z _ _ => rfl) rfl rfl c3⟩
  · rw [h1 _ _ (by unfold KI; omega) (by omega)]; exact a10
  · rw [h1 _ _ (by unfold KI; omega) (by omega)]; exact a11
  · rw [h1 231 _ (by unfold KI; omega) (by omega), h1 2 _ (by unfold KI; omega) (by omega)]; exact a12 k hk
  · rw [h1 227 _ (by unfold KI; omega) (by omega), h1 0 _ (by unfold KI; omega) (by omega)]; exact a13
  · rw [h1 227 _ (by unfold KI; omega) (by omega), h1 0 _ (by unfold KI; omega) (by omega)]; exact a14
  · exact hf
  · exact hf2
  · obtain ⟨s, m, c1, c2, c3, c4, c5, c6, c7, c8, c9⟩ := a17 t ht ht2
    refine ⟨s, m, c1, c2, c3, c4, ?_, ?_, ?_, ?_, fun k x y => ?_⟩
    · rw [h1 _ _ (by unfold KI; omega) (by omega)]; exact c5
    · rw [h1 _ _ (by unfold KI; omega) (by omega)]; exact c6
    · rw [h1 _ _ (by unfold KI; omega) (by omega)]; exact c7
    · rw [h1 _ _ (by unfold KI; omega) (by omega)]; exact c8
    · rw [h2 _ _ (by unfold KJ; omega) (by omega) (by omega), h2 230 _ (by unfold KJ; omega) (by omega) (by omega)]; exact c9 k x y
  · rcases a18 with ⟨c1, c2⟩ | ⟨c1, ⟨v, c2, c3, c4⟩, c5⟩
    · refine Or.inl ⟨?_, ?_⟩
      · rw [h1 _ _ (by unfold KI; omega) (by omega)]; exact c1
      · rw [h1 _ _ (by unfold KI; omega) (by omega)]; exact c2
    · refine Or.inr ⟨?_, ⟨v, c2, c3, ?_⟩, fun k hk => ?_⟩
      · rw [h1 _ _ (by unfold KI; omega) (by omega)]; exact c1
      · rw [h1 _ _ (by unfold KI; omega) (by omega)]; exact c4
      · rw [h1 243 _ (by unfold KI; omega) (by omega), h1 4 _ (by unfold KI; omega) (by omega)]; exact c5 k hk
  · by_cases e : l = S
    · rw [e]; exact h01 p hp
    · rw [h1 _ _ (by unfold KI; omega) (by omega), h1 _ _ (by unfold KI; omega) (by omega)]; exact a19 l hl hl2 p hp
  · rw [h2 6 _ (by unfold KJ; omega) (by omega) (by omega), h2 9 _ (by unfold KJ; omega) (by omega) (by omega)]; exact a20 k hk
