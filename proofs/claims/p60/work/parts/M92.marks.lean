/-! ===== mark ===== -/
theorem Inv_ex {M : KM} (hI : Inv M) : ∃ (L : Nat) (b : Int → Int), Ptr M L ∧ M = cs M b ∧ LOK M L b ∧ CR M L b ∧ M.1 0 15 = M.1 227 0 := by
  obtain ⟨L, b, h1, h2, h3, h4, h5⟩ := hI
  refine ⟨L, b, h1, ?_, h3, h4, h5⟩
  refine Prod.ext ?_ rfl
  funext a k
  simp only [cs]
  by_cases w : a = 232
  · rw [if_pos w, w]; exact h2 k
  · rw [if_neg w]
theorem cs_row {M N : KM} {b : Int → Int} (h : M = cs M b) (hN : ∀ k, N.1 232 k = M.1 232 k) : N = cs N b := by
  refine Prod.ext ?_ rfl
  funext a k
  simp only [cs]
  by_cases w : a = 232
  · rw [if_pos w, w, hN, h]; simp only [cs, if_true]
  · rw [if_neg w]
/-- a refused call, at the level of states -/
theorem st_no {M : KM} {L : Nat} {b : Int → Int} {s : Int32} (hP : Ptr M L) (hM : M = cs M b) (hL : LOK M L b) (hC : CR M L b) : Inv (cs (uI (uI (uI M 0 15 s) 227 1 (zI 0)) 227 0 s) b) := by
  have hq := Ptr_P hP
  have hl := Ptr_L hP
  have hh := hL.2.2.1.1
  unfold WH at hh
  have o : ∀ a k, ¬ (a = 0 ∧ k = 15) → ¬ (a = 227 ∧ (k = 0 ∨ k = 1)) → (cs (uI (uI (uI M 0 15 s) 227 1 (zI 0)) 227 0 s) b).1 a k = M.1 a k := fun a k h1 h2 => by
    by_cases w : a = 232
    · rw [w, hM]; simp only [cs, if_true]
    · rw [cs_o w, uI_o (by omega), uI_o (by omega), uI_o (by omega)]
  refine ⟨L, b, hP, fun k => ?_, LOK_of (fun a k x y => o a k (by omega) (by omega)) (fun a k x y => o a k (by omega) (by omega)) hL, CR_of (M := M) ⟨by omega, by omega⟩ hq.1 (fun a k x => ?_) (fun a k x => rfl) rfl (fun _ _ _ => rfl) rfl rfl hC, ?_⟩
  · simp only [cs, if_true]
  · have w := KI_out hq x
    unfold KI at x
    exact o a k w.2.2.2 (by omega)
  · rw [cs_o (by omega), cs_o (by omega), uI_o (by omega), uI_o (by omega), uI_s, uI_s]
theorem LOK_01 {M : KM} {L : Nat} {b : Int → Int} (h : LOK M L b) : ∀ p, p < 8 → (M.1 (L + 14 + 3 * p) 3 = zI 0 ∨ M.1 (L + 14 + 3 * p) 3 = zI 1) ∧ (M.1 (L + 14 + 3 * p) 4 = zI 0 ∨ M.1 (L + 14 + 3 * p) 4 = zI 1) := fun p hp => by
  have := h.2.1.2.2.2 (p : Int) (by omega) (by omega)
  simp only [pg, Int.toNat_natCast] at this
  have f : ∀ x : Int32, (x.toInt = 0 ∨ x.toInt = 1) → x = zI 0 ∨ x = zI 1 := fun x h => by
    rcases h with h | h
    · exact Or.inl (by rw [z_of x, h])
    · exact Or.inr (by rw [z_of x, h])
  exact ⟨f _ this.1, f _ this.2⟩
