/-! ===== tray, read, write ===== -/
theorem cr_no {M : KM} {L : Nat} {g : Int → Int → Int → Int} {b : Int → Int} {ρ : Type} {c m : KM → Option (ρ × KM)} {r : ρ} {s : Int32} (hO : Opn M L g b) (h1 : c (ps (cs M b) L g) = some (r, ps (uI (cs M b) 0 15 s) L g)) (h2 : m (cs (ps (uI M 0 15 s) L g) b) = some (r, cs (uI (uI (ps (uI M 0 15 s) L g) 227 1 (zI 0)) 227 0 s) b)) : ∃ (r : ρ) (N Y : KM), c (ps (cs M b) L g) = some (r, ps (cs N b) L g) ∧ m (cs (ps N L g) b) = some (r, cs (ps Y L g) b) ∧ Y.1 0 15 = Y.1 227 0 ∧ Y.2.2 = M.2.2 ∧ (∀ a k, L ≤ a → a < L + 8 → Y.1 a k = M.1 a k) ∧ CR (cs (ps Y L g) b) L b := by
  have hl := Ptr_L hO.1
  have hq := Ptr_P hO.1
  refine ⟨r, uI M 0 15 s, uI (uI (uI M 0 15 s) 227 1 (zI 0)) 227 0 s, by rw [h1, cu_o (by omega)], by rw [h2, pu_o (by omega), pu_o (by omega)], by rw [uI_o (by omega), uI_o (by omega), uI_s, uI_s], rfl, fun a k x y => by rw [uI_o (by omega), uI_o (by omega), uI_o (by omega)], ?_⟩
  refine (Opn_sc (M' := uI (uI (uI M 0 15 s) 227 1 (zI 0)) 227 0 s) hO (fun a k x => ?_) (fun a k x y => ?_) (fun a k x => rfl) rfl).2.2.2.2.2
  · have w := KI_out hq x
    unfold KI at x
    rw [uI_o (by omega), uI_o (by omega), uI_o (by omega)]
  · rw [uI_o (by omega), uI_o (by omega), uI_o (by omega)]
theorem TR_to {M : KM} {L : Nat} {g : Int → Int → Int → Int} {b : Int → Int} (hl : 23 ≤ L ∧ L ≤ 61) (h : TRs M) : TRs (cs (ps M L g) b) := by
  intro t h1 h2
  obtain ⟨s, m, c1, c2, c3, c4, c5, c6, c7, c8, c9⟩ := h t h1 h2
  refine ⟨s, m, c1, c2, c3, c4, ?_, ?_, ?_, ?_, c9⟩
  · rw [cs_o (by omega), ps_o (by omega)]; exact c5
  · rw [cs_o (by omega), ps_o (by omega)]; exact c6
  · rw [cs_o (by omega), ps_o (by omega)]; exact c7
  · rw [cs_o (by omega), ps_o (by omega)]; exact c8
/-- other trays, nothing else that lasts -/
theorem CR_tr {M Y : KM} {L : Nat} {g : Int → Int → Int → Int} {b : Int → Int} (hO : Opn M L g b) (h1 : ∀ a k, ¬ (105 ≤ a ∧ a < 113) → ¬ a = 228 → ¬ a = 229 → ¬ (a = 0 ∧ k = 15) → ¬ (a = 227 ∧ (k = 0 ∨ k = 1)) → Y.1 a k = M.1 a k) (h2 : ∀ a k, ¬ (105 ≤ a ∧ a < 113) → ¬ a = 230 → Y.2.1 a k = M.2.1 a k) (h3 : Y.2.2 = M.2.2) (ht : TRs Y) : CR (cs (ps Y L g) b) L b := by
  have hl := Ptr_L hO.1
  have hq := Ptr_P hO.1
  have hh := hO.2.2.2.1.1
  unfold WH at hh
  refine CR_tray (M := cs (ps M L g) b) ⟨by omega, by omega⟩ hl hq.1 (show M.2.2 L 7 ≤ 99 by omega) (fun a k x y z w => ?_) (fun a k x y z => h2 a k y z) (by show Y.2.2 L 7 = M.2.2 L 7; rw [h3]) (TR_to hl ht) hO.2.2.2.2.2
  have x : KI L (M.2.2 L 7) a k := x
  have v := KI_out hq x
  rw [cs_o v.2.2.1, cs_o v.2.2.1, ps_o v.1, ps_o v.1]
  unfold KI at x
  exact h1 a k y z w v.2.2.2 (by omega)
