/-! ===== one minute of the reference: all go ===== -/
def mN (b : Int → Int) : Int → Int := bu (bM b (AG b)) 5 (b 5 + 1)
theorem AG_t {b : Int → Int} {q : Int} (h1 : 0 ≤ q) (h2 : q < b 2) (h : 0 ≤ b (66 + q)) : AG b q = true := decide_eq_true ⟨h1, h2, h⟩
theorem AG_f {b : Int → Int} {q : Int} (h : ¬ 0 ≤ b (66 + q)) : AG b q = false := decide_eq_false (fun z => h z.2.2)
theorem caB_g {b : Int → Int} {A : Int → Bool} {p : Int} {g : Prop} (h1 : 0 ≤ p) (h2 : p < 8) (hr1 : 0 ≤ b (122 + p)) (hr2 : b (122 + p) < 12) (hA : A p = false) : canB (bM b A) p (b (122 + p)) g ↔ canB b p (b (122 + p)) g := by
  have e1 := bM_keep (b := b) (A := A) h1 h2 6 (by omega) (by omega)
  rw [show 58 + 8 * 6 + p = 106 + p by omega] at e1
  have e2 := bM_keep (b := b) (A := A) h1 h2 5 (by omega) (by omega)
  rw [show 58 + 8 * 5 + p = 98 + p by omega] at e2
  have e3 : bM b A (46 + b (122 + p)) = b (46 + b (122 + p)) := bM_o (by omega)
  have e4 : bM b A 7 = b 7 := bM_o (by omega)
  have e5 : bM b A (130 + 12 * p + b (122 + p)) = b (130 + 12 * p + b (122 + p)) := by
    rw [bM_g h1 h2 hr1 hr2, hA, if_neg (fun z => absurd z.1 (by decide))]
  show _ ∨ _ ↔ _ ∨ _
  rw [e1, e2, e3, e4, e5]
theorem cS_0 {b : Int → Int} : cS b (A0 b 0) = zI 0 ∨ ¬ WB b := by
  by_cases hb : WB b
  · refine Or.inl ?_
    have e : ∀ q, A0 b 0 q = false := fun q => decide_eq_false (fun z => by
      have := wk_r hb z.1 z.2.1
      omega)
    unfold cS
    rw [show (fun q => A0 b 0 q && decide (thB b q)) = fun _ => false by funext q; rw [e q]; rfl]
    decide
  · exact Or.inr hb
