/-! ===== one pass over the roads, by the class ===== -/
abbrev okB2 (B : Int) (T : Int → Int) : Prop := ∀ j, 0 ≤ j → j < 8 → 0 ≤ T j ∧ (T j ≤ B ∨ T j = 1000000000)
theorem rlx_ok {b T : Int → Int} {p q r f t B : Int} (hb : WB b) (hB : B ≤ 900000) (hT : okB2 B T) (h3 : 0 ≤ r) (h4 : r < b 1) (f1 : 0 ≤ f) (f2 : f < 8) : okB2 (B + 2880) (rlx b p q r f t T) := by
  intro j j1 j2
  have Tj := hT j j1 j2
  have Tf := hT f f1 f2
  have ra := a2I_r (p := p) (q := q) hb h3 h4 Tf.1 (by omega)
  unfold rlx
  by_cases w : a2I b p q r (T f) < T t
  · rw [if_pos w]
    by_cases e : j = t
    · rw [e, bu_s]; omega
    · rw [bu_o e]; omega
  · rw [if_neg w]; omega
def bth (b : Int → Int) (p q r : Int) (T : Int → Int) : Int → Int := rlx b p q r (b (22 + r)) (b (10 + r)) (rlx b p q r (b (10 + r)) (b (22 + r)) T)
def pass (b : Int → Int) (p q : Int) (T : Int → Int) : Int → Int := fI (bth b p q) (b 1).toNat 0 T
theorem bth_ok {b T : Int → Int} {p q r B : Int} (hb : WB b) (hB : B + 2880 ≤ 900000) (hT : okB2 B T) (h3 : 0 ≤ r) (h4 : r < b 1) : okB2 (B + 5760) (bth b p q r T) := by
  have hh := hb.1
  unfold WH at hh
  have hR := hb.2.1 r h3 h4
  unfold WR at hR
  have e1 := rlx_ok (p := p) (q := q) (t := b (22 + r)) hb (by omega) hT h3 h4 (show 0 ≤ b (10 + r) by omega) (by omega)
  have e2 := rlx_ok (p := p) (q := q) (t := b (10 + r)) hb hB e1 h3 h4 (show 0 ≤ b (22 + r) by omega) (by omega)
  intro j j1 j2
  have := e2 j j1 j2
  unfold bth
  omega
