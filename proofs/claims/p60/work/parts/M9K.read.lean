/-! ===== land, days: a byte of the tape ===== -/
theorem and_all : ∀ a c : Fin 16, zI (16 * (a.val : Int) + (c.val : Int) - 128) &&& zI 255 = zI ((16 * (a.val : Int) + (c.val : Int) - 128) % 256) := by decide
theorem and255 {t : Int} (h1 : -128 ≤ t) (h2 : t < 128) : zI t &&& zI 255 = zI (t % 256) := by
  have h : zI (16 * (((t + 128) / 16).toNat : Int) + (((t + 128) % 16).toNat : Int) - 128) &&& zI 255 = zI ((16 * (((t + 128) / 16).toNat : Int) + (((t + 128) % 16).toNat : Int) - 128) % 256) := and_all ⟨((t + 128) / 16).toNat, by omega⟩ ⟨((t + 128) % 16).toNat, by omega⟩
  rw [show 16 * (((t + 128) / 16).toNat : Int) + (((t + 128) % 16).toNat : Int) - 128 = t by omega] at h
  exact h
/-- the byte of the reference at p: none past the end -/
def byB (T : Int → Int) (E p : Int) : Int := if p < E then T p % 256 else 0
theorem byB_r {T : Int → Int} {E p : Int} : 0 ≤ byB T E p ∧ byB T E p < 256 := by
  unfold byB
  by_cases w : p < E
  · rw [if_pos w]; omega
  · rw [if_neg w]; omega
