/-! ===== land, days: a byte of the tape ===== -/
theorem and_all : ∀ a c : Fin 16, zI (16 * (a.val : Int) + (c.val : Int) - 128) &&& zI 255 = zI ((16 * (a.val : Int) + (c.val : Int) - 128) % 256) := by decide
theorem and255 {t : Int} (h1 : -128 ≤ t) (h2 : t < 128) : zI t &&& zI 255 = zI (t % 256) := by
  have h : zI (16 * (((t + 128) / 16).toNat : Int) + (((t + 128) % 16).toNat : Int) - 128) &&& zI 255 = zI ((16 * (((t + 128) / 16).toNat : Int) + (((t + 128) % 16).toNat : Int) - 128) % 256) := and_all ⟨((t + 128) / 16).toNat, by omega⟩ ⟨((t + 128) % 16).toNat, by omega⟩
  rw [show 16 * (((t + 128) / 16).toNat : Int) + (((t + 128) % 16).toNat : Int) - 128 = t by omega] at h
  exact h
/-- the byte of the reference at p: none past the end -/
def byB (T : Int → Int) (E p : Int) : Int := if p < E then T p % 256 else 0
theorem m_look2 {X : KM} {T : Int → Int} {E p : Int} {n : Nat} (h9 : X.1 227 9 = zI E) (hT : ∀ z, 0 ≤ z → z < 900 → X.1 231 z.toNat = zI (T z) ∧ -128 ≤ T z ∧ T z < 128) (h1 : 0 ≤ E) (h2 : E ≤ 900) (p1 : 0 ≤ p) (p2 : p ≤ 900) : f_X12_look2 n 227 (zI p) X = some (zI (byB T E p)) := by
  unfold f_X12_look2 byB
  by_cases w : p < E
  · have t := hT p p1 (by omega)
    have a := and255 t.2.1 t.2.2
    have t1 := t.1
    rw [if_pos w]
    simp (disch := first | omega | assumption) only [zl, h9, zleF, if_false, ixT, if_true, Nat.reduceAdd, zidx, t1, a]
  · rw [if_neg w]
    simp (disch := first | omega | assumption) only [zl, h9, zleT, if_true]
theorem byB_r {T : Int → Int} {E p : Int} : 0 ≤ byB T E p ∧ byB T E p < 256 := by
  unfold byB
  by_cases w : p < E
  · rw [if_pos w]; omega
  · rw [if_neg w]; omega
theorem m_isLetter {v : Int} {M : KM} (h1 : 0 ≤ v) (h2 : v < 256) : f_X12_isLetter (zI v) M = bI (97 ≤ v ∧ v ≤ 122) := by
  unfold f_X12_isLetter
  by_cases w : v < 97
  · rw [bIF (by omega)]
    simp (disch := first | omega | assumption) only [zl, zltT, if_true]
  · by_cases u : 122 < v
    · rw [bIF (by omega)]
      simp (disch := first | omega | assumption) only [zl, zltT, zltF, if_true, if_false]
    · rw [bIT (by omega)]
      simp (disch := first | omega | assumption) only [zl, zltF, if_false]
theorem m_isDigit {v : Int} {M : KM} (h1 : 0 ≤ v) (h2 : v < 256) : f_X12_isDigit (zI v) M = bI (48 ≤ v ∧ v ≤ 57) := by
  unfold f_X12_isDigit
  by_cases w : v < 48
  · rw [bIF (by omega)]
    simp (disch := first | omega | assumption) only [zl, zltT, if_true]
  · by_cases u : 57 < v
    · rw [bIF (by omega)]
      simp (disch := first | omega | assumption) only [zl, zltT, zltF, if_true, if_false]
    · rw [bIT (by omega)]
      simp (disch := first | omega | assumption) only [zl, zltF, if_false]
