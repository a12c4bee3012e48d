/-! ===== land, days: a number ===== -/
theorem uI_4 {M : KM} {r i j : Nat} (h : ¬ i = j) {a b c d : Int32} : uI (uI (uI (uI M r i a) r j b) r i c) r j d = uI (uI M r i c) r j d := by
  refine Prod.ext ?_ rfl
  funext e l
  by_cases w : e = r ∧ l = j
  · rw [w.1, w.2, uI_s, uI_s]
  · rw [uI_o w, uI_o w]
    by_cases v : e = r ∧ l = i
    · rw [v.1, v.2, uI_s, uI_s]
    · rw [uI_o v, uI_o v, uI_o w, uI_o v]
/-- over digits: where they end, and the number of the first four -/
def nuB (T : Int → Int) (E s : Int) : Nat → Int → Int → Int × Int
  | 0, p, v => (p, v)
  | k + 1, p, v => if p < E ∧ 48 ≤ T p ∧ T p ≤ 57 then nuB T E s k (p + 1) (if 4 ≤ p - s then v else v * 10 + T p - 48) else (p, v)
