/-! ===== land, days: letters, in the reference's loop ===== -/
theorem uJI {M : KM} {r i j : Nat} {v w : Int64} {a c : Int32} : uI (uJ (uI (uJ M r i v) r j a) r i w) r j c = uI (uJ M r i w) r j c := by
  refine Prod.ext ?_ (Prod.ext ?_ rfl)
  · funext d l
    by_cases e : d = r ∧ l = j
    · rw [e.1, e.2, uI_s, uI_s]
    · rw [uI_o e, uI_o e]
      show (uI (uJ M r i v) r j a).1 d l = M.1 d l
      rw [uI_o e]; rfl
  · funext d l
    show (uJ (uI (uJ M r i v) r j a) r i w).2.1 d l = (uJ M r i w).2.1 d l
    by_cases e : d = r ∧ l = i
    · rw [e.1, e.2, uJ_s, uJ_s]
    · rw [uJ_o e, uJ_o e]
      show (uJ M r i v).2.1 d l = _
      rw [uJ_o e]
