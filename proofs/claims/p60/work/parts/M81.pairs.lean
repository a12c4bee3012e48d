/-! ===== pairs: the reference's order ===== -/
/-- all asked who are sighted and ahead of i, but p -/
def FinX (b : Int → Int) (i p : Int) (s : PST) : Prop := ∀ x, sgt b x → x < i → ¬ x = p → ¬ s.1 x = -1 ∨ ∀ q, bld b q → s.2 x q = true
def NoA (i : Int) (s : PST) : Prop := ∀ x q, i ≤ x → s.2 x q = false
theorem asM_cm {m : Int → Int} {p q : Int} (h : ¬ m q = -1) (h1 : ¬ m q = p) (h2 : ¬ m q = q) : bu (bu (bu m q p) p q) (m q) (-1) = asM m p q := by
  unfold asM
  rw [if_neg h]
  funext j
  by_cases e : j = m q
  · rw [e, bu_s, bu_o h1, bu_o h2, bu_s]
  · rw [bu_o e]
    by_cases e2 : j = p
    · rw [e2, bu_s, bu_s]
    · rw [bu_o e2, bu_o e2]
      by_cases e3 : j = q
      · rw [e3, bu_s, bu_s]
      · rw [bu_o e3, bu_o e3, bu_o e]
theorem asM_v {m : Int → Int} {p q j : Int} (h1 : ¬ j = p) (h2 : ¬ j = q) (h3 : ¬ j = m q ∨ m q = -1) : asM m p q j = m j := by
  unfold asM
  rw [bu_o h1, bu_o h2]
  by_cases e : m q = -1
  · rw [if_pos e]
  · rw [if_neg e, bu_o (h3.resolve_right e)]
