/-! ===== land, days: words, numbers, marks taken by both ===== -/
def NX (T : Int → Int) (E : Int) (a : Nat) (s : Int) (M X M' X' : KM) : Prop := ∃ s' k' j' v', GD T E a s' k' j' v' M' X' ∧ s < s' ∧ M'.1 a 11 = zI s ∧ FC a M M' ∧ GC X X'
