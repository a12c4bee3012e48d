abbrev KM : Type := (Nat → Nat → Int32) × (Nat → Nat → Int64) × (Nat → Nat → Nat)
def uI (M : KM) (a k : Nat) (v : Int32) : KM := (fun b => if b = a then upd (M.1 b) k v else M.1 b, M.2.1, M.2.2)
def uJ (M : KM) (a k : Nat) (v : Int64) : KM := (M.1, fun b => if b = a then vp_updL (M.2.1 b) k v else M.2.1 b, M.2.2)
def uR (M : KM) (a k : Nat) (v : Nat) : KM := (M.1, M.2.1, fun b q => if b = a ∧ q = k then v else M.2.2 b q)
def uIs (M : KM) (a : Nat) (f : Nat → Int32) : KM := (fun b => if b = a then f else M.1 b, M.2.1, M.2.2)
def uJs (M : KM) (a : Nat) (f : Nat → Int64) : KM := (M.1, fun b => if b = a then f else M.2.1 b, M.2.2)
abbrev ix (i : Int32) (n : Nat) : Prop := ¬ (i < 0 ∨ n ≤ i.toNatClampNeg)
def lt {α β : Type} (e : α) (f : α → β) : β := f e
