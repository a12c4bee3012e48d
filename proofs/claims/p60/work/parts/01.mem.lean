abbrev KM : Type := (Nat → Nat → Int32) × (Nat → Nat → Int64) × (Nat → Nat → Nat)
def uI (M : KM) (a k : Nat) (v : Int32) : KM := (fun b => if b = a then upd (M.1 b) k v else M.1 b, M.2.1, M.2.2)
def uJ (M : KM) (a k : Nat) (v : Int64) : KM := (M.1, fun b => if b = a then vp_updL (M.2.1 b) k v else M.2.1 b, M.2.2)
def uR (M : KM) (a k : Nat) (v : Nat) : KM := (M.1, M.2.1, fun b q => if b = a ∧ q = k then v else M.2.2 b q)
def uIs (M : KM) (a : Nat) (f : Nat → Int32) : KM := (fun b => if b = a then f else M.1 b, M.2.1, M.2.2)
def uJs (M : KM) (a : Nat) (f : Nat → Int64) : KM := (M.1, fun b => if b = a then f else M.2.1 b, M.2.2)
def kts : List Nat := [11, 20, 21, 22, 23, 4, 24, 25, 1, 24, 25, 26, 5, 27, 7, 28, 28, 29, 29, 6, 28, 28, 2, 3, 29, 30, 30, 30, 31, 32, 2, 9, 27, 27, 27, 27, 27, 8, 30, 28, 8, 30, 28, 8, 30, 28, 8, 30, 28, 8, 30, 28, 8, 30, 28, 8, 30, 28, 8, 30, 28, 3, 29, 30, 30, 30, 31, 32, 2, 9, 27, 27, 27, 27, 27, 8, 30, 28, 8, 30, 28, 8, 30, 28, 8, 30, 28, 8, 30, 28, 8, 30, 28, 8, 30, 28, 8, 30, 28, 9, 27, 27, 27, 27, 27, 10, 33, 10, 33, 10, 33, 10, 33, 3, 29, 30, 30, 30, 31, 32, 2, 9, 27, 27, 27, 27, 27, 8, 30, 28, 8, 30, 28, 8, 30, 28, 8, 30, 28, 8, 30, 28, 8, 30, 28, 8, 30, 28, 8, 30, 28, 3, 29, 30, 30, 30, 31, 32, 2, 9, 27, 27, 27, 27, 27, 8, 30, 28, 8, 30, 28, 8, 30, 28, 8, 30, 28, 8, 30, 28, 8, 30, 28, 8, 30, 28, 8, 30, 28, 3, 29, 30, 30, 30, 31, 32, 2, 9, 27, 27, 27, 27, 27, 8, 30, 28, 8, 30, 28, 8, 30, 28, 8, 30, 28, 8, 30, 28, 8, 30, 28, 8, 30, 28, 8, 30, 28, 34, 35]
abbrev NK : Nat := 229
def kty (a : Nat) : Nat := kts.getD a 0
abbrev ix (i : Int32) (n : Nat) : Prop := ¬ (i < 0 ∨ n ≤ i.toNatClampNeg)
def lt {α β : Type} (e : α) (f : α → β) : β := f e
def ktl (t : Nat) : Nat := if t = 21 then 900 else 0
