/-! ===== one road tried, by the reference ===== -/
def rs (M : KM) (a : Nat) (T : Int → Int) : KM := (fun c k => if c = a ∧ k < 8 then zI (T k) else M.1 c k, M.2)
theorem rs_s {M : KM} {a : Nat} {T : Int → Int} {z : Int} (h : 0 ≤ z) (h2 : z < 8) : (rs M a T).1 a z.toNat = zI (T z) := by
  show (if a = a ∧ z.toNat < 8 then _ else _) = _
  rw [if_pos ⟨rfl, by omega⟩, Int.toNat_of_nonneg h]
theorem rs_o {M : KM} {a c k : Nat} {T : Int → Int} (h : ¬ c = a) : (rs M a T).1 c k = M.1 c k := if_neg (fun z => h z.1)
theorem rs_2 {M : KM} {a : Nat} {T : Int → Int} : (rs M a T).2 = M.2 := rfl
theorem rs_c {M : KM} {a : Nat} {T U : Int → Int} (h : ∀ j, 0 ≤ j → j < 8 → T j = U j) : rs M a T = rs M a U := by
  refine Prod.ext ?_ rfl
  funext c k
  show (if c = a ∧ k < 8 then _ else _) = (if c = a ∧ k < 8 then _ else _)
  by_cases e : c = a ∧ k < 8
  · rw [if_pos e, if_pos e, h _ (by omega) (by omega)]
  · rw [if_neg e, if_neg e]
theorem rs_ex (M : KM) (a : Nat) : M = rs M a (fun z => (M.1 a z.toNat).toInt) := by
  refine Prod.ext ?_ rfl
  funext c k
  show _ = (if c = a ∧ k < 8 then _ else _)
  by_cases e : c = a ∧ k < 8
  · rw [if_pos e, e.1, ← z_of, Int.toNat_natCast]
  · rw [if_neg e]
theorem rs_u {M : KM} {a : Nat} {T : Int → Int} {z v : Int} (h : 0 ≤ z) (h2 : z < 8) : uI (rs M a T) a z.toNat (zI v) = rs M a (bu T z v) := by
  refine Prod.ext ?_ rfl
  funext c k
  by_cases e : c = a
  · subst e
    by_cases e2 : k = z.toNat
    · subst e2
      rw [uI_s, rs_s h h2, bu_s]
    · rw [uI_o (fun z => e2 z.2)]
      show (if c = c ∧ k < 8 then _ else _) = (if c = c ∧ k < 8 then _ else _)
      by_cases e3 : k < 8
      · rw [if_pos ⟨rfl, e3⟩, if_pos ⟨rfl, e3⟩, bu_o (by omega)]
      · rw [if_neg (fun z => e3 z.2), if_neg (fun z => e3 z.2)]
  · rw [uI_o (fun z => e z.1), rs_o e, rs_o e]
def nT (T : Int → Int) : Int → Int := fun j => nv (T j)
theorem nT_u {T : Int → Int} {z v : Int} (hv : v < 1000000000) : bu (nT T) z v = nT (bu T z v) := by
  funext j
  by_cases e : j = z
  · subst e
    rw [bu_s]
    show v = nv (bu T j v j)
    rw [bu_s]
    exact (if_pos hv).symm
  · rw [bu_o e]
    show nv (T j) = nv (bu T z v j)
    rw [bu_o e]
abbrev okT (T : Int → Int) : Prop := ∀ j, 0 ≤ j → j < 8 → 0 ≤ T j ∧ (T j ≤ 900000 ∨ T j = 1000000000)
/-- from f to t by road r, if that is sooner -/
def rlx (b : Int → Int) (p q r f t : Int) (T : Int → Int) : Int → Int := if a2I b p q r (T f) < T t then bu T t (a2I b p q r (T f)) else T
