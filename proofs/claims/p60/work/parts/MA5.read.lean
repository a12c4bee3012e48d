/-! ===== land: hours, and what is told once ===== -/
/-- one after the other, as the class does -/
def sq (f g : KM → Option (Int32 × KM)) (M : KM) : Option (Int32 × KM) :=
  (f M).bind fun (v2 : (Int32 × KM)) =>
    if v2.1 = 0 then
      some ((0 : Int32), v2.2)
    else
      (g v2.2).bind fun (v3 : (Int32 × KM)) =>
      if v3.1 = 0 then
        some ((0 : Int32), v3.2)
      else
        some ((1 : Int32), v3.2)
theorem sq_0 {f g : KM → Option (Int32 × KM)} {M M' : KM} (h : f M = some (zI 0, M')) : sq f g M = some (zI 0, M') := by
  unfold sq
  rw [h]; rfl
theorem sq_1 {f g : KM → Option (Int32 × KM)} {M M1 M' : KM} {r : Int32} (h : f M = some (zI 1, M1)) (h2 : g M1 = some (r, M')) (hr : r = zI 1 ∨ r = zI 0) : sq f g M = some (r, M') := by
  unfold sq
  rw [h]
  simp only [Option.bind_some]
  rw [if_neg (by decide), h2]
  simp only [Option.bind_some]
  rcases hr with hr | hr
  · rw [hr, if_neg (by decide)]; rfl
  · rw [hr, if_pos (by decide)]; rfl
theorem BD_w {a : Nat} {M X : KM} {k : Nat} {v : Int32} (h : BD a M X) : BD a M (uI X 232 k v) := BD_of rfl rfl (uI_o (by omega)) (uI_o (by omega)) h
theorem FX_w {X X' : KM} {k : Nat} {v : Int32} (hk : 2248 ≤ k) (h : FX X X') : FX X (uI X' 232 k v) := ⟨fun c i w u => by rw [uI_o (by omega)]; exact h.1 c i w u, h.2.1, h.2.2⟩
/-- the heads of the block, as the reference has them -/
theorem LB_head {S : Nat} {b : Int → Int} {M X : KM} (h : LB S b M X) : M.1 S 11 = zI (b 2253) ∧ M.1 S 12 = zI (b 2254) ∧ M.1 S 13 = zI (b 2255) ∧ M.1 S 14 = zI (b 2256) ∧ M.1 (S + 7) 0 = zI (b 2251) ∧ M.1 (S + 7) 1 = zI (b 2252) ∧ M.1 (S + 7) 2 = zI ((b 2252 - b 2251) * 60) ∧ 0 ≤ b 2248 ∧ b 2248 ≤ 8 ∧ 0 ≤ b 2251 ∧ b 2251 < b 2252 ∧ b 2252 ≤ 24 ∧ 0 ≤ b 2253 ∧ b 2253 ≤ 1439 ∧ 1 ≤ b 2254 ∧ b 2254 ≤ 9 ∧ 1 ≤ b 2255 ∧ b 2255 ≤ 9 ∧ 0 ≤ b 2256 ∧ b 2256 ≤ 16 := by
  obtain ⟨a1, a2, a3, -⟩ := h
  have hh := a2.1
  obtain ⟨c0, c1, c2, c5, c6, c7, c8, c9, c3, c4, cd, -⟩ := a3
  have s0 : sh b 2248 0 = b 2248 := sh_at (by omega) (by omega)
  have s3 : sh b 2248 3 = b 2251 := sh_at (by omega) (by omega)
  have s4 : sh b 2248 4 = b 2252 := sh_at (by omega) (by omega)
  have s5 : sh b 2248 5 = b 2253 := sh_at (by omega) (by omega)
  have s6 : sh b 2248 6 = b 2254 := sh_at (by omega) (by omega)
  have s7 : sh b 2248 7 = b 2255 := sh_at (by omega) (by omega)
  have s8 : sh b 2248 8 = b 2256 := sh_at (by omega) (by omega)
  rw [s0, s3, s4, s5, s6, s7, s8] at hh
  rw [s5] at c5
  rw [s6] at c6
  rw [s7] at c7
  rw [s8] at c8
  rw [s3] at c3
  rw [s4] at c4
  rw [s3, s4] at cd
  exact ⟨c5, c6, c7, c8, c3, c4, cd, by omega⟩
theorem row_bu {X : KM} {b : Int → Int} {e v : Int} (he : 0 ≤ e) (h : ∀ k : Nat, X.1 232 k = zI (b k)) : ∀ k : Nat, (uI X 232 e.toNat (zI v)).1 232 k = zI (bu b e v k) := fun k => by
  by_cases q : k = e.toNat
  · rw [q, uI_s, Int.toNat_of_nonneg he, bu_s]
  · rw [uI_o (by omega), bu_o (by omega)]; exact h k
