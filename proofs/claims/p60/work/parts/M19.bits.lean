/-! ===== sets as numbers ===== -/
def hasS (s i : Int) : Bool := s.toNat.testBit i.toNat
def szS (s : Int) : Int := sumB (fun i => if hasS s i = true then 1 else 0) 12
theorem hs_all : ∀ s : Fin 256, ∀ i : Fin 8, (decide ((zI (s.val : Int) &&& (zI 1 <<< (zI (i.val : Int) &&& zI 31))) = zI 0) = !(Nat.testBit s.val i.val)) := by decide +kernel
theorem hs_c {s i : Int} (h1 : 0 ≤ s) (h2 : s < 256) (h3 : 0 ≤ i) (h4 : i < 8) : ((zI s &&& (zI 1 <<< (zI i &&& zI 31))) = zI 0) = ¬ (hasS s i = true) := by
  have e := hs_all ⟨s.toNat, by omega⟩ ⟨i.toNat, by omega⟩
  simp only [Int.toNat_of_nonneg h1, Int.toNat_of_nonneg h3] at e
  unfold hasS
  generalize Nat.testBit s.toNat i.toNat = v at *
  cases v
  · simp at e ⊢; exact e
  · simp at e ⊢; exact e
theorem hm_all : ∀ a c : Fin 64, ∀ i : Fin 12, (decide (((zI ((64 * a.val + c.val : Nat) : Int) >>> (zI (i.val : Int) &&& zI 31)) &&& zI 1) = zI 1) = Nat.testBit (64 * a.val + c.val) i.val) := by decide +kernel
theorem bc_all : ∀ s : Fin 256, ∀ M : KM, True := fun _ _ => trivial
def bcn (p0 : Int32) : Int32 := f_J6_bitCount_0f7a4 p0 (fun _ _ => 0, fun _ _ => 0, fun _ _ => 0)
theorem bc_M (p0 : Int32) (M : KM) : f_J6_bitCount_0f7a4 p0 M = bcn p0 := rfl
theorem bcn_all : ∀ s : Fin 256, bcn (zI (s.val : Int)) = zI (szS (s.val : Int)) := by decide +kernel
theorem c_bitCount {s : Int} {M : KM} (h1 : 0 ≤ s) (h2 : s < 256) : f_J6_bitCount_0f7a4 (zI s) M = zI (szS s) := by
  have e := bcn_all ⟨s.toNat, by omega⟩
  simp only [Int.toNat_of_nonneg h1] at e
  rw [bc_M]; exact e
theorem sz_all : ∀ a c : Fin 64, 0 ≤ szS ((64 * a.val + c.val : Nat) : Int) ∧ szS ((64 * a.val + c.val : Nat) : Int) ≤ 12 := by decide +kernel
theorem sz_r {s : Int} (h1 : 0 ≤ s) (h2 : s < 4096) : 0 ≤ szS s ∧ szS s ≤ 12 := by
  have e := sz_all ⟨s.toNat / 64, by omega⟩ ⟨s.toNat % 64, by omega⟩
  simp only [show 64 * (s.toNat / 64) + s.toNat % 64 = s.toNat by omega, Int.toNat_of_nonneg h1] at e
  exact e
theorem sl_all : ∀ i : Fin 13, (zI 1 <<< (zI (i.val : Int) &&& zI 31)) = zI (2 ^ i.val) := by decide +kernel
theorem sl_1 {i : Int} (h1 : 0 ≤ i) (h2 : i < 13) : (zI 1 <<< (zI i &&& zI 31)) = zI (2 ^ i.toNat) := by
  have e := sl_all ⟨i.toNat, by omega⟩
  simp only [Int.toNat_of_nonneg h1] at e
  exact e
theorem p2_all : ∀ i : Fin 9, 1 ≤ (2 : Int) ^ i.val ∧ (2 : Int) ^ i.val ≤ 256 := by decide +kernel
theorem p2_r {i : Int} (h1 : 0 ≤ i) (h2 : i < 9) : 1 ≤ (2 : Int) ^ i.toNat ∧ (2 : Int) ^ i.toNat ≤ 256 := p2_all ⟨i.toNat, by omega⟩

