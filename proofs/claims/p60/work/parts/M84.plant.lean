/-! ===== sets of roads as numbers ===== -/
def sN (s r : Nat) : Bool := (s / 2 ^ r) % 2 == 1
theorem has12a : ∀ a c : Fin 64, ∀ r : Fin 12, ((zI ((64 * a.val + c.val : Nat) : Int) >>> (zI (r.val : Int) &&& zI 31)) &&& zI 1 = zI 1) ↔ sN (64 * a.val + c.val) r.val = true := by decide +kernel
theorem has12 (s : Fin 4096) (r : Fin 12) : ((zI (s.val : Int) >>> (zI (r.val : Int) &&& zI 31)) &&& zI 1 = zI 1) ↔ sN s.val r.val = true := by
  have e := has12a ⟨s.val / 64, by omega⟩ ⟨s.val % 64, by omega⟩ r
  have h : 64 * (s.val / 64) + s.val % 64 = s.val := by omega
  simp only [h] at e
  exact e
def sB (s : Int) : Int → Bool := fun r => sN s.toNat r.toNat
def pw (r : Int) : Int := 2 ^ r.toNat
theorem shl12 : ∀ r : Fin 13, zI 1 <<< (zI (r.val : Int) &&& zI 31) = zI (pw (r.val : Int)) ∧ 1 ≤ pw (r.val : Int) ∧ pw (r.val : Int) ≤ 4096 := by decide
theorem shl_pw {r : Int} (h1 : 0 ≤ r) (h2 : r ≤ 12) : zI 1 <<< (zI r &&& zI 31) = zI (pw r) := by
  have e := (shl12 ⟨r.toNat, by omega⟩).1
  simp only [Int.toNat_of_nonneg h1] at e
  exact e
theorem pw_r {r : Int} (h1 : 0 ≤ r) (h2 : r ≤ 12) : 1 ≤ pw r ∧ pw r ≤ 4096 := by
  have e := (shl12 ⟨r.toNat, by omega⟩).2
  simp only [Int.toNat_of_nonneg h1] at e
  exact e
def sz (s : Int) : Int := sumB (fun k => if sB s k = true then 1 else 0) 12
def wP (U : Int → Bool) : Int := sumB (fun k => if U k = true then 4096 + pw k else 0) 12
def nU (U : Int → Bool) : Int := sumB (fun k => if U k = true then pw k else 0) 12
theorem w_sza : ∀ a c : Fin 64, wP (sB ((64 * a.val + c.val : Nat) : Int)) = 4096 * sz ((64 * a.val + c.val : Nat) : Int) + ((64 * a.val + c.val : Nat) : Int) := by decide +kernel
theorem w_sz (s : Fin 4096) : wP (sB (s.val : Int)) = 4096 * sz (s.val : Int) + (s.val : Int) := by
  have e := w_sza ⟨s.val / 64, by omega⟩ ⟨s.val % 64, by omega⟩
  have h : 64 * (s.val / 64) + s.val % 64 = s.val := by omega
  simp only [h] at e
  exact e
def nb (p0 p1 p2 p3 p4 p5 p6 p7 p8 p9 p10 p11 : Bool) : Nat := (if p0 then 1 else 0) + (if p1 then 2 else 0) + (if p2 then 4 else 0) + (if p3 then 8 else 0) + (if p4 then 16 else 0) + (if p5 then 32 else 0) + (if p6 then 64 else 0) + (if p7 then 128 else 0) + (if p8 then 256 else 0) + (if p9 then 512 else 0) + (if p10 then 1024 else 0) + (if p11 then 2048 else 0)
theorem nb_bits : ∀ p0 p1 p2 p3 p4 p5 p6 p7 p8 p9 p10 p11 : Bool, sN (nb p0 p1 p2 p3 p4 p5 p6 p7 p8 p9 p10 p11) 0 = p0 ∧ sN (nb p0 p1 p2 p3 p4 p5 p6 p7 p8 p9 p10 p11) 1 = p1 ∧ sN (nb p0 p1 p2 p3 p4 p5 p6 p7 p8 p9 p10 p11) 2 = p2 ∧ sN (nb p0 p1 p2 p3 p4 p5 p6 p7 p8 p9 p10 p11) 3 = p3 ∧ sN (nb p0 p1 p2 p3 p4 p5 p6 p7 p8 p9 p10 p11) 4 = p4 ∧ sN (nb p0 p1 p2 p3 p4 p5 p6 p7 p8 p9 p10 p11) 5 = p5 ∧ sN (nb p0 p1 p2 p3 p4 p5 p6 p7 p8 p9 p10 p11) 6 = p6 ∧ sN (nb p0 p1 p2 p3 p4 p5 p6 p7 p8 p9 p10 p11) 7 = p7 ∧ sN (nb p0 p1 p2 p3 p4 p5 p6 p7 p8 p9 p10 p11) 8 = p8 ∧ sN (nb p0 p1 p2 p3 p4 p5 p6 p7 p8 p9 p10 p11) 9 = p9 ∧ sN (nb p0 p1 p2 p3 p4 p5 p6 p7 p8 p9 p10 p11) 10 = p10 ∧ sN (nb p0 p1 p2 p3 p4 p5 p6 p7 p8 p9 p10 p11) 11 = p11 := by decide +kernel
theorem sum12 {f : Int → Int} : sumB f 12 = f 0 + f 1 + f 2 + f 3 + f 4 + f 5 + f 6 + f 7 + f 8 + f 9 + f 10 + f 11 := by
  show 0 + f 0 + f (0 + 1) + f (0 + 1 + 1) + f (0 + 1 + 1 + 1) + f (0 + 1 + 1 + 1 + 1) + f (0 + 1 + 1 + 1 + 1 + 1) + f (0 + 1 + 1 + 1 + 1 + 1 + 1) + f (0 + 1 + 1 + 1 + 1 + 1 + 1 + 1) + f (0 + 1 + 1 + 1 + 1 + 1 + 1 + 1 + 1) + f (0 + 1 + 1 + 1 + 1 + 1 + 1 + 1 + 1 + 1) + f (0 + 1 + 1 + 1 + 1 + 1 + 1 + 1 + 1 + 1 + 1) + f (0 + 1 + 1 + 1 + 1 + 1 + 1 + 1 + 1 + 1 + 1 + 1) = _
  rw [Int.zero_add]
  rfl
theorem nU_nb (U : Int → Bool) : nU U = (nb (U 0) (U 1) (U 2) (U 3) (U 4) (U 5) (U 6) (U 7) (U 8) (U 9) (U 10) (U 11) : Nat) := by
  unfold nU nb
  rw [sum12]
  have c : ∀ (p : Bool) (k : Nat), (if p = true then (k : Int) else 0) = ((if p = true then k else 0 : Nat) : Int) := fun p k => by
    cases p <;> rfl
  rw [show pw 0 = ((1 : Nat) : Int) from rfl, show pw 1 = ((2 : Nat) : Int) from rfl, show pw 2 = ((4 : Nat) : Int) from rfl, show pw 3 = ((8 : Nat) : Int) from rfl, show pw 4 = ((16 : Nat) : Int) from rfl, show pw 5 = ((32 : Nat) : Int) from rfl, show pw 6 = ((64 : Nat) : Int) from rfl, show pw 7 = ((128 : Nat) : Int) from rfl, show pw 8 = ((256 : Nat) : Int) from rfl, show pw 9 = ((512 : Nat) : Int) from rfl, show pw 10 = ((1024 : Nat) : Int) from rfl, show pw 11 = ((2048 : Nat) : Int) from rfl]
  simp only [c]
  omega
theorem sB_nU {U : Int → Bool} {r : Int} (h1 : 0 ≤ r) (h2 : r < 12) : sB (nU U) r = U r := by
  unfold sB
  rw [nU_nb, Int.toNat_natCast]
  obtain ⟨e0, e1, e2, e3, e4, e5, e6, e7, e8, e9, e10, e11⟩ := nb_bits (U 0) (U 1) (U 2) (U 3) (U 4) (U 5) (U 6) (U 7) (U 8) (U 9) (U 10) (U 11)
  have : r = 0 ∨ r = 1 ∨ r = 2 ∨ r = 3 ∨ r = 4 ∨ r = 5 ∨ r = 6 ∨ r = 7 ∨ r = 8 ∨ r = 9 ∨ r = 10 ∨ r = 11 := by omega
  rcases this with rfl | rfl | rfl | rfl | rfl | rfl | rfl | rfl | rfl | rfl | rfl | rfl
  · exact e0
  · exact e1
  · exact e2
  · exact e3
  · exact e4
  · exact e5
  · exact e6
  · exact e7
  · exact e8
  · exact e9
  · exact e10
  · exact e11
theorem pw_sum : ∀ k : Fin 13, sumB pw (k.val : Int) = pw (k.val : Int) - 1 := by decide
theorem nU_r {U : Int → Bool} {k : Int} (h0 : 0 ≤ k) (h1 : k ≤ 12) (hU : ∀ r, U r = true → 0 ≤ r ∧ r < k) : 0 ≤ nU U ∧ nU U < pw k := by
  refine ⟨by rw [nU_nb]; omega, ?_⟩
  have e : nU U = sumB (fun r => if U r = true then pw r else 0) k := (sumB_z h0 h1 (fun j j1 j2 => if_neg (fun z => by have := hU j z; omega))).symm
  have s := sum_lt (f := fun r => if U r = true then pw r else 0) (h := pw) (q := -1) k.toNat 0 0 0 0 (fun j j1 j2 => by
    rw [if_neg (show ¬ j = -1 by omega)]
    have := pw_r j1 (show j ≤ 12 by omega)
    by_cases z : U j = true
    · rw [if_pos z]; omega
    · rw [if_neg z]; omega) (by decide)
  rw [if_neg (by omega)] at s
  have s : sumB (fun r => if U r = true then pw r else 0) k + 0 + 0 ≤ sumB pw k := s
  have p := pw_sum ⟨k.toNat, by omega⟩
  simp only [Int.toNat_of_nonneg h0] at p
  omega
theorem w_of {U : Int → Bool} (hU : ∀ r, U r = true → 0 ≤ r ∧ r < 12) : wP U = 4096 * sz (nU U) + nU U := by
  have r := nU_r (by decide) (by decide) hU
  have r2 : nU U < 4096 := r.2
  have e := w_sz ⟨(nU U).toNat, by omega⟩
  simp only [Int.toNat_of_nonneg r.1] at e
  rw [← e]
  unfold wP
  exact sumB_c (fun j j1 j2 => by rw [sB_nU j1 j2])
theorem wP_ad {U : Int → Bool} {r : Int} (h1 : 0 ≤ r) (h2 : r < 12) (h : U r = false) : wP (adA U r) = wP U + (4096 + pw r) := by
  unfold wP
  refine sumB_one (q := r) ?_ (fun i hi => by rw [adA_o hi]) h1 h2
  rw [adA_s, if_pos rfl, h, if_neg (by decide)]; omega
theorem wP_0 {U : Int → Bool} : 0 ≤ wP U := by
  have s := sum_lt (f := fun _ => 0) (h := fun k => if U k = true then 4096 + pw k else 0) (q := -1) 12 0 0 0 0 (fun j j1 j2 => by
    rw [if_neg (by omega)]
    have := pw_r j1 (show j ≤ 12 by omega)
    by_cases z : U j = true
    · rw [if_pos z]; omega
    · rw [if_neg z]; omega) (by decide)
  rw [if_neg (by omega)] at s
  have s : (0 : Int) + 0 + 0 ≤ wP U := s
  omega
