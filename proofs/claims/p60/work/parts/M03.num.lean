/-! ===== numbers by their values ===== -/
def zI (z : Int) : Int32 := Int32.ofInt z
def lI (z : Int) : Int64 := Int64.ofInt z
theorem zI_toInt {z : Int} (h1 : -2147483648 ≤ z) (h2 : z < 2147483648) : (zI z).toInt = z := Int32.toInt_ofInt_of_le h1 h2
theorem lI_toInt {z : Int} (h1 : -9223372036854775808 ≤ z) (h2 : z < 9223372036854775808) : (lI z).toInt = z := Int64.toInt_ofInt_of_le h1 h2
theorem z_of (x : Int32) : x = zI x.toInt := (Int32.ofInt_toInt x).symm
theorem l_of (x : Int64) : x = lI x.toInt := (Int64.ofInt_toInt x).symm
theorem z_ex (x : Int32) : ∃ z, -2147483648 ≤ z ∧ z < 2147483648 ∧ x = zI z := ⟨x.toInt, Int32.le_toInt x, Int32.toInt_lt x, z_of x⟩
theorem l_ex (x : Int64) : ∃ z, -9223372036854775808 ≤ z ∧ z < 9223372036854775808 ∧ x = lI z := ⟨x.toInt, Int64.le_toInt x, Int64.toInt_lt x, l_of x⟩
theorem zadd (a b : Int) : zI a + zI b = zI (a + b) := (Int32.ofInt_add a b).symm
theorem zsub (a b : Int) : zI a - zI b = zI (a - b) := (Int32.ofInt_sub a b).symm
theorem zmul (a b : Int) : zI a * zI b = zI (a * b) := (Int32.ofInt_mul a b).symm
theorem zneg (a : Int) : -zI a = zI (-a) := (Int32.ofInt_neg a).symm
theorem ladd (a b : Int) : lI a + lI b = lI (a + b) := (Int64.ofInt_add a b).symm
theorem lsub (a b : Int) : lI a - lI b = lI (a - b) := (Int64.ofInt_sub a b).symm
theorem lmul (a b : Int) : lI a * lI b = lI (a * b) := (Int64.ofInt_mul a b).symm
theorem lneg (a : Int) : -lI a = lI (-a) := (Int64.ofInt_neg a).symm
theorem zlt {a b : Int} (h1 : -2147483648 ≤ a) (h2 : a < 2147483648) (h3 : -2147483648 ≤ b) (h4 : b < 2147483648) : (zI a < zI b) = (a < b) := by rw [Int32.lt_iff_toInt_lt, zI_toInt h1 h2, zI_toInt h3 h4]
theorem zle {a b : Int} (h1 : -2147483648 ≤ a) (h2 : a < 2147483648) (h3 : -2147483648 ≤ b) (h4 : b < 2147483648) : (zI a ≤ zI b) = (a ≤ b) := by rw [Int32.le_iff_toInt_le, zI_toInt h1 h2, zI_toInt h3 h4]
theorem zeq {a b : Int} (h1 : -2147483648 ≤ a) (h2 : a < 2147483648) (h3 : -2147483648 ≤ b) (h4 : b < 2147483648) : (zI a = zI b) = (a = b) := by rw [← Int32.toInt_inj, zI_toInt h1 h2, zI_toInt h3 h4]
theorem zltT {a b : Int} (h : a < b) (h1 : -2147483648 ≤ a) (h4 : b < 2147483648) : (zI a < zI b) = True := by rw [zlt h1 (by omega) (by omega) h4]; exact eq_true h
theorem zltF {a b : Int} (h : b ≤ a) (h1 : -2147483648 ≤ b) (h4 : a < 2147483648) : (zI a < zI b) = False := by rw [zlt (by omega) h4 h1 (by omega)]; exact eq_false (by omega)
theorem zleT {a b : Int} (h : a ≤ b) (h1 : -2147483648 ≤ a) (h4 : b < 2147483648) : (zI a ≤ zI b) = True := by rw [zle h1 (by omega) (by omega) h4]; exact eq_true h
theorem zleF {a b : Int} (h : b < a) (h1 : -2147483648 ≤ b) (h4 : a < 2147483648) : (zI a ≤ zI b) = False := by rw [zle (by omega) h4 h1 (by omega)]; exact eq_false (by omega)
theorem zeqT {a b : Int} (h : a = b) : (zI a = zI b) = True := eq_true (by rw [h])
theorem zeqF {a b : Int} (h : ¬ a = b) (h1 : -2147483648 ≤ a) (h2 : a < 2147483648) (h3 : -2147483648 ≤ b) (h4 : b < 2147483648) : (zI a = zI b) = False := by rw [zeq h1 h2 h3 h4]; exact eq_false h
theorem zidx {a : Int} (h1 : -2147483648 ≤ a) (h2 : a < 2147483648) : (zI a).toNatClampNeg = a.toNat := Int32.toNatClampNeg_ofInt_of_le h1 h2
theorem ixT {a : Int} {n : Nat} (h0 : 0 ≤ a) (h1 : a < (n : Int)) (h2 : a < 2147483648) : ix (zI a) n = True := by
  refine eq_true ?_
  intro h
  rcases h with h | h
  · rw [show (0 : Int32) = zI 0 from rfl, zltF h0 (by decide) h2] at h; exact h
  · rw [zidx (by omega) h2] at h; omega
theorem zwide {a : Int} (h1 : -2147483648 ≤ a) (h2 : a < 2147483648) : (zI a).toInt64 = lI a := by
  apply Int64.toInt_inj.mp
  rw [Int32.toInt_toInt64, zI_toInt h1 h2, lI_toInt (by omega) (by omega)]
theorem zdiv {a b : Int} (h1 : 0 ≤ a) (h2 : a < 2147483648) (h3 : 0 < b) (h4 : b < 2147483648) : zI a / zI b = zI (a / b) := by
  apply Int32.toInt_inj.mp
  have h5 : (zI b : Int32) ≠ -1 := by
    intro h
    have := congrArg Int32.toInt h
    rw [zI_toInt (by omega) h4, show (-1 : Int32).toInt = -1 from rfl] at this
    omega
  have h6 : 0 ≤ a / b := Int.ediv_nonneg h1 (by omega)
  have h7 : a / b ≤ a := Int.ediv_le_self b h1
  rw [Int32.toInt_div_of_ne_right _ _ h5, zI_toInt (by omega) h2, zI_toInt (by omega) h4, zI_toInt (by omega) (by omega), Int.tdiv_eq_ediv_of_nonneg h1]
theorem lg_lt {a b : Int} (h1 : -9223372036854775808 ≤ a) (h2 : a < 9223372036854775808) (h3 : -9223372036854775808 ≤ b) (h4 : b < 9223372036854775808) : (lg_cmp (lI a) (lI b) < 0) = (a < b) := by
  unfold lg_cmp
  have e1 : (lI a > lI b) = (b < a) := by rw [gt_iff_lt, Int64.lt_iff_toInt_lt, lI_toInt h1 h2, lI_toInt h3 h4]
  have e2 : (lI a = lI b) = (a = b) := by rw [← Int64.toInt_inj, lI_toInt h1 h2, lI_toInt h3 h4]
  simp only [e1, e2]
  by_cases q1 : b < a
  · rw [if_pos q1]; exact propext ⟨fun h => absurd h (by decide), fun h => by omega⟩
  · rw [if_neg q1]
    by_cases q2 : a = b
    · rw [if_pos q2]; exact propext ⟨fun h => absurd h (by decide), fun h => by omega⟩
    · rw [if_neg q2]; exact propext ⟨fun _ => by omega, fun _ => by decide⟩
theorem lg_gt {a b : Int} (h1 : -9223372036854775808 ≤ a) (h2 : a < 9223372036854775808) (h3 : -9223372036854775808 ≤ b) (h4 : b < 9223372036854775808) : (0 < lg_cmp (lI a) (lI b)) = (b < a) := by
  unfold lg_cmp
  have e1 : (lI a > lI b) = (b < a) := by rw [gt_iff_lt, Int64.lt_iff_toInt_lt, lI_toInt h1 h2, lI_toInt h3 h4]
  have e2 : (lI a = lI b) = (a = b) := by rw [← Int64.toInt_inj, lI_toInt h1 h2, lI_toInt h3 h4]
  simp only [e1, e2]
  by_cases q1 : b < a
  · rw [if_pos q1]; exact propext ⟨fun _ => q1, fun _ => by decide⟩
  · rw [if_neg q1]
    by_cases q2 : a = b
    · rw [if_pos q2]; exact propext ⟨fun h => absurd h (by decide), fun h => by omega⟩
    · rw [if_neg q2]; exact propext ⟨fun h => absurd h (by decide), fun h => by omega⟩
theorem lg_eq (x y : Int64) : (lg_cmp x y = 0) = (x = y) := by
  unfold lg_cmp
  by_cases q1 : x > y
  · rw [if_pos q1]
    exact propext ⟨fun h => absurd h (by decide), fun h => by rw [h] at q1; exact absurd q1 (by rw [gt_iff_lt, Int64.lt_iff_toInt_lt]; omega)⟩
  · rw [if_neg q1]
    by_cases q2 : x = y
    · rw [if_pos q2]; exact propext ⟨fun _ => q2, fun _ => rfl⟩
    · rw [if_neg q2]; exact propext ⟨fun h => absurd h (by decide), fun h => absurd h q2⟩
theorem zl : (0 : Int32) = zI 0 ∧ (1 : Int32) = zI 1 ∧ (2 : Int32) = zI 2 ∧ (3 : Int32) = zI 3 ∧ (4 : Int32) = zI 4 ∧ (5 : Int32) = zI 5 ∧ (6 : Int32) = zI 6 ∧ (7 : Int32) = zI 7 ∧ (8 : Int32) = zI 8 ∧ (9 : Int32) = zI 9 ∧ (10 : Int32) = zI 10 ∧ (11 : Int32) = zI 11 ∧ (12 : Int32) = zI 12 ∧ (13 : Int32) = zI 13 ∧ (14 : Int32) = zI 14 ∧ (15 : Int32) = zI 15 ∧ (16 : Int32) = zI 16 ∧ (17 : Int32) = zI 17 ∧ (18 : Int32) = zI 18 ∧ (19 : Int32) = zI 19 ∧ (20 : Int32) = zI 20 ∧ (21 : Int32) = zI 21 ∧ (22 : Int32) = zI 22 ∧ (23 : Int32) = zI 23 ∧ (24 : Int32) = zI 24 ∧ (25 : Int32) = zI 25 ∧ (26 : Int32) = zI 26 ∧ (27 : Int32) = zI 27 ∧ (28 : Int32) = zI 28 ∧ (29 : Int32) = zI 29 ∧ (30 : Int32) = zI 30 ∧ (31 : Int32) = zI 31 ∧ (32 : Int32) = zI 32 ∧ (33 : Int32) = zI 33 ∧ (34 : Int32) = zI 34 ∧ (35 : Int32) = zI 35 ∧ (36 : Int32) = zI 36 ∧ (37 : Int32) = zI 37 ∧ (38 : Int32) = zI 38 ∧ (39 : Int32) = zI 39 ∧ (40 : Int32) = zI 40 ∧ (41 : Int32) = zI 41 ∧ (42 : Int32) = zI 42 ∧ (43 : Int32) = zI 43 ∧ (44 : Int32) = zI 44 ∧ (45 : Int32) = zI 45 ∧ (46 : Int32) = zI 46 ∧ (47 : Int32) = zI 47 ∧ (48 : Int32) = zI 48 ∧ (49 : Int32) = zI 49 ∧ (50 : Int32) = zI 50 ∧ (51 : Int32) = zI 51 ∧ (52 : Int32) = zI 52 ∧ (53 : Int32) = zI 53 ∧ (54 : Int32) = zI 54 ∧ (55 : Int32) = zI 55 ∧ (56 : Int32) = zI 56 ∧ (57 : Int32) = zI 57 ∧ (58 : Int32) = zI 58 ∧ (59 : Int32) = zI 59 ∧ (60 : Int32) = zI 60 ∧ (61 : Int32) = zI 61 ∧ (62 : Int32) = zI 62 ∧ (63 : Int32) = zI 63 ∧ (64 : Int32) = zI 64 ∧ (66 : Int32) = zI 66 ∧ (74 : Int32) = zI 74 ∧ (82 : Int32) = zI 82 ∧ (90 : Int32) = zI 90 ∧ (97 : Int32) = zI 97 ∧ (98 : Int32) = zI 98 ∧ (99 : Int32) = zI 99 ∧ (100 : Int32) = zI 100 ∧ (101 : Int32) = zI 101 ∧ (103 : Int32) = zI 103 ∧ (104 : Int32) = zI 104 ∧ (105 : Int32) = zI 105 ∧ (106 : Int32) = zI 106 ∧ (107 : Int32) = zI 107 ∧ (108 : Int32) = zI 108 ∧ (109 : Int32) = zI 109 ∧ (110 : Int32) = zI 110 ∧ (111 : Int32) = zI 111 ∧ (112 : Int32) = zI 112 ∧ (114 : Int32) = zI 114 ∧ (115 : Int32) = zI 115 ∧ (116 : Int32) = zI 116 ∧ (117 : Int32) = zI 117 ∧ (119 : Int32) = zI 119 ∧ (121 : Int32) = zI 121 ∧ (122 : Int32) = zI 122 ∧ (130 : Int32) = zI 130 ∧ (200 : Int32) = zI 200 ∧ (226 : Int32) = zI 226 ∧ (255 : Int32) = zI 255 ∧ (290 : Int32) = zI 290 ∧ (291 : Int32) = zI 291 ∧ (292 : Int32) = zI 292 ∧ (300 : Int32) = zI 300 ∧ (480 : Int32) = zI 480 ∧ (562 : Int32) = zI 562 ∧ (600 : Int32) = zI 600 ∧ (900 : Int32) = zI 900 ∧ (999 : Int32) = zI 999 ∧ (1439 : Int32) = zI 1439 ∧ (1440 : Int32) = zI 1440 ∧ (2248 : Int32) = zI 2248 ∧ (2249 : Int32) = zI 2249 ∧ (2250 : Int32) = zI 2250 ∧ (2251 : Int32) = zI 2251 ∧ (2252 : Int32) = zI 2252 ∧ (2255 : Int32) = zI 2255 ∧ (2258 : Int32) = zI 2258 ∧ (2270 : Int32) = zI 2270 ∧ (2282 : Int32) = zI 2282 ∧ (2294 : Int32) = zI 2294 ∧ (2306 : Int32) = zI 2306 ∧ (2346 : Int32) = zI 2346 ∧ (2354 : Int32) = zI 2354 ∧ (2378 : Int32) = zI 2378 ∧ (2540 : Int32) = zI 2540 ∧ (2971 : Int32) = zI 2971 ∧ (4096 : Int32) = zI 4096 ∧ (9999 : Int32) = zI 9999 ∧ (10000 : Int32) = zI 10000 ∧ (10733 : Int32) = zI 10733 ∧ (65536 : Int32) = zI 65536 ∧ (99999 : Int32) = zI 99999 ∧ (1000000 : Int32) = zI 1000000 ∧ (252645135 : Int32) = zI 252645135 ∧ (858993459 : Int32) = zI 858993459 ∧ (1000000000 : Int32) = zI 1000000000 ∧ (1431655765 : Int32) = zI 1431655765 := ⟨rfl, rfl, rfl, rfl, rfl, rfl, rfl, rfl, rfl, rfl, rfl, rfl, rfl, rfl, rfl, rfl, rfl, rfl, rfl, rfl, rfl, rfl, rfl, rfl, rfl, rfl, rfl, rfl, rfl, rfl, rfl, rfl, rfl, rfl, rfl, rfl, rfl, rfl, rfl, rfl, rfl, rfl, rfl, rfl, rfl, rfl, rfl, rfl, rfl, rfl, rfl, rfl, rfl, rfl, rfl, rfl, rfl, rfl, rfl, rfl, rfl, rfl, rfl, rfl, rfl, rfl, rfl, rfl, rfl, rfl, rfl, rfl, rfl, rfl, rfl, rfl, rfl, rfl, rfl, rfl, rfl, rfl, rfl, rfl, rfl, rfl, rfl, rfl, rfl, rfl, rfl, rfl, rfl, rfl, rfl, rfl, rfl, rfl, rfl, rfl, rfl, rfl, rfl, rfl, rfl, rfl, rfl, rfl, rfl, rfl, rfl, rfl, rfl, rfl, rfl, rfl, rfl, rfl, rfl, rfl, rfl, rfl, rfl, rfl, rfl, rfl, rfl, rfl, rfl, rfl, rfl, rfl, rfl⟩
theorem ll : (0 : Int64) = lI 0 ∧ (1 : Int64) = lI 1 ∧ (3 : Int64) = lI 3 ∧ (4 : Int64) = lI 4 ∧ (5 : Int64) = lI 5 ∧ (10 : Int64) = lI 10 ∧ (12 : Int64) = lI 12 ∧ (14 : Int64) = lI 14 ∧ (16 : Int64) = lI 16 ∧ (19 : Int64) = lI 19 ∧ (20 : Int64) = lI 20 ∧ (23 : Int64) = lI 23 ∧ (24 : Int64) = lI 24 ∧ (32 : Int64) = lI 32 ∧ (96 : Int64) = lI 96 ∧ (97 : Int64) = lI 97 ∧ (999 : Int64) = lI 999 ∧ (9999 : Int64) = lI 9999 ∧ (99999 : Int64) = lI 99999 ∧ (4294967295 : Int64) = lI 4294967295 := ⟨rfl, rfl, rfl, rfl, rfl, rfl, rfl, rfl, rfl, rfl, rfl, rfl, rfl, rfl, rfl, rfl, rfl, rfl, rfl, rfl⟩
/-- a truth as a number -/
def bI (c : Prop) [Decidable c] : Int32 := if c then zI 1 else zI 0
theorem bIT {c : Prop} {_ : Decidable c} (h : c) : bI c = zI 1 := if_pos h
theorem bIF {c : Prop} {_ : Decidable c} (h : ¬ c) : bI c = zI 0 := if_neg h
theorem bI0 {c : Prop} {_ : Decidable c} : (bI c = zI 0) = ¬ c := by
  by_cases h : c
  · rw [bIT h]; exact propext ⟨fun q => absurd q (by decide), fun q => absurd h q⟩
  · rw [bIF h]; exact propext ⟨fun _ => h, fun _ => rfl⟩
theorem bI1 {c : Prop} {_ : Decidable c} : (bI c = zI 1) = c := by
  by_cases h : c
  · rw [bIT h]; exact propext ⟨fun _ => h, fun _ => rfl⟩
  · rw [bIF h]; exact propext ⟨fun q => absurd q (by decide), fun q => absurd q h⟩
theorem bI_c {c d : Prop} {_ : Decidable c} {_ : Decidable d} (h : c ↔ d) : bI c = bI d := by
  by_cases q : c
  · rw [bIT q, bIT (h.mp q)]
  · rw [bIF q, bIF (fun r => q (h.mpr r))]
theorem bI_if {c : Prop} {_ : Decidable c} : (if c then zI 1 else zI 0) = bI c := rfl
theorem bI_ifn {c : Prop} {_ : Decidable c} : (if c then zI 0 else zI 1) = bI ¬ c := by
  by_cases h : c
  · rw [if_pos h, bIF (fun q => q h)]
  · rw [if_neg h, bIT h]
/-! ===== memory, one cell ===== -/
theorem uI_s {M : KM} {a k : Nat} {v : Int32} : (uI M a k v).1 a k = v := by simp [uI, upd]
theorem uI_o {M : KM} {a k b j : Nat} {v : Int32} (h : ¬ (b = a ∧ j = k)) : (uI M a k v).1 b j = M.1 b j := by
  simp only [uI]
  by_cases e : b = a
  · rw [if_pos e]; simp only [upd]; rw [if_neg (fun q => h ⟨e, q⟩), e]
  · rw [if_neg e]
theorem uI_j {M : KM} {a k : Nat} {v : Int32} : (uI M a k v).2 = M.2 := rfl
theorem uI_j1 {M : KM} {a k : Nat} {v : Int32} : (uI M a k v).2.1 = M.2.1 := rfl
theorem uI_j2 {M : KM} {a k : Nat} {v : Int32} : (uI M a k v).2.2 = M.2.2 := rfl
theorem uJ_i {M : KM} {a k : Nat} {v : Int64} : (uJ M a k v).1 = M.1 := rfl
theorem uJ_r {M : KM} {a k : Nat} {v : Int64} : (uJ M a k v).2.2 = M.2.2 := rfl
theorem uJ_s {M : KM} {a k : Nat} {v : Int64} : (uJ M a k v).2.1 a k = v := by simp [uJ, vp_updL]
theorem uJ_o {M : KM} {a k b j : Nat} {v : Int64} (h : ¬ (b = a ∧ j = k)) : (uJ M a k v).2.1 b j = M.2.1 b j := by
  simp only [uJ]
  by_cases e : b = a
  · rw [if_pos e]; simp only [vp_updL]; rw [if_neg (fun q => h ⟨e, q⟩), e]
  · rw [if_neg e]
theorem uR_i {M : KM} {a k v : Nat} : (uR M a k v).1 = M.1 := rfl
theorem uR_j {M : KM} {a k v : Nat} : (uR M a k v).2.1 = M.2.1 := rfl
theorem uR_s {M : KM} {a k v : Nat} : (uR M a k v).2.2 a k = v := by simp [uR]
theorem uR_o {M : KM} {a k v b j : Nat} (h : ¬ (b = a ∧ j = k)) : (uR M a k v).2.2 b j = M.2.2 b j := by simp only [uR]; rw [if_neg h]
theorem uI_row {M : KM} {a k b : Nat} {v : Int32} (h : ¬ b = a) : (uI M a k v).1 b = M.1 b := by simp only [uI]; rw [if_neg h]
theorem uJ_row {M : KM} {a k b : Nat} {v : Int64} (h : ¬ b = a) : (uJ M a k v).2.1 b = M.2.1 b := by simp only [uJ]; rw [if_neg h]
/-! ===== loops ===== -/
/-- k rounds from i on -/
def fI {α : Type} (f : Int → α → α) : Nat → Int → α → α
  | 0, _, w => w
  | k + 1, i, w => fI f k (i + 1) (f i w)
theorem loop_f {α β : Type} {lp : Nat → Int32 → α → Option β} {f : Int → α → α} {fin : α → Option β} (V : Int → α → Prop) {N : Nat} {R : Int}
    (h1 : ∀ n i w, N ≤ n → 0 ≤ i → i < R → V i w → lp (n + 1) (zI i) w = lp n (zI (i + 1)) (f i w) ∧ V (i + 1) (f i w))
    (h0 : ∀ n w, N ≤ n → V R w → lp (n + 1) (zI R) w = fin w) :
    ∀ (k : Nat) (i : Int) (w : α) (n : Nat), 0 ≤ i → i + k = R → N + k < n → V i w → lp n (zI i) w = fin (fI f k i w) ∧ V R (fI f k i w) := by
  intro k
  induction k with
  | zero =>
    intro i w n hi he hn hv
    obtain ⟨m, rfl⟩ : ∃ m, n = m + 1 := ⟨n - 1, by omega⟩
    have e : i = R := by omega
    subst e
    exact ⟨h0 m w (by omega) hv, hv⟩
  | succ k ih =>
    intro i w n hi he hn hv
    obtain ⟨m, rfl⟩ : ∃ m, n = m + 1 := ⟨n - 1, by omega⟩
    obtain ⟨e1, e2⟩ := h1 m i w (by omega) hi (by omega) hv
    rw [e1]
    exact ih (i + 1) (f i w) m (by omega) (by omega) (by omega) e2
/-- the first of k from i on; -1: none -/
def fstI (P : Int → Bool) : Nat → Int → Int
  | 0, _ => -1
  | k + 1, i => if P i then i else fstI P k (i + 1)
theorem fst_c {P Q : Int → Bool} : ∀ (k : Nat) (i : Int), (∀ j, i ≤ j → j < i + k → P j = Q j) → fstI P k i = fstI Q k i := by
  intro k
  induction k with
  | zero => intro i _; rfl
  | succ k ih =>
    intro i h
    simp only [fstI]
    rw [h i (by omega) (by omega), ih (i + 1) (fun j a b => h j (by omega) (by omega))]
theorem fst_r {P : Int → Bool} : ∀ (k : Nat) (i : Int), 0 ≤ i → (fstI P k i = -1 ∧ ∀ j, i ≤ j → j < i + k → P j = false) ∨ (i ≤ fstI P k i ∧ fstI P k i < i + k ∧ P (fstI P k i) = true ∧ ∀ j, i ≤ j → j < fstI P k i → P j = false) := by
  intro k
  induction k with
  | zero => intro i h; exact Or.inl ⟨rfl, fun j a b => by omega⟩
  | succ k ih =>
    intro i h
    simp only [fstI]
    by_cases q : P i = true
    · rw [if_pos q]
      exact Or.inr ⟨by omega, by omega, q, fun j a b => by omega⟩
    · rw [if_neg q]
      have q2 : P i = false := by simpa using q
      rcases ih (i + 1) (by omega) with ⟨e, h2⟩ | ⟨e1, e2, e3, e4⟩
      · exact Or.inl ⟨e, fun j a b => by
          by_cases w : j = i
          · rw [w]; exact q2
          · exact h2 j (by omega) (by omega)⟩
      · exact Or.inr ⟨by omega, by omega, e3, fun j a b => by
          by_cases w : j = i
          · rw [w]; exact q2
          · exact e4 j (by omega) (by omega)⟩
theorem loop_fst {β : Type} {lp : Nat → Int32 → Option β} {P : Int → Bool} {res : Int → Option β} {N : Nat} {R : Int}
    (h1 : ∀ n i, N ≤ n → 0 ≤ i → i < R → lp (n + 1) (zI i) = if P i then res i else lp n (zI (i + 1)))
    (h0 : ∀ n, N ≤ n → lp (n + 1) (zI R) = res (-1)) :
    ∀ (k : Nat) (i : Int) (n : Nat), 0 ≤ i → i + k = R → N + k < n → lp n (zI i) = res (fstI P k i) := by
  intro k
  induction k with
  | zero =>
    intro i n hi he hn
    obtain ⟨m, rfl⟩ : ∃ m, n = m + 1 := ⟨n - 1, by omega⟩
    have e : i = R := by omega
    subst e
    exact h0 m (by omega)
  | succ k ih =>
    intro i n hi he hn
    obtain ⟨m, rfl⟩ : ∃ m, n = m + 1 := ⟨n - 1, by omega⟩
    rw [h1 m i (by omega) hi (by omega)]
    simp only [fstI]
    by_cases q : P i = true
    · rw [if_pos q, if_pos q]
    · rw [if_neg q, if_neg q]
      exact ih (i + 1) m (by omega) (by omega) (by omega)

