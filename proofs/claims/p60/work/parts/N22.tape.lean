/-! ===== what is said comes on the tape ===== -/
theorem or_n (a b : Nat) : Int32.ofNat a ||| Int32.ofNat b = Int32.ofNat (a ||| b) := by
  apply Int32.toBitVec_inj.1
  show BitVec.ofNat 32 a ||| BitVec.ofNat 32 b = BitVec.ofNat 32 (a ||| b)
  apply BitVec.eq_of_getLsbD_eq
  intro i hi
  simp [hi]
theorem or_sum {a k : Nat} (b : Nat) (h : a < 2 ^ k) : Int32.ofNat (2 ^ k * b) ||| Int32.ofNat a = Int32.ofNat (2 ^ k * b + a) := by rw [or_n, Nat.two_pow_add_eq_or_of_lt h]
theorem shl_n {n k : Nat} {s : Int32} (hs : (s.toBitVec.smod 32).toNat = k) (h : n * 2 ^ k < 2 ^ 32) : Int32.ofNat n <<< s = Int32.ofNat (n * 2 ^ k) := pk_shlN s k hs h
theorem shr_n {n k : Nat} {s : Int32} (hs : (s.toBitVec.smod 32).toNat = k) (h : n < 2 ^ 31) : Int32.ofNat n >>> s = Int32.ofNat (n / 2 ^ k) := pk_shrN h s k hs
theorem four_n {a b c d : Nat} (ha : a < 128) (hb : b < 128) (hc : c < 128) (hd : d < 128) : ((Int32.ofNat a <<< (zI 24 &&& zI 31) ||| Int32.ofNat b <<< (zI 16 &&& zI 31)) ||| Int32.ofNat c <<< (zI 8 &&& zI 31)) ||| Int32.ofNat d = Int32.ofNat (a * 16777216 + b * 65536 + c * 256 + d) := by
  have e1 := or_sum (a := b * 2 ^ 16) (k := 24) a (by omega)
  have e2 := or_sum (a := c * 2 ^ 8) (k := 16) (256 * a + b) (by omega)
  have e3 := or_sum (a := d) (k := 8) (65536 * a + 256 * b + c) (by omega)
  rw [shl_n (k := 24) (by decide) (by omega), shl_n (k := 16) (by decide) (by omega), shl_n (k := 8) (by decide) (by omega), Nat.mul_comm a (2 ^ 24), e1]
  rw [show 2 ^ 24 * a + b * 2 ^ 16 = 2 ^ 16 * (256 * a + b) by omega, e2]
  rw [show 2 ^ 16 * (256 * a + b) + c * 2 ^ 8 = 2 ^ 8 * (65536 * a + 256 * b + c) by omega]
  exact e3.trans (congrArg Int32.ofNat (by omega))
theorem by_n {m : Nat} (h : m % 256 < 128) : vp_nar .byte ((Int32.ofNat m).toInt8.toInt32) = zI ((m % 256 : Nat) : Int) := by
  have e : vp_nar .byte ((Int32.ofNat m).toInt8.toInt32) = ((Int32.ofNat m).toInt8.toInt32).toInt8.toInt32 := rfl
  rw [e, Int8.toInt8_toInt32, Int32.toInt8_ofNat', z_of (Int8.ofNat m).toInt32, Int8.toInt_toInt32, Int8.toInt_ofNat']
  refine congrArg zI ?_
  rw [Int.bmod_def]
  have : ((m : Int) % ((Int8.size : Nat) : Int)) = ((m % 256 : Nat) : Int) := by
    show (m : Int) % 256 = _
    omega
  rw [this]
  exact if_pos (show ((m % 256 : Nat) : Int) < (256 + 1) / 2 by omega)
def cmp (a b c d : Int) : Int := a * 16777216 + b * 65536 + c * 256 + d
theorem four_z {a b c d : Int} (ha : 0 ≤ a ∧ a < 128) (hb : 0 ≤ b ∧ b < 128) (hc : 0 ≤ c ∧ c < 128) (hd : 0 ≤ d ∧ d < 128) : ((zI a <<< (zI 24 &&& zI 31) ||| zI b <<< (zI 16 &&& zI 31)) ||| zI c <<< (zI 8 &&& zI 31)) ||| zI d = zI (cmp a b c d) ∧ byT (cmp a b c d) 24 = zI a ∧ byT (cmp a b c d) 16 = zI b ∧ byT (cmp a b c d) 8 = zI c ∧ byT (cmp a b c d) 0 = zI d := by
  obtain ⟨a, rfl⟩ := Int.eq_ofNat_of_zero_le ha.1
  obtain ⟨b, rfl⟩ := Int.eq_ofNat_of_zero_le hb.1
  obtain ⟨c, rfl⟩ := Int.eq_ofNat_of_zero_le hc.1
  obtain ⟨d, rfl⟩ := Int.eq_ofNat_of_zero_le hd.1
  have f := four_n (a := a) (b := b) (c := c) (d := d) (by omega) (by omega) (by omega) (by omega)
  have ec : cmp (a : Int) b c d = ((a * 16777216 + b * 65536 + c * 256 + d : Nat) : Int) := by unfold cmp; omega
  refine ⟨?_, ?_, ?_, ?_, ?_⟩
  · rw [ec, ← nI_z, ← nI_z, ← nI_z, ← nI_z, ← nI_z]; exact f
  · unfold byT
    rw [ec, ← nI_z, shr_n (k := 24) (by decide) (by omega), by_n (by omega)]
    exact congrArg zI (congrArg Int.ofNat (by omega))
  · unfold byT
    rw [ec, ← nI_z, shr_n (k := 16) (by decide) (by omega), by_n (by omega)]
    exact congrArg zI (congrArg Int.ofNat (by omega))
  · unfold byT
    rw [ec, ← nI_z, shr_n (k := 8) (by decide) (by omega), by_n (by omega)]
    exact congrArg zI (congrArg Int.ofNat (by omega))
  · unfold byT
    rw [ec, ← nI_z, shr_n (k := 0) (by decide) (by omega), by_n (by omega)]
    exact congrArg zI (congrArg Int.ofNat (by omega))
/-- four cells of c from k on -/
def cm4 (c : Nat → Int) (k : Nat) : Int := cmp (c k) (c (k + 1)) (c (k + 2)) (c (k + 3))
theorem u4_c {c : Nat → Int} {r : Nat → Int32} {f k : Nat} (hc : ∀ i, i < 20 → 0 ≤ c i ∧ c i < 128) (hk : k + 3 < 20) (z : Nat) : u4R r ((f + k : Nat) : Int) (cm4 c k) z = if f + k ≤ z ∧ z < f + k + 4 then zI (c (z - f)) else r z := by
  obtain ⟨-, b0, b1, b2, b3⟩ := four_z (hc k (by omega)) (hc (k + 1) (by omega)) (hc (k + 2) (by omega)) (hc (k + 3) (by omega))
  unfold u4R cm4
  rw [b0, b1, b2, b3]
  have t0 : (((f + k : Nat) : Int)).toNat = f + k := by omega
  have t1 : (((f + k : Nat) : Int) + 1).toNat = f + k + 1 := by omega
  have t2 : (((f + k : Nat) : Int) + 1 + 1).toNat = f + k + 2 := by omega
  have t3 : (((f + k : Nat) : Int) + 1 + 1 + 1).toNat = f + k + 3 := by omega
  rw [t0, t1, t2, t3]
  unfold upd
  by_cases e3 : z = f + k + 3
  · rw [if_pos e3, if_pos (by omega), show z - f = k + 3 by omega]
  · rw [if_neg e3]
    by_cases e2 : z = f + k + 2
    · rw [if_pos e2, if_pos (by omega), show z - f = k + 2 by omega]
    · rw [if_neg e2]
      by_cases e1 : z = f + k + 1
      · rw [if_pos e1, if_pos (by omega), show z - f = k + 1 by omega]
      · rw [if_neg e1]
        by_cases e0 : z = f + k
        · rw [if_pos e0, if_pos (by omega), show z - f = k by omega]
        · rw [if_neg e0, if_neg (by omega)]
theorem c_four {c : Nat → Int} {M : KM} {n k : Nat} (hM : ∀ i, i < 20 → M.1 227 i = zI (c i)) (hc : ∀ i, i < 20 → 0 ≤ c i ∧ c i < 128) (hk : k + 3 < 20) : f_L_four n 227 (zI k) M = some (zI (cm4 c k)) := by
  obtain ⟨a0, -⟩ := four_z (hc k (by omega)) (hc (k + 1) (by omega)) (hc (k + 2) (by omega)) (hc (k + 3) (by omega))
  unfold f_L_four
  simp only [zl, zadd]
  have g : ∀ j : Nat, k + j < 20 → M.1 227 (zI ((k : Int) + j)).toNatClampNeg = zI (c (k + j)) := fun j hj => by
    rw [zidx (by omega) (by omega), show ((k : Int) + j).toNat = k + j by omega]
    exact hM _ hj
  have g0 := g 0 (by omega)
  have g1 := g 1 (by omega)
  have g2 := g 2 (by omega)
  have g3 := g 3 (by omega)
  rw [show (k : Int) + ((0 : Nat) : Int) = k by omega] at g0
  rw [if_pos (ixP (by omega) (by omega) (by omega)), if_pos (ixP (by omega) (by omega) (by omega)), if_pos (ixP (by omega) (by omega) (by omega)), if_pos (ixP (by omega) (by omega) (by omega)), g0]
  rw [show ((k : Int) + 1) = (k : Int) + ((1 : Nat) : Int) from rfl, show ((k : Int) + 2) = (k : Int) + ((2 : Nat) : Int) from rfl, show ((k : Int) + 3) = (k : Int) + ((3 : Nat) : Int) from rfl, g1, g2, g3]
  exact congrArg some a0
def r5 (c : Nat → Int) (r : Nat → Int32) (f : Nat) : Nat → Int32 := u4R (u4R (u4R (u4R (u4R r ((f + 0 : Nat) : Int) (cm4 c 0)) ((f + 4 : Nat) : Int) (cm4 c 4)) ((f + 8 : Nat) : Int) (cm4 c 8)) ((f + 12 : Nat) : Int) (cm4 c 12)) ((f + 16 : Nat) : Int) (cm4 c 16)
theorem c_feed20 {c : Nat → Int} {M : KM} {n f : Nat} (hf : M.1 0 13 = zI f) (f9 : f + 20 ≤ 900) (hM : ∀ i, i < 20 → M.1 227 i = zI (c i)) (hc : ∀ i, i < 20 → 0 ≤ c i ∧ c i < 128) (hn : 10 ≤ n) : ∃ r, f_X11_feed n 0 (zI (cm4 c 0)) (zI (cm4 c 4)) (zI (cm4 c 8)) (zI (cm4 c 12)) (zI (cm4 c 16)) M = some (zI ((f + 20 : Nat) : Int), tw M 2 0 13 ((f + 20 : Nat) : Int) r) ∧ ∀ z, r z = if f ≤ z ∧ z < f + 20 then zI (c (z - f)) else M.1 2 z := by
  have e0 : M = tw M 2 0 13 (f : Int) (M.1 2) := tw_ex (by omega) hf
  have s1 := c_feedOne (a := cm4 c 0) (tp := ((f + 0 : Nat) : Int)) (n := n) (M := M) (r := M.1 2) (by omega) (by omega) hn
  have s2 := c_feedOne (a := cm4 c 4) (tp := ((f + 4 : Nat) : Int)) (n := n) (M := M) (r := u4R (M.1 2) ((f + 0 : Nat) : Int) (cm4 c 0)) (by omega) (by omega) hn
  have s3 := c_feedOne (a := cm4 c 8) (tp := ((f + 8 : Nat) : Int)) (n := n) (M := M) (r := u4R (u4R (M.1 2) ((f + 0 : Nat) : Int) (cm4 c 0)) ((f + 4 : Nat) : Int) (cm4 c 4)) (by omega) (by omega) hn
  have s4 := c_feedOne (a := cm4 c 12) (tp := ((f + 12 : Nat) : Int)) (n := n) (M := M) (r := u4R (u4R (u4R (M.1 2) ((f + 0 : Nat) : Int) (cm4 c 0)) ((f + 4 : Nat) : Int) (cm4 c 4)) ((f + 8 : Nat) : Int) (cm4 c 8)) (by omega) (by omega) hn
  have s5 := c_feedOne (a := cm4 c 16) (tp := ((f + 16 : Nat) : Int)) (n := n) (M := M) (r := u4R (u4R (u4R (u4R (M.1 2) ((f + 0 : Nat) : Int) (cm4 c 0)) ((f + 4 : Nat) : Int) (cm4 c 4)) ((f + 8 : Nat) : Int) (cm4 c 8)) ((f + 12 : Nat) : Int) (cm4 c 12)) (by omega) (by omega) hn
  rw [show ((f + 0 : Nat) : Int) + 1 + 1 + 1 + 1 = ((f + 4 : Nat) : Int) by omega] at s1
  rw [show ((f + 4 : Nat) : Int) + 1 + 1 + 1 + 1 = ((f + 8 : Nat) : Int) by omega] at s2
  rw [show ((f + 8 : Nat) : Int) + 1 + 1 + 1 + 1 = ((f + 12 : Nat) : Int) by omega] at s3
  rw [show ((f + 12 : Nat) : Int) + 1 + 1 + 1 + 1 = ((f + 16 : Nat) : Int) by omega] at s4
  rw [show ((f + 16 : Nat) : Int) + 1 + 1 + 1 + 1 = ((f + 20 : Nat) : Int) by omega] at s5
  rw [show tw M 2 0 13 ((f + 0 : Nat) : Int) (M.1 2) = M from e0.symm] at s1
  refine ⟨r5 c (M.1 2) f, ?_, fun z => ?_⟩
  · unfold f_X11_feed
    simp only [zl]
    rw [hf, zadd, if_pos (leP (by omega) (by omega) (by omega)), s1, Option.bind_some, s2, Option.bind_some, s3, Option.bind_some, s4, Option.bind_some, s5, Option.bind_some, tw_c]
    rfl
  · unfold r5
    rw [u4_c hc (by omega), u4_c hc (by omega), u4_c hc (by omega), u4_c hc (by omega), u4_c hc (by omega)]
    by_cases a4 : f + 16 ≤ z ∧ z < f + 16 + 4
    · rw [if_pos a4, if_pos (by omega)]
    · rw [if_neg a4]
      by_cases a3 : f + 12 ≤ z ∧ z < f + 12 + 4
      · rw [if_pos a3, if_pos (by omega)]
      · rw [if_neg a3]
        by_cases a2 : f + 8 ≤ z ∧ z < f + 8 + 4
        · rw [if_pos a2, if_pos (by omega)]
        · rw [if_neg a2]
          by_cases a1 : f + 4 ≤ z ∧ z < f + 4 + 4
          · rw [if_pos a1, if_pos (by omega)]
          · rw [if_neg a1]
            by_cases a0 : f + 0 ≤ z ∧ z < f + 0 + 4
            · rw [if_pos a0, if_pos (by omega)]
            · rw [if_neg a0, if_neg (by omega)]
/-- all but the law's row, the tape and how much is on it -/
def TF (M N : KM) : Prop := N.2 = M.2 ∧ ∀ a k, ¬ a = 227 → ¬ a = 2 → ¬ (a = 0 ∧ k = 13) → N.1 a k = M.1 a k
theorem TF_r {M : KM} : TF M M := ⟨rfl, fun _ _ _ _ _ => rfl⟩
theorem TF_t {M N K : KM} (h : TF M N) (g : TF N K) : TF M K := ⟨g.1.trans h.1, fun a k x y z => (g.2 a k x y z).trans (h.2 a k x y z)⟩
theorem c_pad {κ : KM → Option KM} : ∀ (k n : Nat) (w : Nat) (M : KM), w + k = 20 → k < n → ∃ N, lp_L_feed_5 n 0 227 (zI w) M κ = κ N ∧ N.2 = M.2 ∧ (∀ a j, ¬ (a = 227 ∧ w ≤ j ∧ j < 20) → N.1 a j = M.1 a j) ∧ ∀ j, w ≤ j → j < 20 → N.1 227 j = zI 32 := by
  intro k
  induction k with
  | zero =>
    intro n w M hw hn
    obtain ⟨m, rfl⟩ : ∃ m, n = m + 1 := ⟨n - 1, by omega⟩
    refine ⟨M, ?_, rfl, fun _ _ _ => rfl, fun j j1 j2 => by omega⟩
    rw [lp_L_feed_5]
    simp only [zl]
    rw [if_pos (leP (by omega) (by omega) (by omega))]
  | succ k ih =>
    intro n w M hw hn
    obtain ⟨m, rfl⟩ : ∃ m, n = m + 1 := ⟨n - 1, by omega⟩
    obtain ⟨N, e, n2, n3, n4⟩ := ih m (w + 1) (uI M 227 w (zI 32)) (by omega) (by omega)
    refine ⟨N, ?_, n2, fun a j h => ?_, fun j j1 j2 => ?_⟩
    · rw [lp_L_feed_5]
      simp only [zl]
      rw [if_neg (leN (by omega) (by omega) (by omega)), if_pos (ixP (by omega) (by omega) (by omega)), lt_hd, lt_hd, zadd, zidx (by omega) (by omega), show ((w : Int)).toNat = w by omega]
      exact e
    · rw [n3 a j (by omega), uI_o (by omega)]
    · by_cases q : j = w
      · rw [q, n3 _ _ (by omega), uI_s]
      · exact n4 j (by omega) j2
theorem c_feedL {c : Nat → Int} {M : KM} {n q f : Nat} (hf : M.1 0 13 = zI f) (f9 : f + 20 ≤ 900) (q2 : q ≤ 20) (hq : M.1 227 20 = zI q) (hM : ∀ i, i < q → M.1 227 i = zI (c i) ∧ 0 ≤ c i ∧ c i < 128) (hn : 50 ≤ n) : ∃ N, f_L_feed n 0 227 M = some N ∧ TF M N ∧ N.1 227 20 = zI 0 ∧ N.1 227 21 = M.1 227 21 ∧ N.1 227 22 = M.1 227 22 ∧ N.1 0 13 = zI ((f + 20 : Nat) : Int) ∧ ∀ z, N.1 2 z = if f ≤ z ∧ z < f + 20 then zI (if z - f < q then c (z - f) else 32) else M.1 2 z := by
  have q20 : M.1 227 (zI 20).toNatClampNeg = zI q := hq
  obtain ⟨P, e, p2, p3, p4⟩ := c_pad (κ := (fun (M7 : KM) => (
      (f_L_four n 227 (zI 0) M7).bind fun (v8 : Int32) =>
      (f_L_four n 227 (zI 4) M7).bind fun (v9 : Int32) =>
      (f_L_four n 227 (zI 8) M7).bind fun (v10 : Int32) =>
      (f_L_four n 227 (zI 12) M7).bind fun (v11 : Int32) =>
      (f_L_four n 227 (zI 16) M7).bind fun (v12 : Int32) =>
      (f_X11_feed n 0 v8 v9 v10 v11 v12 M7).bind fun (v13 : (Int32 × KM)) =>
      if ix (zI 20) 24 then
      lt (uI v13.2 227 ((zI 20)).toNatClampNeg (zI 0)) fun (M15 : KM) =>
      some M15
      else none
    ))) (20 - q) n q M (by omega) (by omega)
  have cells : ∀ i, i < 20 → P.1 227 i = zI ((fun i => if i < q then c i else 32) i) := fun i hi => by
    by_cases w : i < q
    · dsimp only
      rw [if_pos w, p3 _ _ (by omega)]
      exact (hM i w).1
    · dsimp only
      rw [if_neg w]
      exact p4 i (by omega) hi
  have rng : ∀ i, i < 20 → 0 ≤ (fun i => if i < q then c i else 32) i ∧ (fun i => if i < q then c i else 32) i < 128 := fun i hi => by
    by_cases w : i < q
    · dsimp only
      rw [if_pos w]
      exact (hM i w).2
    · dsimp only
      rw [if_neg w]; omega
  obtain ⟨r, g1, g2⟩ := c_feed20 (c := fun i => if i < q then c i else 32) (M := P) (n := n) (f := f) (by rw [p3 _ _ (by omega)]; exact hf) f9 cells rng (by omega)
  have k0 := c_four (n := n) (k := 0) cells rng (by omega)
  have k4 := c_four (n := n) (k := 4) cells rng (by omega)
  have k8 := c_four (n := n) (k := 8) cells rng (by omega)
  have k12 := c_four (n := n) (k := 12) cells rng (by omega)
  have k16 := c_four (n := n) (k := 16) cells rng (by omega)
  have ft : ∀ a k, ¬ a = 2 → ¬ (a = 0 ∧ k = 13) → (tw P 2 0 13 ((f + 20 : Nat) : Int) r).1 a k = P.1 a k := fun a k h1 h2 => tw_o h2 h1
  refine ⟨uI (tw P 2 0 13 ((f + 20 : Nat) : Int) r) 227 20 (zI 0), ?_, ⟨p2, fun a k h1 h2 h3 => ?_⟩, uI_s, ?_, ?_, ?_, fun z => ?_⟩
  · unfold f_L_feed
    simp only [zl]
    rw [if_pos (ixP (by omega) (by omega) (by omega)), q20, lt_hd, e]
    rw [show (zI 0) = zI ((0 : Nat) : Int) from rfl, k0, Option.bind_some]
    rw [show (zI 4) = zI ((4 : Nat) : Int) from rfl, k4, Option.bind_some]
    rw [show (zI 8) = zI ((8 : Nat) : Int) from rfl, k8, Option.bind_some]
    rw [show (zI 12) = zI ((12 : Nat) : Int) from rfl, k12, Option.bind_some]
    rw [show (zI 16) = zI ((16 : Nat) : Int) from rfl, k16, Option.bind_some, g1, Option.bind_some, if_pos (ixP (by omega) (by omega) (by omega))]
    rfl
  · rw [uI_o (by omega), ft a k h2 h3, p3 _ _ (by omega)]
  · rw [uI_o (by omega), ft _ _ (by omega) (by omega), p3 _ _ (by omega)]
  · rw [uI_o (by omega), ft _ _ (by omega) (by omega), p3 _ _ (by omega)]
  · rw [uI_o (by omega)]; exact tw_c
  · rw [uI_o (by omega), tw_a (by omega), g2 z, p3 _ _ (by omega)]
