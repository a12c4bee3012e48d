/-! ===== the law: one call ===== -/
theorem ix_at {w d : Int} {Ln : Nat} (w0 : 0 ≤ w) (d0 : 0 ≤ d) (d5 : d ≤ 5) (h : w + 6 ≤ Ln) (hL : Ln ≤ 3072) : ix (zI w + zI d) Ln := by
  rw [zadd, ixT (by omega) (by omega) (by omega)]; trivial
theorem law_one {Ln : Nat} {xs : Nat → Int32} {n : Nat} {M : KM} {w : Int} (hn : 41400 ≤ n) (hL : Ln ≤ 3072) (w0 : 0 ≤ w) (w1 : w + 6 ≤ Ln) (hI : Inv M) (hj : ∀ M', Inv M' → lp_L_law_18 n Ln xs 0 227 (zI w + (6 : Int32)) M' = some (1 : Int32)) : lp_L_law_18 (n + 1) Ln xs 0 227 (zI w) M = some (1 : Int32) := by
  have eL : Int32.ofNat Ln = zI (Ln : Int) := by
    apply Int32.toBitVec_inj.mp
    simp [zI, Int32.ofInt, Int32.ofNat]
  have c0 : ¬ (Int32.ofNat Ln - (6 : Int32)) < zI w := by
    rw [eL, show (6 : Int32) = zI 6 from rfl, zsub, zltF (by omega) (by omega) (by omega)]; exact id
  have i0 : ix (zI w) Ln := by
    rw [ixT (by omega) (by omega) (by omega)]; trivial
  have i1 : ix (zI w + (1 : Int32)) Ln := ix_at (d := 1) w0 (by omega) (by omega) w1 hL
  have i2 : ix (zI w + (2 : Int32)) Ln := ix_at (d := 2) w0 (by omega) (by omega) w1 hL
  have i3 : ix (zI w + (3 : Int32)) Ln := ix_at (d := 3) w0 (by omega) (by omega) w1 hL
  have i4 : ix (zI w + (4 : Int32)) Ln := ix_at (d := 4) w0 (by omega) (by omega) w1 hL
  have i5 : ix (zI w + (5 : Int32)) Ln := ix_at (d := 5) w0 (by omega) (by omega) w1 hL
  rw [lp_L_law_18, if_neg c0, if_pos i0, lt, lt]
  generalize xs (zI w + (1 : Int32)).toNatClampNeg = x1
  generalize xs (zI w + (2 : Int32)).toNatClampNeg = x2
  generalize xs (zI w + (3 : Int32)).toNatClampNeg = x3
  generalize xs (zI w + (4 : Int32)).toNatClampNeg = x4
  generalize xs (zI w + (5 : Int32)).toNatClampNeg = x5
  generalize xs (zI w).toNatClampNeg &&& (63 : Int32) = v2
  by_cases h0 : v2 = (0 : Int32)
  · rw [if_pos h0]
    have h := k_status hI
    rw [lt, lt, if_pos h.1]
    exact hj _ h.2
  rw [if_neg h0]
  by_cases h1 : v2 = (1 : Int32)
  · rw [if_pos h1]
    have h := k_top hI
    rw [lt, lt, if_pos (lgT h.1)]
    exact hj _ h.2
  rw [if_neg h1]
  by_cases h2 : v2 = (2 : Int32)
  · rw [if_pos h2]
    have h := k_bottom hI
    rw [lt, lt, if_pos (lgT h.1)]
    exact hj _ h.2
  rw [if_neg h2]
  by_cases h3 : v2 = (3 : Int32)
  · rw [if_pos h3]
    obtain ⟨r, M1, M2, e1, e2, e3⟩ := k_tray x1 x2 x3 n (by omega) M hI
    rw [if_pos i1, if_pos i2, if_pos i3, e1, Option.bind_some]
    dsimp only
    rw [if_pos i1, if_pos i2, if_pos i3, e2, Option.bind_some]
    dsimp only
    rw [if_pos rfl]
    exact hj M2 e3
  rw [if_neg h3]
  by_cases h4 : v2 = (4 : Int32)
  · rw [if_pos h4]
    obtain ⟨r, M1, M2, e1, e2, e3⟩ := k_write x1 x2 (((x3).toInt64 <<< (((32 : Int32)).toInt64 &&& 63)) ||| ((x4).toInt64 &&& (4294967295 : Int64))) n (by omega) M hI
    rw [if_pos i1, if_pos i2, if_pos i3, if_pos i4, e1, Option.bind_some]
    dsimp only
    rw [if_pos i1, if_pos i2, if_pos i3, if_pos i4, e2, Option.bind_some]
    dsimp only
    rw [if_pos rfl]
    exact hj M2 e3
  rw [if_neg h4]
  by_cases h5 : v2 = (5 : Int32)
  · rw [if_pos h5]
    obtain ⟨r, M1, M2, e1, e2, e3⟩ := k_read x1 x2 n (by omega) M hI
    rw [if_pos i1, if_pos i2, e1, Option.bind_some]
    dsimp only
    rw [if_pos i1, if_pos i2, e2, Option.bind_some]
    dsimp only
    rw [if_pos (lgT rfl)]
    exact hj M2 e3
  rw [if_neg h5]
  by_cases h6 : v2 = (6 : Int32)
  · rw [if_pos h6]
    obtain ⟨r, M1, M2, e1, e2, e3⟩ := k_pour x1 x2 x3 x4 x5 n (by omega) M hI
    rw [if_pos i1, if_pos i2, if_pos i3, if_pos i4, if_pos i5, e1, Option.bind_some]
    dsimp only
    rw [if_pos i1, if_pos i2, if_pos i3, if_pos i4, if_pos i5, e2, Option.bind_some]
    dsimp only
    rw [if_pos rfl]
    exact hj M2 e3
  rw [if_neg h6]
  by_cases h7 : v2 = (7 : Int32)
  · rw [if_pos h7]
    obtain ⟨r, M1, M2, e1, e2, e3⟩ := k_feed x1 x2 x3 x4 x5 n (by omega) M hI
    rw [if_pos i1, if_pos i2, if_pos i3, if_pos i4, if_pos i5, e1, Option.bind_some]
    dsimp only
    rw [if_pos i1, if_pos i2, if_pos i3, if_pos i4, if_pos i5, e2, Option.bind_some]
    dsimp only
    rw [if_pos rfl]
    exact hj M2 e3
  rw [if_neg h7]
  by_cases h8 : v2 = (8 : Int32)
  · rw [if_pos h8]
    obtain ⟨r, M1, M2, e1, e2, e3⟩ := k_land x1 n (by omega) M hI
    rw [if_pos i1, e1, Option.bind_some]
    dsimp only
    rw [if_pos i1, e2, Option.bind_some]
    dsimp only
    rw [if_pos rfl]
    exact hj M2 e3
  rw [if_neg h8]
  by_cases h9 : v2 = (9 : Int32)
  · rw [if_pos h9]
    obtain ⟨r, M1, M2, e1, e2, e3⟩ := k_days x1 n (by omega) M hI
    rw [if_pos i1, e1, Option.bind_some]
    dsimp only
    rw [if_pos i1, e2, Option.bind_some]
    dsimp only
    rw [if_pos rfl]
    exact hj M2 e3
  rw [if_neg h9]
  by_cases h10 : v2 = (10 : Int32)
  · rw [if_pos h10]
    have h := k_fault x1 hI
    rw [if_pos i1, lt, if_pos i1, lt, if_pos h.1]
    exact hj _ h.2
  rw [if_neg h10]
  by_cases h11 : v2 = (11 : Int32)
  · rw [if_pos h11]
    obtain ⟨r, M1, M2, e1, e2, e3⟩ := k_many x1 n (by omega) M hI
    rw [if_pos i1, e1, Option.bind_some]
    dsimp only
    rw [if_pos i1, e2, Option.bind_some]
    dsimp only
    rw [if_pos rfl]
    exact hj M2 e3
  rw [if_neg h11]
  by_cases h12 : v2 = (12 : Int32)
  · rw [if_pos h12]
    obtain ⟨r, M1, M2, e1, e2, e3⟩ := k_road x1 x2 n (by omega) M hI
    rw [if_pos i1, if_pos i2, e1, Option.bind_some]
    dsimp only
    rw [if_pos i1, if_pos i2, e2, Option.bind_some]
    dsimp only
    rw [if_pos rfl]
    exact hj M2 e3
  rw [if_neg h12]
  by_cases h13 : v2 = (13 : Int32)
  · rw [if_pos h13]
    obtain ⟨r, M1, M2, e1, e2, e3⟩ := k_roadOf x1 x2 n (by omega) M hI
    rw [if_pos i1, if_pos i2, e1, Option.bind_some]
    dsimp only
    rw [if_pos i1, if_pos i2, e2, Option.bind_some]
    dsimp only
    rw [if_pos rfl]
    exact hj M2 e3
  rw [if_neg h13]
  by_cases h14 : v2 = (14 : Int32)
  · rw [if_pos h14]
    obtain ⟨r, M1, M2, e1, e2, e3⟩ := k_person x1 x2 n (by omega) M hI
    rw [if_pos i1, if_pos i2, e1, Option.bind_some]
    dsimp only
    rw [if_pos i1, if_pos i2, e2, Option.bind_some]
    dsimp only
    rw [if_pos rfl]
    exact hj M2 e3
  rw [if_neg h14]
  by_cases h15 : v2 = (15 : Int32)
  · rw [if_pos h15]
    obtain ⟨r, M1, M2, e1, e2, e3⟩ := k_gone x1 x2 n (by omega) M hI
    rw [if_pos i1, if_pos i2, e1, Option.bind_some]
    dsimp only
    rw [if_pos i1, if_pos i2, e2, Option.bind_some]
    dsimp only
    rw [if_pos rfl]
    exact hj M2 e3
  rw [if_neg h15]
  by_cases h16 : v2 = (16 : Int32)
  · rw [if_pos h16]
    obtain ⟨r, M1, M2, e1, e2, e3⟩ := k_owes x1 x2 n (by omega) M hI
    rw [if_pos i1, if_pos i2, e1, Option.bind_some]
    dsimp only
    rw [if_pos i1, if_pos i2, e2, Option.bind_some]
    dsimp only
    rw [if_pos rfl]
    exact hj M2 e3
  rw [if_neg h16]
  by_cases h17 : v2 = (17 : Int32)
  · rw [if_pos h17]
    obtain ⟨r, M1, M2, e1, e2, e3⟩ := k_net x1 n (by omega) M hI
    rw [if_pos i1, e1, Option.bind_some]
    dsimp only
    rw [if_pos i1, e2, Option.bind_some]
    dsimp only
    rw [if_pos rfl]
    exact hj M2 e3
  rw [if_neg h17]
  by_cases h18 : v2 = (18 : Int32)
  · rw [if_pos h18]
    obtain ⟨r, M1, M2, e1, e2, e3⟩ := k_copyPlaces x1 n (by omega) M hI
    rw [if_pos i1, e1, Option.bind_some]
    dsimp only
    rw [if_pos i1, e2, Option.bind_some]
    dsimp only
    rw [if_pos rfl]
    exact hj M2 e3
  rw [if_neg h18]
  by_cases h19 : v2 = (19 : Int32)
  · rw [if_pos h19]
    obtain ⟨r, M1, M2, e1, e2, e3⟩ := k_passes x1 n (by omega) M hI
    rw [if_pos i1, e1, Option.bind_some]
    dsimp only
    rw [if_pos i1, e2, Option.bind_some]
    dsimp only
    rw [if_pos rfl]
    exact hj M2 e3
  rw [if_neg h19]
  by_cases h20 : v2 = (20 : Int32)
  · rw [if_pos h20]
    obtain ⟨r, M1, M2, e1, e2, e3⟩ := k_go x1 x2 n (by omega) M hI
    rw [if_pos i1, if_pos i2, e1, Option.bind_some]
    dsimp only
    rw [if_pos i1, if_pos i2, e2, Option.bind_some]
    dsimp only
    rw [if_pos rfl]
    exact hj M2 e3
  rw [if_neg h20]
  by_cases h21 : v2 = (21 : Int32)
  · rw [if_pos h21]
    obtain ⟨r, M1, M2, e1, e2, e3⟩ := k_lead x1 x3 x2 n (by omega) M hI
    rw [if_pos i1, if_pos i2, if_pos i3, e1, Option.bind_some]
    dsimp only
    rw [if_pos i1, if_pos i2, if_pos i3, e2, Option.bind_some]
    dsimp only
    rw [if_pos rfl]
    exact hj M2 e3
  rw [if_neg h21]
  by_cases h22 : v2 = (22 : Int32)
  · rw [if_pos h22]
    obtain ⟨r, M1, M2, e1, e2, e3⟩ := k_turn x1 n (by omega) M hI
    rw [if_pos i1, e1, Option.bind_some]
    dsimp only
    rw [if_pos i1, e2, Option.bind_some]
    dsimp only
    rw [if_pos rfl]
    exact hj M2 e3
  rw [if_neg h22]
  by_cases h23 : v2 = (23 : Int32)
  · rw [if_pos h23]
    by_cases hb : x1 = 0
    · obtain ⟨r, M1, M2, e1, e2, e3⟩ := k_cloud  0 (by omega) n (by omega) M hI
      have e1 : f_X11_cloud n 0 (0 : Int32) M = some (r, M1) := e1
      have e2 : f_X12_cloud n 227 (0 : Int32) M1 = some (r, M2) := e2
      rw [if_pos i1, lt, if_pos hb]
      dsimp only
      rw [e1, Option.bind_some]
      dsimp only
      rw [if_pos i1, lt, if_pos hb]
      dsimp only
      rw [e2, Option.bind_some]
      dsimp only
      rw [if_pos rfl]
      exact hj M2 e3
    · obtain ⟨r, M1, M2, e1, e2, e3⟩ := k_cloud  1 (by omega) n (by omega) M hI
      have e1 : f_X11_cloud n 0 (1 : Int32) M = some (r, M1) := e1
      have e2 : f_X12_cloud n 227 (1 : Int32) M1 = some (r, M2) := e2
      rw [if_pos i1, lt, if_neg hb]
      dsimp only
      rw [e1, Option.bind_some]
      dsimp only
      rw [if_pos i1, lt, if_neg hb]
      dsimp only
      rw [e2, Option.bind_some]
      dsimp only
      rw [if_pos rfl]
      exact hj M2 e3
  rw [if_neg h23]
  by_cases h24 : v2 = (24 : Int32)
  · rw [if_pos h24]
    by_cases hb : x2 = 0
    · obtain ⟨r, M1, M2, e1, e2, e3⟩ := k_plant x1 0 (by omega) n (by omega) M hI
      have e1 : f_X11_plant n 0 x1 (0 : Int32) M = some (r, M1) := e1
      have e2 : f_X12_plant n 227 x1 (0 : Int32) M1 = some (r, M2) := e2
      rw [if_pos i1, if_pos i2, lt, if_pos hb]
      dsimp only
      rw [e1, Option.bind_some]
      dsimp only
      rw [if_pos i1, if_pos i2, lt, if_pos hb]
      dsimp only
      rw [e2, Option.bind_some]
      dsimp only
      rw [if_pos rfl]
      exact hj M2 e3
    · obtain ⟨r, M1, M2, e1, e2, e3⟩ := k_plant x1 1 (by omega) n (by omega) M hI
      have e1 : f_X11_plant n 0 x1 (1 : Int32) M = some (r, M1) := e1
      have e2 : f_X12_plant n 227 x1 (1 : Int32) M1 = some (r, M2) := e2
      rw [if_pos i1, if_pos i2, lt, if_neg hb]
      dsimp only
      rw [e1, Option.bind_some]
      dsimp only
      rw [if_pos i1, if_pos i2, lt, if_neg hb]
      dsimp only
      rw [e2, Option.bind_some]
      dsimp only
      rw [if_pos rfl]
      exact hj M2 e3
  rw [if_neg h24]
  by_cases h25 : v2 = (25 : Int32)
  · rw [if_pos h25]
    by_cases hb : x2 = 0
    · obtain ⟨r, M1, M2, e1, e2, e3⟩ := k_glasses x1 0 (by omega) n (by omega) M hI
      have e1 : f_X11_glasses n 0 x1 (0 : Int32) M = some (r, M1) := e1
      have e2 : f_X12_glasses n 227 x1 (0 : Int32) M1 = some (r, M2) := e2
      rw [if_pos i1, if_pos i2, lt, if_pos hb]
      dsimp only
      rw [e1, Option.bind_some]
      dsimp only
      rw [if_pos i1, if_pos i2, lt, if_pos hb]
      dsimp only
      rw [e2, Option.bind_some]
      dsimp only
      rw [if_pos rfl]
      exact hj M2 e3
    · obtain ⟨r, M1, M2, e1, e2, e3⟩ := k_glasses x1 1 (by omega) n (by omega) M hI
      have e1 : f_X11_glasses n 0 x1 (1 : Int32) M = some (r, M1) := e1
      have e2 : f_X12_glasses n 227 x1 (1 : Int32) M1 = some (r, M2) := e2
      rw [if_pos i1, if_pos i2, lt, if_neg hb]
      dsimp only
      rw [e1, Option.bind_some]
      dsimp only
      rw [if_pos i1, if_pos i2, lt, if_neg hb]
      dsimp only
      rw [e2, Option.bind_some]
      dsimp only
      rw [if_pos rfl]
      exact hj M2 e3
  rw [if_neg h25]
  by_cases h26 : v2 = (26 : Int32)
  · rw [if_pos h26]
    by_cases hb : x2 = 0
    · obtain ⟨r, M1, M2, e1, e2, e3⟩ := k_cure x1 0 (by omega) n (by omega) M hI
      have e1 : f_X11_cure n 0 x1 (0 : Int32) M = some (r, M1) := e1
      have e2 : f_X12_cure n 227 x1 (0 : Int32) M1 = some (r, M2) := e2
      rw [if_pos i1, if_pos i2, lt, if_pos hb]
      dsimp only
      rw [e1, Option.bind_some]
      dsimp only
      rw [if_pos i1, if_pos i2, lt, if_pos hb]
      dsimp only
      rw [e2, Option.bind_some]
      dsimp only
      rw [if_pos rfl]
      exact hj M2 e3
    · obtain ⟨r, M1, M2, e1, e2, e3⟩ := k_cure x1 1 (by omega) n (by omega) M hI
      have e1 : f_X11_cure n 0 x1 (1 : Int32) M = some (r, M1) := e1
      have e2 : f_X12_cure n 227 x1 (1 : Int32) M1 = some (r, M2) := e2
      rw [if_pos i1, if_pos i2, lt, if_neg hb]
      dsimp only
      rw [e1, Option.bind_some]
      dsimp only
      rw [if_pos i1, if_pos i2, lt, if_neg hb]
      dsimp only
      rw [e2, Option.bind_some]
      dsimp only
      rw [if_pos rfl]
      exact hj M2 e3
  rw [if_neg h26]
  by_cases h27 : v2 = (27 : Int32)
  · rw [if_pos h27]
    obtain ⟨r, M1, M2, e1, e2, e3⟩ := k_settle x1 x2 n (by omega) M hI
    rw [if_pos i1, if_pos i2, e1, Option.bind_some]
    dsimp only
    rw [if_pos i1, if_pos i2, e2, Option.bind_some]
    dsimp only
    rw [if_pos rfl]
    exact hj M2 e3
  rw [if_neg h27]
  by_cases h28 : v2 = (28 : Int32)
  · rw [if_pos h28]
    obtain ⟨r, M1, M2, e1, e2, e3⟩ := k_rule x1 x2 n (by omega) M hI
    have e1 := Option.some.inj e1
    rw [if_pos i1, if_pos i2, lt, e1]
    dsimp only
    rw [if_pos i1, if_pos i2, e2, Option.bind_some]
    dsimp only
    rw [if_pos rfl]
    exact hj M2 e3
  rw [if_neg h28]
  by_cases h29 : v2 = (29 : Int32)
  · rw [if_pos h29]
    obtain ⟨r, M1, M2, e1, e2, e3⟩ := k_glareAt x1 n (by omega) M hI
    rw [if_pos i1, e1, Option.bind_some]
    dsimp only
    rw [if_pos i1, e2, Option.bind_some]
    dsimp only
    rw [if_pos rfl]
    exact hj M2 e3
  rw [if_neg h29]
  by_cases h30 : v2 = (30 : Int32)
  · rw [if_pos h30]
    obtain ⟨r, M1, M2, e1, e2, e3⟩ := k_can x1 x2 n (by omega) M hI
    rw [if_pos i1, if_pos i2, e1, Option.bind_some]
    dsimp only
    rw [if_pos i1, if_pos i2, e2, Option.bind_some]
    dsimp only
    rw [if_pos rfl]
    exact hj M2 e3
  rw [if_neg h30]
  by_cases h31 : v2 = (31 : Int32)
  · rw [if_pos h31]
    obtain ⟨r, M1, M2, e1, e2, e3⟩ := k_guides x1 x2 n (by omega) M hI
    rw [if_pos i1, if_pos i2, e1, Option.bind_some]
    dsimp only
    rw [if_pos i1, if_pos i2, e2, Option.bind_some]
    dsimp only
    rw [if_pos rfl]
    exact hj M2 e3
  rw [if_neg h31]
  by_cases h32 : v2 = (32 : Int32)
  · rw [if_pos h32]
    obtain ⟨r, M1, M2, e1, e2, e3⟩ := k_stuck  n (by omega) M hI
    rw [e1, Option.bind_some]
    dsimp only
    rw [e2, Option.bind_some]
    dsimp only
    rw [if_pos rfl]
    exact hj M2 e3
  rw [if_neg h32]
  by_cases h33 : v2 = (33 : Int32)
  · rw [if_pos h33]
    obtain ⟨r, M1, M2, e1, e2, e3⟩ := k_reach x1 n (by omega) M hI
    rw [if_pos i1, e1, Option.bind_some]
    dsimp only
    rw [if_pos i1, e2, Option.bind_some]
    dsimp only
    rw [if_pos rfl]
    exact hj M2 e3
  rw [if_neg h33]
  by_cases h34 : v2 = (34 : Int32)
  · rw [if_pos h34]
    obtain ⟨r, M1, M2, e1, e2, e3⟩ := k_nextGlare x1 n (by omega) M hI
    rw [if_pos i1, e1, Option.bind_some]
    dsimp only
    rw [if_pos i1, e2, Option.bind_some]
    dsimp only
    rw [if_pos rfl]
    exact hj M2 e3
  rw [if_neg h34]
  by_cases h35 : v2 = (35 : Int32)
  · rw [if_pos h35]
    obtain ⟨r, M1, M2, e1, e2, e3⟩ := k_soonest x1 x2 n (by omega) M hI
    rw [if_pos i1, if_pos i2, e1, Option.bind_some]
    dsimp only
    rw [if_pos i1, if_pos i2, e2, Option.bind_some]
    dsimp only
    rw [if_pos rfl]
    exact hj M2 e3
  rw [if_neg h35]
  by_cases h36 : v2 = (36 : Int32)
  · rw [if_pos h36]
    obtain ⟨r, M1, M2, e1, e2, e3⟩ := k_soonestFirst x1 x2 n (by omega) M hI
    rw [if_pos i1, if_pos i2, e1, Option.bind_some]
    dsimp only
    rw [if_pos i1, if_pos i2, e2, Option.bind_some]
    dsimp only
    rw [if_pos rfl]
    exact hj M2 e3
  rw [if_neg h36]
  by_cases h37 : v2 = (37 : Int32)
  · rw [if_pos h37]
    obtain ⟨r, M1, M2, e1, e2, e3⟩ := k_soonestTwo x1 x2 x3 n (by omega) M hI
    rw [if_pos i1, if_pos i2, if_pos i3, e1, Option.bind_some]
    dsimp only
    rw [if_pos i1, if_pos i2, if_pos i3, e2, Option.bind_some]
    dsimp only
    rw [if_pos rfl]
    exact hj M2 e3
  rw [if_neg h37]
  by_cases h38 : v2 = (38 : Int32)
  · rw [if_pos h38]
    obtain ⟨r, M1, M2, e1, e2, e3⟩ := k_meet x1 x2 n (by omega) M hI
    rw [if_pos i1, if_pos i2, e1, Option.bind_some]
    dsimp only
    rw [if_pos i1, if_pos i2, e2, Option.bind_some]
    dsimp only
    rw [if_pos rfl]
    exact hj M2 e3
  rw [if_neg h38]
  by_cases h39 : v2 = (39 : Int32)
  · rw [if_pos h39]
    obtain ⟨r, M1, M2, e1, e2, e3⟩ := k_meetIn x1 x2 n (by omega) M hI
    rw [if_pos i1, if_pos i2, e1, Option.bind_some]
    dsimp only
    rw [if_pos i1, if_pos i2, e2, Option.bind_some]
    dsimp only
    rw [if_pos rfl]
    exact hj M2 e3
  rw [if_neg h39]
  by_cases h40 : v2 = (40 : Int32)
  · rw [if_pos h40]
    obtain ⟨r, M1, M2, e1, e2, e3⟩ := k_plants x1 x2 n (by omega) M hI
    rw [if_pos i1, if_pos i2, e1, Option.bind_some]
    dsimp only
    rw [if_pos i1, if_pos i2, e2, Option.bind_some]
    dsimp only
    rw [if_pos rfl]
    exact hj M2 e3
  rw [if_neg h40]
  by_cases h41 : v2 = (41 : Int32)
  · rw [if_pos h41]
    obtain ⟨r, M1, M2, e1, e2, e3⟩ := k_plantSet x1 x2 n (by omega) M hI
    rw [if_pos i1, if_pos i2, e1, Option.bind_some]
    dsimp only
    rw [if_pos i1, if_pos i2, e2, Option.bind_some]
    dsimp only
    rw [if_pos rfl]
    exact hj M2 e3
  rw [if_neg h41]
  by_cases h42 : v2 = (42 : Int32)
  · rw [if_pos h42]
    obtain ⟨r, M1, M2, e1, e2, e3⟩ := k_ways x1 x2 x3 x4 n (by omega) M hI
    rw [if_pos i1, if_pos i2, if_pos i3, if_pos i4, e1, Option.bind_some]
    dsimp only
    rw [if_pos i1, if_pos i2, if_pos i3, if_pos i4, e2, Option.bind_some]
    dsimp only
    rw [if_pos (lgT rfl)]
    exact hj M2 e3
  rw [if_neg h42]
  by_cases h43 : v2 = (43 : Int32)
  · rw [if_pos h43]
    obtain ⟨r, M1, M2, e1, e2, e3⟩ := k_pair x1 n (by omega) M hI
    rw [if_pos i1, e1, Option.bind_some]
    dsimp only
    rw [if_pos i1, e2, Option.bind_some]
    dsimp only
    rw [if_pos rfl]
    exact hj M2 e3
  rw [if_neg h43]
  by_cases h44 : v2 = (44 : Int32)
  · rw [if_pos h44]
    obtain ⟨r, M1, M2, e1, e2, e3⟩ := k_pairs  n (by omega) M hI
    rw [e1, Option.bind_some]
    dsimp only
    rw [e2, Option.bind_some]
    dsimp only
    rw [if_pos rfl]
    exact hj M2 e3
  rw [if_neg h44]
  by_cases h45 : v2 = (45 : Int32)
  · rw [if_pos h45]
    obtain ⟨r, M1, M2, e1, e2, e3⟩ := k_pairsOwe  n (by omega) M hI
    rw [e1, Option.bind_some]
    dsimp only
    rw [e2, Option.bind_some]
    dsimp only
    rw [if_pos rfl]
    exact hj M2 e3
  rw [if_neg h45]
  by_cases h46 : v2 = (46 : Int32)
  · rw [if_pos h46]
    obtain ⟨r, M1, M2, e1, e2, e3⟩ := k_dearest x1 n (by omega) M hI
    rw [if_pos i1, e1, Option.bind_some]
    dsimp only
    rw [if_pos i1, e2, Option.bind_some]
    dsimp only
    rw [if_pos rfl]
    exact hj M2 e3
  rw [if_neg h46]
  by_cases h47 : v2 = (47 : Int32)
  · rw [if_pos h47]
    obtain ⟨r, M1, M2, e1, e2, e3⟩ := k_clouds x1 x2 n (by omega) M hI
    rw [if_pos i1, if_pos i2, e1, Option.bind_some]
    dsimp only
    rw [if_pos i1, if_pos i2, e2, Option.bind_some]
    dsimp only
    rw [if_pos rfl]
    exact hj M2 e3
  rw [if_neg h47]
  by_cases h48 : v2 = (48 : Int32)
  · rw [if_pos h48]
    obtain ⟨r, M1, M2, e1, e2, e3⟩ := k_lostIn x1 n (by omega) M hI
    rw [if_pos i1, e1, Option.bind_some]
    dsimp only
    rw [if_pos i1, e2, Option.bind_some]
    dsimp only
    rw [if_pos rfl]
    exact hj M2 e3
  rw [if_neg h48]
  by_cases h49 : v2 = (49 : Int32)
  · rw [if_pos h49]
    obtain ⟨r, M1, M2, e1, e2, e3⟩ := k_lostBy x1 x2 x3 n (by omega) M hI
    rw [if_pos i1, if_pos i2, if_pos i3, e1, Option.bind_some]
    dsimp only
    rw [if_pos i1, if_pos i2, if_pos i3, e2, Option.bind_some]
    dsimp only
    rw [if_pos rfl]
    exact hj M2 e3
  rw [if_neg h49]
  by_cases h50 : v2 = (50 : Int32)
  · rw [if_pos h50]
    obtain ⟨r, M1, M2, e1, e2, e3⟩ := k_bestFrom x1 n (by omega) M hI
    rw [if_pos i1, e1, Option.bind_some]
    dsimp only
    rw [if_pos i1, e2, Option.bind_some]
    dsimp only
    rw [if_pos rfl]
    exact hj M2 e3
  rw [if_neg h50]
  by_cases h51 : v2 = (51 : Int32)
  · rw [if_pos h51]
    obtain ⟨r, M1, M2, e1, e2, e3⟩ := k_arrives x1 n (by omega) M hI
    rw [if_pos i1, e1, Option.bind_some]
    dsimp only
    rw [if_pos i1, e2, Option.bind_some]
    dsimp only
    rw [if_pos rfl]
    exact hj M2 e3
  rw [if_neg h51]
  by_cases h52 : v2 = (52 : Int32)
  · rw [if_pos h52]
    obtain ⟨r, M1, M2, e1, e2, e3⟩ := k_live x1 n (by omega) M hI
    rw [if_pos i1, e1, Option.bind_some]
    dsimp only
    rw [if_pos i1, e2, Option.bind_some]
    dsimp only
    rw [if_pos rfl]
    exact hj M2 e3
  rw [if_neg h52]
  by_cases h53 : v2 = (53 : Int32)
  · rw [if_pos h53]
    obtain ⟨r, M1, M2, e1, e2, e3⟩ := k_lived x1 n (by omega) M hI
    rw [if_pos i1, e1, Option.bind_some]
    dsimp only
    rw [if_pos i1, e2, Option.bind_some]
    dsimp only
    rw [if_pos rfl]
    exact hj M2 e3
  rw [if_neg h53]
  by_cases h54 : v2 = (54 : Int32)
  · rw [if_pos h54]
    obtain ⟨r, M1, M2, e1, e2, e3⟩ := k_mean x1 x2 n (by omega) M hI
    rw [if_pos i1, if_pos i2, e1, Option.bind_some]
    dsimp only
    rw [if_pos i1, if_pos i2, e2, Option.bind_some]
    dsimp only
    rw [if_pos rfl]
    exact hj M2 e3
  rw [if_neg h54]
  by_cases h55 : v2 = (55 : Int32)
  · rw [if_pos h55]
    obtain ⟨r, M1, M2, e1, e2, e3⟩ := k_mark  n (by omega) M hI
    rw [e1, Option.bind_some]
    dsimp only
    rw [e2, Option.bind_some]
    dsimp only
    rw [if_pos rfl]
    exact hj M2 e3
  rw [if_neg h55]
  by_cases h56 : v2 = (56 : Int32)
  · rw [if_pos h56]
    obtain ⟨r, M1, M2, e1, e2, e3⟩ := k_back  n (by omega) M hI
    rw [e1, Option.bind_some]
    dsimp only
    rw [e2, Option.bind_some]
    dsimp only
    rw [if_pos rfl]
    exact hj M2 e3
  rw [if_neg h56]
  exact hj M hI
/-- all calls: from a memory that keeps what stands between them, the law answers 1 -/
theorem law_all {Ln : Nat} {xs : Nat → Int32} (hL : Ln ≤ 3072) : ∀ (k : Nat) (w : Int) (M : KM) (n : Nat), 0 ≤ w → Ln ≤ w + 6 * k + 5 → w ≤ Ln + 6 → 41400 + k < n → Inv M → lp_L_law_18 n Ln xs 0 227 (zI w) M = some (1 : Int32) := by
  intro k
  induction k with
  | zero =>
    intro w M n w0 w1 w2 hn hI
    obtain ⟨n, rfl⟩ : ∃ q, n = q + 1 := ⟨n - 1, by omega⟩
    have eL : Int32.ofNat Ln = zI (Ln : Int) := by
      apply Int32.toBitVec_inj.mp
      simp [zI, Int32.ofInt, Int32.ofNat]
    rw [lp_L_law_18, if_pos (by rw [eL, show (6 : Int32) = zI 6 from rfl, zsub, zltT (by omega) (by omega) (by omega)]; trivial)]
  | succ k ih =>
    intro w M n w0 w1 w2 hn hI
    obtain ⟨n, rfl⟩ : ∃ q, n = q + 1 := ⟨n - 1, by omega⟩
    by_cases c : w + 6 ≤ Ln
    · refine law_one (by omega) hL w0 c hI (fun M' hI' => ?_)
      rw [show (6 : Int32) = zI 6 from rfl, zadd]
      exact ih (w + 6) M' n (by omega) (by omega) (by omega) (by omega) hI'
    · have eL : Int32.ofNat Ln = zI (Ln : Int) := by
        apply Int32.toBitVec_inj.mp
        simp [zI, Int32.ofInt, Int32.ofNat]
      rw [lp_L_law_18, if_pos (by rw [eL, show (6 : Int32) = zI 6 from rfl, zsub, zltT (by omega) (by omega) (by omega)]; trivial)]
