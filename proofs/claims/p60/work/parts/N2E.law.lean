/-! ===== the land told ===== -/
theorem LC_LOK {c : Int → Int} {M : KM} (h : LC c M) : LOK M 61 c := by
  obtain ⟨a2, a3, a4, a5, -, -⟩ := h
  have hw := CB_WB a2
  obtain ⟨h1, h2, h3, h4, h5, h6⟩ := a2
  refine ⟨a3, ⟨fun p u v => ?_, fun p r u v w x => ?_, fun p q u v w x => ?_, fun p u v => ?_⟩, hw.1, hw.2⟩
  · obtain ⟨q3, q4, q5, q6, q7, q8, q9, q10, q11, qg, qo⟩ := a4 p u v
    have hp := h4 p u (by omega)
    have e : ∀ k : Int, pg M 61 p 0 k = (M.1 (61 + 14 + 3 * p.toNat) k.toNat).toInt := fun k => rfl
    unfold GP
    rw [e 3, e 4, e 5, e 6, e 7, e 8, e 9, e 10, e 11]
    rw [show (3 : Int).toNat = 3 from rfl, show (4 : Int).toNat = 4 from rfl, show (5 : Int).toNat = 5 from rfl, show (6 : Int).toNat = 6 from rfl, show (7 : Int).toNat = 7 from rfl, show (8 : Int).toNat = 8 from rfl, show (9 : Int).toNat = 9 from rfl, show (10 : Int).toNat = 10 from rfl, show (11 : Int).toNat = 11 from rfl, q3, q4, q5, q6, q7, q8, q9, q10, q11]
    have hx := hp.2.2.2.2.2.2.2.2.1 v
    rw [zI_toInt (by omega) (by omega), zI_toInt (by omega) (by omega), zI_toInt (by omega) (by omega), zI_toInt (by omega) (by omega), zI_toInt (by omega) (by omega)]
    omega
  · obtain ⟨q3, q4, q5, q6, q7, q8, q9, q10, q11, qg, qo⟩ := a4 p u v
    have := h5 p r u (by omega) w (by omega)
    show (M.1 (61 + 14 + 3 * p.toNat + 1) r.toNat).toInt = _
    rw [qg r w (by omega), zI_toInt (by omega) (by omega)]
  · obtain ⟨q3, q4, q5, q6, q7, q8, q9, q10, q11, qg, qo⟩ := a4 p u v
    show (M.1 (61 + 14 + 3 * p.toNat + 2) q.toNat).toInt = _
    rw [qo q w (by omega), h6 _ (by omega) (by omega), zI_toInt (by omega) (by omega)]
  · have := a5 p.toNat (by omega)
    have e : ∀ k : Int, pg M 61 p 0 k = (M.1 (61 + 14 + 3 * p.toNat) k.toNat).toInt := fun k => rfl
    rw [e 3, e 4, show (3 : Int).toNat = 3 from rfl, show (4 : Int).toNat = 4 from rfl]
    have f : ∀ x : Int32, (x = zI 0 ∨ x = zI 1) → x.toInt = 0 ∨ x.toInt = 1 := fun x h => by
      rcases h with h | h
      · exact Or.inl (by rw [h, zI_toInt (by omega) (by omega)])
      · exact Or.inr (by rw [h, zI_toInt (by omega) (by omega)])
    exact ⟨f _ this.1, f _ this.2⟩
theorem key_ed {h c : Int → Int} {i r f t : Int} (hw : Rw h c (h 1)) (i1 : 0 ≤ i) (i2 : i < h 1) (r1 : 0 ≤ r) (r2 : r < h 1) (a : (c (10 + i) = f ∧ c (22 + i) = t) ∨ (c (10 + i) = t ∧ c (22 + i) = f)) (d : (f = c (10 + r) ∧ t = c (22 + r)) ∨ (f = c (22 + r) ∧ t = c (10 + r))) (hn : ¬ h (9 + r) = h (13 + r)) : key h i = key h r := by
  obtain ⟨x1, x2⟩ := hw.2.2 i i1 i2
  obtain ⟨y1, y2⟩ := hw.2.2 r r1 r2
  rw [x1, x2] at a
  rw [y1, y2] at d
  have e : (h (9 + i) = h (9 + r) ∧ h (13 + i) = h (13 + r)) ∨ (h (9 + i) = h (13 + r) ∧ h (13 + i) = h (9 + r)) := by omega
  unfold key
  rcases e with ⟨e1, e2⟩ | ⟨e1, e2⟩
  · rw [e1, e2]
  · rw [e1, e2]
    by_cases q : h (13 + r) < h (9 + r)
    · rw [if_pos q, if_neg (by omega)]
    · rw [if_neg q, if_pos (by omega)]
theorem UR_of {h c : Int → Int} (hR : RD h 10 0) (hw : Rw h c (h 1)) (hb : WB c) : UR c := by
  obtain ⟨hD, h10, h14, hr, hk⟩ := hR
  intro r f t he
  have hd := Ed_r hb he
  obtain ⟨r1, r2, d⟩ := he
  have w1 := hw.2.1
  have rn := (hr r r1 (by omega)).2.2.2.2.1
  unfold btB rdB
  rw [if_neg hd.2.2.2.2.1]
  rcases fst_r (P := fun i => decide ((c (10 + i) = f ∧ c (22 + i) = t) ∨ (c (10 + i) = t ∧ c (22 + i) = f))) (c 1).toNat 0 (by omega) with ⟨-, e⟩ | ⟨e1, e2, e3, -⟩
  · exfalso
    have := of_decide_eq_false (e r r1 (by omega))
    exact this (by omega)
  · have a := of_decide_eq_true e3
    generalize fstI (fun i => decide ((c (10 + i) = f ∧ c (22 + i) = t) ∨ (c (10 + i) = t ∧ c (22 + i) = f))) (c 1).toNat 0 = i at *
    have ke := key_ed hw e1 (by omega) r1 (by omega) a d rn
    refine Classical.byContradiction fun z => ?_
    by_cases q : i < r
    · have := hk i r e1 q (by omega); omega
    · have := hk r i r1 (by omega) (by omega); omega
theorem c_landT {h : Int → Int} {M : KM} {n : Nat} (hP : PD h 4) (hT : Tape M (txT h)) (hPt : Ptr M 23) (h69 : M.2.2 61 7 = 69) (hk : ∀ k : Nat, k < 26 → M.2.1 6 k = kwd k) (hp : P01 M 61) (h14 : M.1 0 14 = zI 0) (hH : Hr M h) (hn : 2000 ≤ n) : ∃ Y c, f_X11_land n 0 (zI (txT h).length) M = some (zI (h 2), Y) ∧ SS Y c none ∧ RI c 0 ∧ Y.1 228 (zI 2).toNatClampNeg = zI (h 2) := by
  have hD0 := hP.1.1
  unfold D1 at hD0
  have h04 := hP.1.2.2.1
  obtain ⟨M', c, r1, r2, r3, r4, r5, r6, r7⟩ := c_read (n := n) hP hT h69 hk hp hn
  obtain ⟨-, t1, ⟨tp, u1, u2, u3⟩, -, -⟩ := hT
  have hPt0 := hPt
  unfold Ptr at hPt0
  obtain ⟨Y, hY⟩ : ∃ Y : KM, Y = uI (uR (uR (uI (uI (uI M' 0 13 (zI 0)) 0 16 (M'.1 5 4)) 0 17 (M'.1 5 5)) 0 10 61) 0 11 23) 0 15 (zI 0) := ⟨_, rfl⟩
  have y1 : ∀ a k, ¬ (a = 0 ∧ (k = 13 ∨ k = 15 ∨ k = 16 ∨ k = 17)) → Y.1 a k = M'.1 a k := fun a k hh => by
    rw [hY, uI_o (by omega), uR_i, uR_i, uI_o (by omega), uI_o (by omega), uI_o (by omega)]
  have yj : Y.2.1 = M'.2.1 := by rw [hY]; rfl
  have yr : ∀ a k, ¬ (a = 0 ∧ (k = 10 ∨ k = 11)) → Y.2.2 a k = M'.2.2 a k := fun a k hh => by
    rw [hY]
    show (uR (uR (uI (uI (uI M' 0 13 (zI 0)) 0 16 (M'.1 5 4)) 0 17 (M'.1 5 5)) 0 10 61) 0 11 23).2.2 a k = _
    rw [uR_o (by omega), uR_o (by omega)]
    rfl
  have y10 : Y.2.2 0 10 = 61 := by
    rw [hY]
    show (uR (uR (uI (uI (uI M' 0 13 (zI 0)) 0 16 (M'.1 5 4)) 0 17 (M'.1 5 5)) 0 10 61) 0 11 23).2.2 0 10 = _
    rw [uR_o (by omega), uR_s]
  have y11 : Y.2.2 0 11 = 23 := by
    rw [hY]
    show (uR (uR (uI (uI (uI M' 0 13 (zI 0)) 0 16 (M'.1 5 4)) 0 17 (M'.1 5 5)) 0 10 61) 0 11 23).2.2 0 11 = _
    rw [uR_s]
  have yc : LC c Y := LC_of (fun a k x z => y1 a k (by omega)) (fun a k x z => by rw [yj]) r5
  have pt : Ptr Y 61 := by
    unfold Ptr
    rw [y10, y11, yr 23 7 (by omega), yr 61 7 (by omega), yr 0 12 (by omega), yr 113 7 (by omega), yr 151 7 (by omega), yr 189 7 (by omega), yr 14 2 (by omega), yr 14 3 (by omega), r4 23 7 (by omega), r4 61 7 (by omega), r4 0 12 (by omega), r4 113 7 (by omega), r4 151 7 (by omega), r4 189 7 (by omega), r4 14 2 (by omega), r4 14 3 (by omega)]
    exact ⟨rfl, Or.inr ⟨rfl, rfl⟩, hPt0.2.2⟩
  have yh : ∀ j : Int, 0 ≤ j → j < 53 → Y.1 228 (zI j).toNatClampNeg = zI (h j) := fun j j1 j2 => by
    rw [y1 _ _ (by omega), r2 _ _ (by omega) (by omega) (by omega) (by omega)]
    exact hH j j1 j2
  have w0 := r6.1
  have w1 := r6.2.1
  have hb := CB_WB r5.1
  refine ⟨Y, c, ?_, ⟨Y, 61, pg Y 61, ps_ex Y 61, LOK_CI pt (LC_LOK yc) (Or.inl ?_), ?_, ?_, ?_, ?_⟩, ⟨UR_of hP.1 r6 hb.1, by omega, by omega, by omega, ?_⟩, yh 2 (by omega) (by omega)⟩
  · have s11 : M.2.2 0 11 = 61 := by
      rcases hPt0.2.1 with z | z
      · exact z.2
      · exact absurd z.1 (by decide)
    have s11' : M'.2.2 0 11 = 61 := (r4 0 11 (by omega)).trans s11
    have s10' : M'.2.2 0 10 = 23 := (r4 0 10 (by omega)).trans hPt0.1
    have k10 : M'.1 61 10 = zI (h 2) := r5.2.1.2.2.1.trans (by rw [r7])
    have ek : f_X11_keepFault 0 5 M' = uI (uI (uI M' 0 13 (zI 0)) 0 16 (M'.1 5 4)) 0 17 (M'.1 5 5) := by
      unfold f_X11_keepFault
      simp only [zl]
      dsimp only [lt]
      rw [uI_o (by omega), uI_o (by omega), uI_o (by omega)]
    have g1 : (uI (uI (uI M' 0 13 (zI 0)) 0 16 (M'.1 5 4)) 0 17 (M'.1 5 5)).2.2 0 10 = 23 := s10'
    have g2 : (uI (uI (uI M' 0 13 (zI 0)) 0 16 (M'.1 5 4)) 0 17 (M'.1 5 5)).2.2 0 11 = 61 := s11'
    have g3 : (uR (uR (uI (uI (uI M' 0 13 (zI 0)) 0 16 (M'.1 5 4)) 0 17 (M'.1 5 5)) 0 10 61) 0 11 23).2.2 0 10 = 61 := by rw [uR_o (by omega), uR_s]
    have g4 : (uR (uR (uI (uI (uI M' 0 13 (zI 0)) 0 16 (M'.1 5 4)) 0 17 (M'.1 5 5)) 0 10 61) 0 11 23).1 61 10 = zI (h 2) := by
      rw [uR_i, uR_i, uI_o (by omega), uI_o (by omega), uI_o (by omega)]
      exact k10
    unfold f_X11_land
    simp only [zl]
    rw [lt_hd, if_neg (ltN (by omega) (by omega) (by omega)), u3, if_pos (leP (by omega) (by omega) (by omega)), s11, show f_X3_readInto n (0 + 5) 61 (0 + 2) (zI (txT h).length) M = some (zI 1, M') from r1, Option.bind_some]
    dsimp only [lt]
    rw [show f_X11_keepFault 0 (0 + 5) M' = _ from ek, if_neg (show ¬ zI 1 = zI 0 by decide), g1, g2, g3, g4, hY]
    rfl
  · rw [yr 61 7 (by omega), r4 61 7 (by omega), h69, y1 _ _ (by omega)]
    exact r3
  · show Y.1 0 14 = zI 0
    rw [y1 _ _ (by omega), r2 _ _ (by omega) (by omega) (by omega) (by omega)]
    exact h14
  · rw [w0]; exact yh 0 (by omega) (by omega)
  · rw [w1]; exact yh 1 (by omega) (by omega)
  · rw [r7]; exact yh 2 (by omega) (by omega)
  · have := r5.1.1
    omega
/-! ===== the law answers 1 ===== -/
theorem kwF_kwd : ∀ k, k < 26 → kwF k = kwd k := by decide +kernel
theorem pe_00 : ∀ q, q < 8 → i0 (kty (61 + 14 + 3 * q)) (61 + 14 + 3 * q) 3 = zI 0 ∧ i0 (kty (61 + 14 + 3 * q)) (61 + 14 + 3 * q) 4 = zI 0 := by decide +kernel
theorem m_ptr : Ptr M00 23 := by
  refine ⟨?_, Or.inl ⟨rfl, ?_⟩, Or.inl ?_, Or.inr (Or.inl ?_), Or.inr (Or.inr ?_), ?_, ?_, ?_, ?_, ?_, ?_, Or.inl ⟨?_, ?_⟩⟩
  · show r0 (kty 0) 0 10 = 23; decide +kernel
  · show r0 (kty 0) 0 11 = 61; decide +kernel
  · show r0 (kty 23) 23 7 = 31; decide +kernel
  · show r0 (kty 61) 61 7 = 69; decide +kernel
  · show r0 (kty 0) 0 12 = 99; decide +kernel
  · show ¬ r0 (kty 23) 23 7 = r0 (kty 61) 61 7; decide +kernel
  · show ¬ r0 (kty 23) 23 7 = r0 (kty 0) 0 12; decide +kernel
  · show ¬ r0 (kty 61) 61 7 = r0 (kty 0) 0 12; decide +kernel
  · show r0 (kty 113) 113 7 = 121; decide +kernel
  · show r0 (kty 151) 151 7 = 159; decide +kernel
  · show r0 (kty 189) 189 7 = 197; decide +kernel
  · show r0 (kty 14) 14 2 = 17; decide +kernel
  · show r0 (kty 14) 14 3 = 18; decide +kernel
theorem j0_24 (w : Nat → Int64) : j0 w 24 = w := rfl
theorem M00_j {a k : Nat} : M00.2.1 a k = j0 kwF (kty a) k := by
  unfold M00
  rfl
theorem m_kw : ∀ k : Nat, k < 26 → M00.2.1 6 k = kwd k := fun k hk => by
  rw [M00_j, kt_6, j0_24]
  exact kwF_kwd k hk
theorem m_2 (k : Nat) : M00.1 2 k = zI 0 := by
  show i0 (kty 2) 2 k = zI 0
  rw [kt_2]
  rfl
theorem law_true (L : Nat) (xs : Nat → Int32) (hL : L ≤ 260) : ∃ n, f_L_law L xs n 0 227 228 M00 = some 1 := by
  refine ⟨100000, ?_⟩
  obtain ⟨h, hP, e1⟩ := c_draw (M := M00) (Ln := L) (xs := xs) (n := 100000) hL (by omega) (fun z => (M00.1 228 z.toNat).toInt)
  rw [← hs_ex] at e1
  have o : ∀ a k, ¬ a = 228 → (hs M00 h).1 a k = M00.1 a k := fun a k ha => hs_o ha
  have c20 : M00.1 227 20 = zI 0 := by show i0 (kty 227) 227 20 = zI 0; decide +kernel
  have c21 : M00.1 227 21 = zI 0 := by show i0 (kty 227) 227 21 = zI 0; decide +kernel
  have c13 : M00.1 0 13 = zI 0 := by show i0 (kty 0) 0 13 = zI 0; decide +kernel
  have c14 : M00.1 0 14 = zI 0 := by show i0 (kty 0) 0 14 = zI 0; decide +kernel
  have hT : Tp (hs M00 h) [] := by
    refine ⟨fun c hc => absurd hc (List.not_mem_nil), Nat.zero_le _, 0, 0, rfl, by omega, ?_, ?_, ?_, fun i hi => absurd hi (Nat.not_lt_zero _), fun z hz => absurd hz (Nat.not_lt_zero _), fun z hz => ⟨0, by omega, by omega, ?_⟩⟩
    · rw [o _ _ (by omega)]; exact c20
    · rw [o _ _ (by omega)]; exact c21
    · rw [o _ _ (by omega)]; exact c13
    · rw [o _ _ (by omega)]; exact m_2 z
  obtain ⟨N, f1, f2, f3, e2⟩ := c_lay (n := 100000) hP hT (fun j j1 j2 => hs_h j1 (by omega)) (by omega)
  have n2 : N.2 = M00.2 := f1.1
  have n1 : ∀ a k, ¬ a = 227 → ¬ a = 228 → ¬ a = 2 → ¬ (a = 0 ∧ k = 13) → N.1 a k = M00.1 a k := fun a k x y z w => (f1.2 a k x z w).trans (o a k y)
  have np : Ptr N 23 := by
    have := m_ptr
    unfold Ptr at this ⊢
    rw [n2]
    exact this
  obtain ⟨Y, c, e3, s3, ri, y2⟩ := c_landT (n := 100000) hP f3 np (by rw [n2]; show r0 (kty 61) 61 7 = 69; decide +kernel) (fun k hk => by rw [n2]; exact m_kw k hk) (fun p hp => by
    obtain ⟨a, b⟩ := pe_00 p hp
    rw [n1 _ _ (by omega) (by omega) (by omega) (by omega), n1 _ _ (by omega) (by omega) (by omega) (by omega)]
    exact ⟨Or.inl a, Or.inl b⟩) (by rw [n1 _ _ (by omega) (by omega) (by omega) (by omega)]; exact c14) f2 (by omega)
  have fin := fun c4 => lp54 (c4 := c4) (Ln := L) (xs := xs) hL 7 100000 Y c 0 s3 ri (by omega) (by omega) (by omega)
  unfold f_L_law
  refine ex_d (fun D => ?_) (fun K hK => ?_)
  · rw [e1, Option.bind_some, e2, e3, Option.bind_some]
    dsimp only
    rw [y2, if_pos rfl, Option.bind_some]
    dsimp only
    rw [if_neg (show ¬ zI 1 = (0 : Int32) by decide)]
    exact fin D
  · simp only [zl]
    rw [nI_z]
    by_cases q : (L : Int) = 0
    · rw [if_pos (by rw [q])]; exact hK _
    · rw [if_neg (eqN q (by omega) (by omega) (by omega) (by omega)), zsub, if_pos (ixP (by omega) (by omega) (by omega))]; exact hK _
