/-! ===== the text read whole ===== -/
theorem hdT_eq {h : Int → Int} {l : List Int} : hdT h l = sw 0 ++ (nmb (h 3) ++ (sw 1 ++ (nmb (h 4) ++ (sw 6 ++ (wC ++ (nmb (h 5) ++ (sw 6 ++ (wR ++ (nmb (h 6) ++ (sw 6 ++ (wH ++ (nmb (h 7) ++ (sw 6 ++ (wO ++ (nmb (h 8) ++ (sw 6 ++ l)))))))))))))))) := rfl
theorem rd_head {T : Int → Int} {E : Int} {l : List Int} {h c : Int → Int} {M : KM} {n : Nat} (hD : D1 h) (hS : Rs T E M (hdT h l) c 0 0) (hL : Lx l) (hn : 1200 ≤ n) : Gr M n 0 5 (fun M' => ∃ c', Rs T E M' l c' 61 0 ∧ c' 0 = c 0 ∧ c' 1 = c 1 ∧ c' 2 = c 2) := by
  unfold D1 at hD
  rw [hdT_eq] at hS
  have g1 := Gr_1 (n := n) (w := 0) (t := 1) (u := 0) kw_0 hS.1 (by omega) (by omega) (by omega) (fun k hk => pt_glare hS.1 hS.2.1 hS.2.2 (by omega) (by omega) (by omega) (Kw_Lx kw_C))
  refine Gr_t (m := 1) (k := 4) g1 (fun M1 n1 w1 h1 a1 b1 c1 => ?_)
  have g2 := Gr_1 (n := n1) (w := w1) (t := 5) (u := 0) kw_C h1.1 c1 (by omega) (by omega) (fun k hk => pt_clock h1.1 h1.2.1 h1.2.2 (by decide) (by decide) (by omega) (by omega) (Kw_Lx kw_R))
  refine Gr_t (m := 1) (k := 3) g2 (fun M2 n2 w2 h2 a2 b2 c2 => ?_)
  have g3 := Gr_1 (n := n2) (w := w2) (t := 13) (u := 0) kw_R h2.1 c2 (by omega) (by omega) (fun k hk => pt_rope h2.1 h2.2.1 h2.2.2 (by decide) (by decide) (by omega) (by omega) (Kw_Lx kw_H))
  refine Gr_t (m := 1) (k := 2) g3 (fun M3 n3 w3 h3 a3 b3 c3 => ?_)
  have g4 := Gr_1 (n := n3) (w := w3) (t := 29) (u := 0) kw_H h3.1 c3 (by omega) (by omega) (fun k hk => pt_habit h3.1 h3.2.1 h3.2.2 (by decide) (by decide) (by omega) (by omega) (Kw_Lx kw_O))
  refine Gr_t (m := 1) (k := 1) g4 (fun M4 n4 w4 h4 a4 b4 c4 => ?_)
  have g5 := Gr_1 (n := n4) (w := w4) (t := 61) (u := 0) kw_O h4.1 c4 (by omega) (by omega) (fun k hk => pt_odds h4.1 h4.2.1 h4.2.2 (by decide) (by decide) (by omega) (by omega) hL)
  exact Gr_w g5 (fun M' hM => ⟨_, hM, rfl, rfl, rfl⟩)
theorem Rem_of {T : Int → Int} {E : Int} : ∀ (l : List Int) (p : Int), (∀ i : Nat, i < l.length → T (p + i) = l.getD i 0) → p + l.length = E → Rem T E p l := by
  intro l
  induction l with
  | nil => intro p _ h; exact (Int.add_zero p).symm.trans h
  | cons c l ih =>
    intro p h1 h2
    rw [List.length_cons] at h2
    refine ⟨?_, ih (p + 1) (fun i hi => ?_) (by omega)⟩
    · have := h1 0 (by rw [List.length_cons]; omega)
      rw [show p + ((0 : Nat) : Int) = p by omega] at this
      exact this
    · have := h1 (i + 1) (by rw [List.length_cons]; omega)
      rw [show p + ((i + 1 : Nat) : Int) = p + 1 + i by omega] at this
      exact this
theorem rd_all {T : Int → Int} {E : Int} {h c : Int → Int} {M : KM} {n : Nat} (hP : PD h 4) (hS : Rs T E M (txT h) c 0 0) (h0 : c 0 = 0) (h1 : c 1 = 0) (h2 : c 2 = 0) (hn : 2000 ≤ n) : ∃ M' c', lp_X3_readInto_23 n 5 61 (zI 0) M = some (zI 1, M') ∧ RF M M' ∧ LC c' M' ∧ Rw h c' (h 1) ∧ c' 2 = h 2 := by
  have hP0 := hP
  obtain ⟨hR, hp⟩ := hP0
  have hR0 := hR
  obtain ⟨hD, h10, h14, hr, hk⟩ := hR0
  have hD0 := hD
  unfold D1 at hD0
  have lp : Lx (ppT h (h 2).toNat 0 ++ []) := by
    cases (h 2).toNat with
    | zero => exact ⟨_, _, _, _, _, nx_end⟩
    | succ m =>
      rw [ppT]
      simp only [List.append_assoc]
      exact Kw_Lx kw_p
  have lr : Lx (rdT h (h 1).toNat 0 ++ (ppT h (h 2).toNat 0 ++ [])) := by
    cases (h 1).toNat with
    | zero => exact lp
    | succ m =>
      rw [rdT]
      simp only [List.append_assoc]
      exact Kw_Lx kw_8
  have ll : Lx (plT (h 0).toNat 0 ++ (rdT h (h 1).toNat 0 ++ (ppT h (h 2).toNat 0 ++ []))) := by
    cases (h 0).toNat with
    | zero => exact lr
    | succ m => exact Kw_Lx (kw_7 (s := 108) (k := 0) (x := sw 6 ++ (plT m (0 + 1) ++ (rdT h (h 1).toNat 0 ++ (ppT h (h 2).toNat 0 ++ [])))))
  have e : txT h = hdT h (plT (h 0).toNat 0 ++ (rdT h (h 1).toNat 0 ++ (ppT h (h 2).toNat 0 ++ []))) := by
    unfold txT
    rw [List.append_nil]
  rw [e] at hS
  have g := Gr_t (M := M) (n := n) (w := 0) (m := 5) (k := 4 + (4 + 20)) (rd_head hD hS ll (by omega)) (fun M1 n1 w1 ⟨c1, s1, z0, z1, z2⟩ a1 b1 d1 => Gr_t (m := 4) (k := 4 + 20) (Gr_u (rd_places (T := T) (E := E) (t := 61) (u := 0) lr (h 0).toNat n1 w1 M1 c1 (by rw [z0, h0]; exact s1) (by omega) d1 (by omega) (by omega)) (by omega)) (fun M2 n2 w2 ⟨c2, s2, y0, y1⟩ a2 b2 d2 => Gr_t (m := 4) (k := 20) (Gr_u (rd_roads (h := h) (t := 61) (u := 0) lp hR (h 1).toNat n2 w2 0 M2 c2 s2 ⟨by rw [y0]; omega, by rw [y1 1 (by omega)]; omega, fun i i0 i1 => by omega⟩ (by omega) (by omega) d2 (by omega) (by omega)) (by omega)) (fun M3 n3 w3 ⟨c3, s3, x1, x2⟩ a3 b3 d3 => Gr_u (rd_people hP (h 2).toNat n3 w3 0 M3 c3 (by rw [x2, y1 2 (by omega), z2, h2]; exact s3) x1 (by rw [x2, y1 2 (by omega)]; omega) (by rw [x2, y1 2 (by omega)]; omega) d3 (by omega) (by omega)) (by omega))))
  obtain ⟨n', w', M', q1, q2, q3, q4, q5, c', u', q6, q7, q8⟩ := g
  refine ⟨M', c', ?_, q5, q6.2.1, q7, q8⟩
  obtain ⟨k, rfl⟩ : ∃ k, n' = k + 1 := ⟨n' - 1, by omega⟩
  have h6 := (q6.1.2 _ _ _ _ _ nx_end).2.1
  rw [q1, lp_X3_readInto_23]
  simp only [zl]
  rw [if_neg (leN (by omega) (by omega) (by omega)), lt_hd, c_isAtEnd h6 (by omega) (by omega), bIT rfl, if_neg (show ¬ zI 1 = zI 0 by decide)]
theorem em_v : emB 0 = 0 ∧ emB 1 = 0 ∧ emB 2 = 0 ∧ emB 3 = 10 ∧ emB 4 = 16 ∧ emB 5 = 480 ∧ emB 6 = 9 ∧ emB 7 = 3 ∧ emB 8 = 4 ∧ emB 9 = 0 := by decide
/-- the reader at the beginning -/
def rdM (M : KM) (len : Int) : KM := uI (uI (uI (uI (uI (uR (uI (uI (f_X2_clear 61 M) 5 12 (zI 0)) 5 13 (zI 0)) 5 1 2) 5 2 (zI len)) 5 3 (zI 0)) 5 11 (zI 0)) 5 4 (zI 0)) 5 5 (-zI 1)
theorem rdM_v {M : KM} {len : Int} : (∀ a k, ¬ a = 5 → (rdM M len).1 a k = (f_X2_clear 61 M).1 a k) ∧ (rdM M len).1 5 2 = zI len ∧ (rdM M len).1 5 3 = zI 0 ∧ (rdM M len).1 5 12 = zI 0 ∧ (rdM M len).1 5 13 = zI 0 ∧ (rdM M len).2.1 = (f_X2_clear 61 M).2.1 ∧ (rdM M len).2.2 5 1 = 2 ∧ ∀ a k, ¬ (a = 5 ∧ k = 1) → (rdM M len).2.2 a k = (f_X2_clear 61 M).2.2 a k := by
  have e : (rdM M len).2 = (uR (uI (uI (f_X2_clear 61 M) 5 12 (zI 0)) 5 13 (zI 0)) 5 1 2).2 := rfl
  refine ⟨fun a k h => ?_, ?_, ?_, ?_, ?_, rfl, ?_, fun a k h => ?_⟩
  · unfold rdM
    rw [uI_o (by omega), uI_o (by omega), uI_o (by omega), uI_o (by omega), uI_o (by omega), uR_i, uI_o (by omega), uI_o (by omega)]
  · unfold rdM
    rw [uI_o (by omega), uI_o (by omega), uI_o (by omega), uI_o (by omega), uI_s]
  · unfold rdM
    rw [uI_o (by omega), uI_o (by omega), uI_o (by omega), uI_s]
  · unfold rdM
    rw [uI_o (by omega), uI_o (by omega), uI_o (by omega), uI_o (by omega), uI_o (by omega), uR_i, uI_o (by omega), uI_s]
  · unfold rdM
    rw [uI_o (by omega), uI_o (by omega), uI_o (by omega), uI_o (by omega), uI_o (by omega), uR_i, uI_s]
  · rw [e]; exact uR_s
  · rw [e]; exact uR_o h
theorem rdM_e {M : KM} {len : Int} {n : Nat} (h : len ≤ 880) (h0 : 0 ≤ len) : f_X3_readInto n 5 61 2 (zI len) M = (f_X9_advance n 5 (rdM M len)).bind fun v4 => lp_X3_readInto_23 n 5 61 (zI 0) v4 := by
  unfold f_X3_readInto f_X9_begin rdM
  simp only [zl]
  dsimp only [lt]
  rw [tp900, nI_z, if_neg (ltN (by omega) (by omega) (by omega)), bsome]
theorem c_read {h : Int → Int} {M : KM} {n : Nat} (hP : PD h 4) (hT : Tape M (txT h)) (h69 : M.2.2 61 7 = 69) (hk : ∀ k : Nat, k < 26 → M.2.1 6 k = kwd k) (hp : P01 M 61) (hn : 2000 ≤ n) : ∃ M' c', f_X3_readInto n 5 61 2 (zI (txT h).length) M = some (zI 1, M') ∧ (∀ a k, ¬ a = 5 → ¬ (61 ≤ a ∧ a < 69) → ¬ a = 69 → ¬ (75 ≤ a ∧ a < 99) → M'.1 a k = M.1 a k) ∧ M'.1 69 7 = zI 0 ∧ (∀ a k, ¬ (a = 5 ∧ k = 1) → M'.2.2 a k = M.2.2 a k) ∧ LC c' M' ∧ Rw h c' (h 1) ∧ c' 2 = h 2 := by
  have hD0 := hP.1.1
  unfold D1 at hD0
  have h14 := hP.1.2.2.1
  obtain ⟨t0, t1, t2, t3, t4⟩ := hT
  obtain ⟨v2, v8, v9, v10, v11, v12, v13, v14, v15, u0, u1, u2, p5, p6, p7, vo⟩ := c_clear (S := 61) (P := 69) (M := M) h69 (by omega) (by omega)
  obtain ⟨e0, e1, e2, e3, e4, e5, e6, e7, e8, e9⟩ := em_v
  have eR := rdM_e (M := M) (len := (txT h).length) (n := n) (by omega) (by omega)
  obtain ⟨f1, f2, f3, f12, f13, fj, fr1, fro⟩ := rdM_v (M := M) (len := (txT h).length)
  rw [v2] at fj
  simp only [v2] at fro
  generalize rdM M (txT h).length = M7 at *
  have g1 : ∀ a k, ¬ a = 5 → ¬ (a = 61 ∧ 8 ≤ k ∧ k ≤ 15) → ¬ (a = 68 ∧ k ≤ 2) → ¬ (a = 69 ∧ 5 ≤ k ∧ k ≤ 7) → M7.1 a k = M.1 a k := fun a k x0 x1 x2 x3 => (f1 a k x0).trans (vo a k x1 x2 x3)
  have rc : RC (fun z => (M.1 2 z.toNat).toInt) (txT h).length M7 := by
    refine ⟨fr1, f2, fun z z0 z1 => ?_, fun k hk2 => by rw [fj]; exact hk k hk2, by omega, by omega⟩
    obtain ⟨b, b0, b1, b2⟩ := t4 z.toNat (by omega)
    have hb : (M.1 2 z.toNat).toInt = b := by rw [b2, zI_toInt (by omega) (by omega)]
    show M7.1 2 z.toNat = zI (M.1 2 z.toNat).toInt ∧ -128 ≤ (M.1 2 z.toNat).toInt ∧ (M.1 2 z.toNat).toInt < 128
    rw [hb, g1 _ _ (by omega) (by omega) (by omega) (by omega), b2]
    exact ⟨rfl, b0, b1⟩
  have rm : Rem (fun z => (M.1 2 z.toNat).toInt) (txT h).length 0 (txT h) := Rem_of (txT h) 0 (fun i hi => by
    have e := t3 i hi
    have r := gd_r t0 i
    show (M.1 2 ((0 : Int) + (i : Int)).toNat).toInt = _
    rw [show ((0 : Int) + (i : Int)).toNat = i by omega, e, zI_toInt (by omega) (by omega)]) (by omega)
  have lx : Lx (txT h) := Kw_Lx (show Kw (hdT h _) from kw_0)
  obtain ⟨M8, a1, a2, a3⟩ := tk_At (n := n) rc ⟨0, f3, by omega, rm⟩ (by omega) lx
  have lc : LC emB M8 := by
    refine LC_F a2 ⟨em_CB (fun _ _ _ => rfl), ?_, fun p u v => by omega, P01_of (fun a k x y => g1 a k (by omega) (by omega) (by omega) (by omega)) hp, fun k u v => by omega, fun p u v => by omega⟩
    unfold HL
    rw [e0, e1, e2, e3, e4, e5, e6, e7, e8, e9]
    refine ⟨?_, ?_, ?_, ?_, ?_, ?_, ?_, ?_, ?_, ?_, ?_, fun r u v => by omega, fun r u v => by omega, fun r u v => by omega, fun r u v => by omega⟩
    · rw [f1 _ _ (by omega)]; exact v8
    · rw [f1 _ _ (by omega)]; exact v9
    · rw [f1 _ _ (by omega)]; exact v10
    · rw [f1 _ _ (by omega)]; exact v11
    · rw [f1 _ _ (by omega)]; exact v12
    · rw [f1 _ _ (by omega)]; exact v13
    · rw [f1 _ _ (by omega)]; exact v14
    · rw [f1 _ _ (by omega)]; exact v15
    · rw [f1 _ _ (by omega)]; exact u0
    · rw [f1 _ _ (by omega)]; exact u1
    · rw [f1 _ _ (by omega)]; exact u2
  obtain ⟨M', c', b1, b2, b3, b4, b5⟩ := rd_all (n := n) hP ⟨a3, lc, To_F a2 ⟨f12, f13⟩⟩ e0 e1 e2 hn
  refine ⟨M', c', ?_, fun a k x0 x1 x2 x3 => ?_, ?_, fun a k x => ?_, b3, b4, b5⟩
  · rw [eR, a1]
    exact b1
  · rw [b2.2 a k x0 x1 x3, a2.1 _ _ (by omega), g1 a k x0 (by omega) (by omega) (by omega)]
  · rw [b2.2 _ _ (by omega) (by omega) (by omega), a2.1 _ _ (by omega), f1 _ _ (by omega)]; exact p7
  · rw [b2.1, a2.2.2, fro a k x]
