/-! ===== land: a road, whole ===== -/
theorem m_readTold1 {X X' : KM} {n : Nat} {p q : Int32} {r : Int} (h0 : X.1 227 12 = zI 0) (h : f_X12_told n 227 p q X = some (zI r, X)) (e : f_X12_advance n 227 X = some X') : f_X12_readTold n 227 p q X = some (zI r, X') := by
  unfold f_X12_readTold
  rw [h, Option.bind_some]
  show (f_X12_must n 227 (zI 1) X).bind _ = _
  rw [m_must1 h0 e]
  rfl
theorem m_readTold0 {X X' : KM} {n : Nat} {p q : Int32} {r : Int} (h : f_X12_told n 227 p q X = some (zI r, X')) (hb : XB X') : f_X12_readTold n 227 p q X = some (zI r, X') := by
  unfold f_X12_readTold
  rw [h, Option.bind_some]
  show (f_X12_must n 227 (zI 1) X').bind _ = _
  rw [xb_must hb]
  rfl
theorem fl_taken {T : Int → Int} {E s k j v f : Int} {a : Nat} {M M' X : KM} (h : GD T E a s k j v M X) (h11 : M'.1 a 11 = zI s) (f1 : 1 ≤ f) (f2 : f ≤ 7) : ∃ N Y, f_X9_failTaken a (zI f) M' = (zI 0, N) ∧ f_X12_fail 227 (zI f) (X.1 227 15) X = Y ∧ FL a M' N X Y := by
  have s1 := SG_s h.2.1
  refine ⟨_, _, c_failTaken, m_fail h.2.2.1, ?_⟩
  rw [s1.2.1, h11]
  exact fl_two f1 f2
theorem FL_b {a : Nat} {M N K X Y : KM} (h : FC a M N) (f : FL a N K X Y) : FL a M K X Y := ⟨f.1, FC_t h f.2.1, f.2.2⟩
/-- behind a fault, at any of the places of a road -/
theorem road_bad {T : Int → Int} {E s : Int} {n S : Nat} {M X M' Y : KM} {c : Int} {p q : Int32} (hS : 23 ≤ S) (hp1 : P01 M S) (c0 : 0 ≤ c) (c12 : c < 12) (f : FL 5 M M' X Y) : PcR T E S s n M X (some (zI 0, M')) (mR n (zI c) p q Y) := by
  rw [mR_bad c0 c12 (BD_X f.1)]
  exact pc_bad (BD_w (BD_w (BD_w f.1))) (P01_C (Or.inl rfl) hS f.2.1 hp1) (FC_M f.2.1) (FX_w (by omega) (FX_w (by omega) (FX_w (by omega) (GC_X f.2.2))))
theorem j_roadPart {T : Int → Int} {E s k v : Int} {M X : KM} {n S : Nat} {b : Int → Int} (hE : 0 ≤ E ∧ E ≤ 900) (hS : Sp S M) (h : GD T E 5 s k 7 v M X) (hL : LB S b M X) (hT : TO M X) (hn : 1000 < n) : PcR T E S s n M X (sq (fun M => f_X3_start n 5 (M.1 S 9) (12 : Int32) M) (f_X3_readRoad n 5 S) M) (f_X12_readRoad n 227 X) := by
  have S2 := hS.2
  have hp1 : P01 M S := hL.2.2.2.2.1
  have hN := LB_NA hL
  have hk : k = 1 := (SG_s h.2.1).2.2.2.2.2.2.2.2.2.2 (by omega)
  have m9 : M.1 S 9 = zI (sh b 2248 1) := hL.2.2.1.2.1
  have x9 : X.1 232 2249 = zI (sh b 2248 1) := by rw [sh_at (by omega) (by omega)]; exact hL.1 2249
  have hh := hL.2.1.1
  have x0 := h.2.2.1
  rw [m_readRoad_eq, if_pos (by decide)]
  by_cases c12 : sh b 2248 1 = 12
  · obtain ⟨M', X', f1, f2, f3⟩ := fl_fail (f := 6) h (by omega) (by omega)
    have cl : sq (fun M => f_X3_start n 5 (M.1 S 9) (12 : Int32) M) (f_X3_readRoad n 5 S) M = some (zI 0, M') := by
      refine sq_0 ?_
      unfold f_X3_start
      simp (disch := first | omega | assumption) only [↓lt, ↓reduceIte, zl, m9, zltF, if_false, f1]
    obtain ⟨f, d1, d2, d3⟩ := BD_X f3.1
    have mo : mR0 n (X.1 232 2249) (f_X12_fail 227 (6 : Int32) (X.1 227 15) X) = some X' := by
      rw [show f_X12_fail 227 (6 : Int32) (X.1 227 15) X = X' from f2]
      unfold mR0
      simp (disch := first | omega | assumption) only [↓reduceIte, zl, d3, zleF, if_false]
    rw [cl, if_pos (by rw [x9, c12]; rfl), mo]
    exact pc_bad f3.1 (P01_C (Or.inl rfl) (by omega) f3.2.1 hp1) (FC_M f3.2.1) (GC_X f3.2.2)
  · have c1 : 0 ≤ sh b 2248 1 ∧ sh b 2248 1 < 12 := by omega
    rw [if_neg (by rw [x9, show (12 : Int32) = zI 12 from rfl, zeqF c12 (by omega) (by omega) (by omega) (by omega)]; exact id), x9]
    obtain ⟨M1, X1, s1, k1, j1, v1, e1, e2, g1, -, l1, -, fm1, fx1⟩ := gd_adv (Or.inl rfl) hE h hn
    have l1 := l1 (by omega)
    have cl : ∀ r M', f_X3_readRoad n 5 S M1 = some (r, M') → r = zI 1 ∨ r = zI 0 → sq (fun M => f_X3_start n 5 (M.1 S 9) (12 : Int32) M) (f_X3_readRoad n 5 S) M = some (r, M') := fun r M' hr hz => by
      refine sq_1 (M1 := M1) ?_ hr hz
      unfold f_X3_start f_X9_skip
      simp (disch := first | omega | assumption) only [↓lt, ↓reduceIte, zl, m9, zltT, if_true, e1, Option.bind_some]
    have hN1 := NA_C (k := 4) (by omega) (Or.inl rfl) (by omega) fm1 fx1 hN
    unfold mR0
    rw [x0, if_pos (by decide), e2, Option.bind_some]
    show PcR T E S s n M X _ ((f_X12_readTold n 227 (zI 4) (zI 0) X1).bind _)
    rcases j_place (n := n) (B := 4) (Or.inl rfl) hE g1 (by omega) hN1 hn with ⟨M2, X2, x, xx, xy, p1, p2, p3, s2, k2, j2, v2, g2, l2, t2, fm2, fx2⟩ | ⟨M2, X2, p1, p2, p3⟩
    · rw [m_readTold1 g1.2.2.1 p2 p3, Option.bind_some]
      have fm2' := FC_t fm1 fm2
      have fx2' := GC_t fx1 fx2
      have hN2 := NA_C (k := 4) (by omega) (Or.inl rfl) (by omega) fm2 fx2 hN1
      show PcR T E S s n M X _ ((f_X12_told n 227 (zI 4) (zI 0) X2).bind _)
      rcases j_place (n := n) (B := 4) (Or.inl rfl) hE g2 (by omega) hN2 hn with ⟨M3, X3, y, yx, yy, q1, q2, q3, s3, k3, j3, v3, g3, l3, t3, fm3, fx3⟩ | ⟨M3, X3, q1, q2, q3⟩
      · rw [q2, Option.bind_some]
        have fm3' := FC_t fm2' fm3
        have L2 : LB S b M3 X2 := LB_C (Or.inl rfl) hS.1 (by omega) fm3' fx2' hL
        obtain ⟨r, r0, r1, r2, r3, r4, r5⟩ := j_between (n := n) (x := x) (y := y) L2 (by omega) (by omega) (by omega) (by omega) hn
        have x02 := g2.2.2.1
        obtain ⟨N, Y, f1, f2, f3⟩ := fl_taken (f := 5) g2 (M' := M3) t3 (by omega) (by omega)
        have F := FL_t fm3' fx2' f3
        rw [if_pos (show X2.1 227 12 = 0 from x02)]
        by_cases xe : x = y
        · have ct : f_X3_readRoad n 5 S M1 = some (zI 0, N) := by
            unfold f_X3_readRoad
            rw [p1]
            simp (disch := first | omega | assumption) only [↓lt, ↓reduceIte, zl, zneg, Int.reduceNeg, Option.bind_some, zeqF, if_false, q1, zeqT, if_true, f1]
          rw [cl _ _ ct (Or.inr rfl), if_pos (by rw [xe]), show f_X12_fail 227 (5 : Int32) (X2.1 227 15) X2 = Y from f2]
          exact road_bad (by omega) hp1 c1.1 c1.2 F
        · rw [if_neg (by rw [zeqF xe (by omega) (by omega) (by omega) (by omega)]; exact id), show f_X12_roadBy n 227 (4 : Int32) (zI x) (zI y) X2 = some (zI r) from r4 xe, Option.bind_some]
          by_cases rn : r = -1
          · -- a new road
            have E3 := j_roadEnd (n := n) (M := M) (X := X) (s := s) (x := x) (y := y) hE hS hL rfl c1.2 (by omega) g3 (by omega) (TO_C fm3' (GC_t fx2' fx3) hT) fm3' (GC_t fx2' fx3) hn
            rw [if_pos (by rw [rn]; decide)]
            have em : mR n (zI (sh b 2248 1)) (zI x) (zI y) X2 = (f_X12_must n 227 (f_X12_isMinutes 227 X3) X3).bind fun (v10 : KM) => mR2 n (zI (sh b 2248 1)) (zI x) (zI y) v10 := by
              unfold mR
              rw [show f_X12_must n 227 (1 : Int32) X2 = some X3 from m_must1 x02 q3]
              rfl
            rw [em]
            obtain ⟨r', M', X1', X', z1, z2, z3, z4⟩ := E3
            have ct : f_X3_readRoad n 5 S M1 = some (r', M') := by
              unfold f_X3_readRoad
              rw [p1, Option.bind_some, lt]
              simp only
              rw [if_neg (by rw [show (-1 : Int32) = zI (-1) from rfl, zeqF (by omega) (by omega) (by omega) (by omega) (by omega)]; exact id), q1, Option.bind_some]
              simp only
              rw [if_neg (by rw [show (-1 : Int32) = zI (-1) from rfl, zeqF (by omega) (by omega) (by omega) (by omega) (by omega)]; exact id), lt, if_neg (by rw [zeqF xe (by omega) (by omega) (by omega) (by omega)]; exact id), r3, Option.bind_some, if_pos (by rw [rn]; rfl)]
              exact z1
            rw [cl _ _ ct (by rcases z4 with z4 | z4; exact Or.inl z4.1; exact Or.inr z4.1)]
            exact ⟨r', M', X1', X', rfl, z2, z3, z4⟩
          · have ct : f_X3_readRoad n 5 S M1 = some (zI 0, N) := by
              unfold f_X3_readRoad
              rw [p1]
              simp (disch := first | omega | assumption) only [↓lt, ↓reduceIte, zl, zneg, Int.reduceNeg, Option.bind_some, zeqF, if_false, q1, r3, f1]
            rw [cl _ _ ct (Or.inr rfl), if_neg (by rw [show (0 : Int32) = zI 0 from rfl, zltF (by omega) (by omega) (by omega)]; exact id), show f_X12_fail 227 (5 : Int32) (X2.1 227 15) X2 = Y from f2]
            exact road_bad (by omega) hp1 c1.1 c1.2 F
      · -- the second isn't there
        have F := FL_t fm2' fx2' q3
        rw [q2, Option.bind_some]
        obtain ⟨f, d1, d2, d3⟩ := BD_X q3.1
        have ct : f_X3_readRoad n 5 S M1 = some (zI 0, M3) := by
          unfold f_X3_readRoad
          rw [p1]
          simp (disch := first | omega | assumption) only [↓lt, ↓reduceIte, zl, zneg, Int.reduceNeg, Option.bind_some, zeqF, if_false, q1, zeqT, if_true]
        rw [cl _ _ ct (Or.inr rfl), if_neg (by rw [d3, show (0 : Int32) = zI 0 from rfl, zeqF (by omega) (by omega) (by omega) (by omega) (by omega)]; exact id)]
        exact road_bad (by omega) hp1 c1.1 c1.2 F
    · -- the first isn't there
      have F := FL_t fm1 fx1 p3
      have xb := BD_X p3.1
      rw [m_readTold0 p2 xb, Option.bind_some]
      show PcR T E S s n M X _ ((f_X12_told n 227 (zI 4) (zI 0) X2).bind _)
      rw [xb_told xb, Option.bind_some]
      obtain ⟨f, d1, d2, d3⟩ := xb
      have ct : f_X3_readRoad n 5 S M1 = some (zI 0, M2) := by
        unfold f_X3_readRoad
        rw [p1]
        simp (disch := first | omega | assumption) only [↓lt, ↓reduceIte, zl, zneg, Int.reduceNeg, Option.bind_some, zeqT, if_true]
      rw [cl _ _ ct (Or.inr rfl), if_neg (by rw [d3, show (0 : Int32) = zI 0 from rfl, zeqF (by omega) (by omega) (by omega) (by omega) (by omega)]; exact id)]
      exact road_bad (by omega) hp1 c1.1 c1.2 F
