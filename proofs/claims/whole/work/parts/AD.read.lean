/-! ===== land: a road that is known ===== -/
def mK3 (n : Nat) (p r : Int32) (M7 : KM) : Option KM :=
  (f_X12_must n 227 (1 : Int32) M7).bind fun (v8 : KM) =>
      if (v8.1 227 12) = 0 then
        if ix (2255 : Int32) 2810 then
        if ix (((2378 : Int32) + ((12 : Int32) * p)) + r) 2810 then
        lt (uI v8 232 ((((2378 : Int32) + ((12 : Int32) * p)) + r)).toNatClampNeg (v8.1 232 ((2255 : Int32)).toNatClampNeg)) fun (M11 : KM) =>
        some M11
        else none
        else none
      else
        some v8
def mKj (n : Nat) (p r : Int32) (Y : KM) : Option KM := if 0 ≤ r then mK3 n p r Y else mK3 n p r (f_X12_fail 227 (3 : Int32) (Y.1 227 15) Y)
def mK (n : Nat) (p x y : Int32) (Y : KM) : Option KM := if (Y.1 227 12) = 0 then (f_X12_roadBy n 227 (4 : Int32) x y Y).bind fun (v15 : Int32) => mKj n p v15 Y else mKj n p (0 : Int32) Y
theorem m_readKnows_eq {n : Nat} {X : KM} : f_X12_readKnows n 227 X = (f_X12_advance n 227 X).bind fun (v1 : KM) => (f_X12_readTold n 227 (4 : Int32) (1 : Int32) (uI v1 227 26 (1 : Int32))).bind fun (v3 : (Int32 × KM)) => (f_X12_readTold n 227 (4 : Int32) (0 : Int32) v3.2).bind fun (v4 : (Int32 × KM)) => (f_X12_told n 227 (4 : Int32) (0 : Int32) v4.2).bind fun (v5 : (Int32 × KM)) => mK n v3.1 v4.1 v5.1 v5.2 := rfl
theorem mK3_bad {n : Nat} {p r : Int32} {Y : KM} (h : XB Y) : mK3 n p r Y = some Y := by
  have e := xb_must (n := n) (p := zI 1) h
  obtain ⟨f, f1, f2, f3⟩ := h
  unfold mK3
  simp (disch := first | omega | assumption) only [↓reduceIte, zl, e, Option.bind_some, f3, zeqF, if_false]
theorem mK_bad {n : Nat} {p x y : Int32} {Y : KM} (h : XB Y) : mK n p x y Y = some Y := by
  have e := mK3_bad (n := n) (p := p) (r := 0) h
  obtain ⟨f, f1, f2, f3⟩ := h
  unfold mK mKj
  rw [if_neg (by rw [f3, show (0 : Int32) = zI 0 from rfl, zeqF (by omega) (by omega) (by omega) (by omega) (by omega)]; exact id), if_pos (by decide)]
  exact e
/-- a road known: laid down -/
theorem LB_known {S : Nat} {b : Int → Int} {M X : KM} {p r : Int} (hS : Sp S M) (h : LB S b M X) (p0 : 0 ≤ p) (p1 : p < sh b 2248 2) (r0 : 0 ≤ r) (r1 : r < sh b 2248 1) : LB S (bu b (2378 + 12 * p + r) (b 2255)) (uI M (S + 14 + 3 * p.toNat + 1) r.toNat (zI (b 2255))) (uI X 232 (2378 + 12 * p + r).toNat (zI (b 2255))) := by
  obtain ⟨a1, a2, a3, a4, a5, a6, a7, a8, a9, a10⟩ := h
  have hh := a2.1
  obtain ⟨hP, hS⟩ := hS
  have s7 : sh b 2248 7 = b 2255 := sh_at (by omega) (by omega)
  have sb : ∀ z, 0 ≤ z → z < 562 → ¬ z = 130 + 12 * p + r → sh (bu b (2378 + 12 * p + r) (b 2255)) 2248 z = sh b 2248 z := fun z u v e1 => by
    rw [sh_at u v, sh_at u v, bu_o (by omega)]
  have sk : sh (bu b (2378 + 12 * p + r) (b 2255)) 2248 (130 + 12 * p + r) = b 2255 := by
    rw [sh_at (by omega) (by omega), show 2248 + (130 + 12 * p + r) = 2378 + 12 * p + r by omega]; exact bu_s
  have hC := CB_known a2 p0 p1 r0 r1 sb (by rw [sk, s7])
  have z0 := sb 0 (by omega) (by omega) (by omega)
  have z1 := sb 1 (by omega) (by omega) (by omega)
  have z2 := sb 2 (by omega) (by omega) (by omega)
  have z3 := sb 3 (by omega) (by omega) (by omega)
  have z4 := sb 4 (by omega) (by omega) (by omega)
  have z5 := sb 5 (by omega) (by omega) (by omega)
  have z6 := sb 6 (by omega) (by omega) (by omega)
  have z7 := sb 7 (by omega) (by omega) (by omega)
  have z8 := sb 8 (by omega) (by omega) (by omega)
  have z9 := sb 9 (by omega) (by omega) (by omega)
  have mo : ∀ a k, ¬ (a = S + 14 + 3 * p.toNat + 1 ∧ k = r.toNat) → (uI M (S + 14 + 3 * p.toNat + 1) r.toNat (zI (b 2255))).1 a k = M.1 a k := fun a k q => uI_o q
  obtain ⟨c0, c1, c2, c5, c6, c7, cc8, c9, c3, c4, cd, ca, cb, cc, cs⟩ := a3
  refine ⟨row_bu (by omega) a1, hC, ⟨?_, ?_, ?_, ?_, ?_, ?_, ?_, ?_, ?_, ?_, ?_, fun r u v => ?_, fun r u v => ?_, fun r u v => ?_, fun r u v => ?_⟩, fun x u v => ?_, fun x u => ?_, fun k u v => ?_, fun k u v => ?_, ?_, ?_, ?_⟩
  · rw [z0, mo _ _ (by omega)]; exact c0
  · rw [z1, mo _ _ (by omega)]; exact c1
  · rw [z2, mo _ _ (by omega)]; exact c2
  · rw [z5, mo _ _ (by omega)]; exact c5
  · rw [z6, mo _ _ (by omega)]; exact c6
  · rw [z7, mo _ _ (by omega)]; exact c7
  · rw [z8, mo _ _ (by omega)]; exact cc8
  · rw [z9, mo _ _ (by omega)]; exact c9
  · rw [z3, mo _ _ (by omega)]; exact c3
  · rw [z4, mo _ _ (by omega)]; exact c4
  · rw [z3, z4, mo _ _ (by omega)]; exact cd
  · rw [z1] at v; rw [sb _ (by omega) (by omega) (by omega), mo _ _ (by omega)]; exact ca r u v
  · rw [z1] at v; rw [sb _ (by omega) (by omega) (by omega), mo _ _ (by omega)]; exact cb r u v
  · rw [z1] at v; rw [sb _ (by omega) (by omega) (by omega), mo _ _ (by omega)]; exact cc r u v
  · rw [z1] at v; rw [sb _ (by omega) (by omega) (by omega), mo _ _ (by omega)]; exact cs r u v
  · rw [z2] at v
    obtain ⟨q3, q4, q5, q6, q7, q8, q9, q10, q11, qg, qo⟩ := a4 x u v
    refine ⟨?_, ?_, ?_, ?_, ?_, ?_, ?_, ?_, ?_, fun y u2 v2 => ?_, fun q u2 v2 => ?_⟩
    · rw [sb (106 + x) (by omega) (by omega) (by omega), mo _ _ (by omega)]; exact q3
    · rw [sb (98 + x) (by omega) (by omega) (by omega), mo _ _ (by omega)]; exact q4
    · rw [sb (58 + x) (by omega) (by omega) (by omega), mo _ _ (by omega)]; exact q5
    · rw [mo _ _ (by omega)]; exact q6
    · rw [mo _ _ (by omega)]; exact q7
    · rw [mo _ _ (by omega)]; exact q8
    · rw [mo _ _ (by omega)]; exact q9
    · rw [mo _ _ (by omega)]; exact q10
    · rw [mo _ _ (by omega)]; exact q11
    · by_cases w : x = p ∧ y = r
      · rw [w.1, w.2, sk, uI_s]
      · rw [sb _ (by omega) (by omega) (by omega), mo _ _ (by omega)]; exact qg y u2 v2
    · rw [mo _ _ (by omega)]; exact qo q u2 v2
  · rw [mo _ _ (by omega), mo _ _ (by omega)]; exact a5 x u
  · rw [z0] at v; exact a6 k u v
  · rw [z2] at v; exact a7 k u v
  · show (uI M (S + 14 + 3 * p.toNat + 1) r.toNat (zI (b 2255))).1 (M.2.2 S 7) 5 = _
    rw [mo _ _ (by omega)]; exact a8
  · show (uI M (S + 14 + 3 * p.toNat + 1) r.toNat (zI (b 2255))).1 (M.2.2 S 7) 6 = _
    rw [mo _ _ (by omega)]; exact a9
  · show (uI M (S + 14 + 3 * p.toNat + 1) r.toNat (zI (b 2255))).1 (M.2.2 S 7) 7 = _
    rw [mo _ _ (by omega)]; exact a10
theorem j_knownPart {T : Int → Int} {E s k v : Int} {M X : KM} {n S : Nat} {b : Int → Int} (hE : 0 ≤ E ∧ E ≤ 900) (hS : Sp S M) (h : GD T E 5 s k 14 v M X) (hL : LB S b M X) (hT : TO M X) (hn : 1000 < n) : PcR T E S s n M X (f_X3_readKnows n 5 S M) (f_X12_readKnows n 227 X) := by
  have S2 := hS.2
  have hp1 : P01 M S := hL.2.2.2.2.1
  have hk : k = 1 := (SG_s h.2.1).2.2.2.2.2.2.2.2.2.2 (by omega)
  have hh := hL.2.1.1
  have h' : GD T E 5 s k 14 v (uI M 5 13 (zI 1)) X := GD_of (M := M) (X := X) (fun c i w => uI_o (by omega)) (fun _ _ _ => rfl) rfl (fun _ _ _ => rfl) rfl h
  obtain ⟨M1, X0, s1, k1, j1, v1, e1, e2, g0, -, l1, -, fm0, fx0⟩ := gd_adv (Or.inl rfl) hE h' hn
  have l1 := l1 (by omega)
  have g1 : GD T E 5 s1 k1 j1 v1 M1 (uI X0 227 26 (zI 1)) := GD_of (M := M1) (X := X0) (fun _ _ _ => rfl) (fun _ _ _ => rfl) rfl (fun c i w => uI_o (by omega)) rfl g0
  have fm1 : FO M M1 := ⟨fun c i w => by rw [fm0.1 c i (by omega), uI_o (by omega)], fun i w => by rw [fm0.1 5 i (by omega), uI_o (by omega)], fun c i w => by rw [fm0.2.1 c i (by omega)]; rfl, by rw [fm0.2.2]; rfl⟩
  have fx1 : GO X (uI X0 227 26 (zI 1)) := ⟨fun c i w => by rw [uI_o (by omega)]; exact fx0.1 c i (by omega), fun c i w => fx0.2.1 c i w, fx0.2.2⟩
  have T1 : TO M1 (uI X0 227 26 (zI 1)) := by
    obtain ⟨t, u, a1, a2, a3, a4, a5, a6, a7, a8⟩ := hT
    refine ⟨t, 1, a1, a2, by omega, by omega, ?_, ?_, ?_, uI_s⟩
    · rw [fm0.1 _ _ (by omega), uI_o (by omega)]; exact a5
    · rw [uI_o (by omega), fx0.1 _ _ (by omega)]; exact a6
    · rw [fm0.1 _ _ (by omega), uI_s]
  have L1 : LB S b M1 (uI X0 227 26 (zI 1)) := LB_O hS.1 (by omega) fm1 fx1 hL
  have hS1 : Sp S M1 := ⟨by rw [fm1.2.2.2]; exact hS.1, S2⟩
  rw [m_readKnows_eq, e2, Option.bind_some]
  generalize hX1 : uI X0 227 26 (zI 1) = X1 at *
  have bad : ∀ (M' Y : KM) (p x y : Int32), FC 5 M1 M' → GC X1 Y → BD 5 M' Y → PcR T E S s n M X (some (zI 0, M')) (mK n p x y Y) := fun M' Y p x y f1 f2 f3 => by
    rw [mK_bad (BD_X f3)]
    have F := FO_t fm1 (FC_O f1)
    exact pc_bad f3 (P01_O (by omega) F hp1) (FO_M F) (GO_X (GO_t fx1 (GC_O f2)))
  have C : ∀ r M', ((f_X9_takePerson n 5 S M1).bind fun (v3 : (Int32 × KM)) =>
  lt (fun (x4 : Int32) (M5 : KM) => (
    lt (fun (x6 : Int32) (M7 : KM) => (
      if x6 = (-1 : Int32) then
        some ((0 : Int32), M7)
      else
        (f_X2_roadBetween n S x4 x6 M7).bind fun (v8 : Int32) =>
        if v8 = (-1 : Int32) then
          lt (f_X9_failTaken 5 (3 : Int32) M7) fun (v13 : (Int32 × KM)) =>
          some (v13.1, v13.2)
        else
          if ix v3.1 8 then
          if ix v8 12 then
          lt (uI M7 (((S + 6) + 8 + 3 * (v3.1).toNatClampNeg) + 1) (v8).toNatClampNeg (M7.1 S 13)) fun (M11 : KM) =>
          (f_X9_takeSemicolon n 5 M11).bind fun (v12 : (Int32 × KM)) =>
          some (v12.1, v12.2)
          else none
          else none
    ) : Int32 → KM → Option (Int32 × KM)) fun j44 =>
    if x4 = (-1 : Int32) then
      j44 (-1 : Int32) M5
    else
      (f_X9_takePlace n 5 S M5).bind fun (v16 : (Int32 × KM)) =>
      j44 v16.1 v16.2
  ) : Int32 → KM → Option (Int32 × KM)) fun j29 =>
  if v3.1 = (-1 : Int32) then
    j29 (-1 : Int32) v3.2
  else
    (f_X9_takePlace n 5 S v3.2).bind fun (v18 : (Int32 × KM)) =>
    j29 v18.1 v18.2) = some (r, M') → f_X3_readKnows n 5 S M = some (r, M') := fun r M' hr => by
    unfold f_X3_readKnows f_X9_skip
    rw [lt, show f_X9_advance n 5 (uI M 5 13 (1 : Int32)) = _ from e1, Option.bind_some, Option.bind_some]
    exact hr
  have N1 := LB_NA L1
  show PcR T E S s n M X _ ((f_X12_readTold n 227 (zI 4) (zI 1) (uI X0 227 26 (zI 1))).bind _)
  rw [hX1]
  rcases j_person (n := n) (B := 4) (Or.inl rfl) hE g1 (by omega) N1 hn with ⟨M2, X2, p, px, py, p1, p2, p3, s2, k2, j2, v2, g2, l2, t2, fm2, fx2⟩ | ⟨M2, X2, p1, p2, p3⟩
  · rw [m_readTold1 g1.2.2.1 p2 p3, Option.bind_some]
    have N2 := NA_C (k := 4) (by omega) (Or.inl rfl) (by omega) fm2 fx2 N1
    show PcR T E S s n M X _ ((f_X12_readTold n 227 (zI 4) (zI 0) X2).bind _)
    rcases j_place (n := n) (B := 4) (Or.inl rfl) hE g2 (by omega) N2 hn with ⟨M3, X3, x, xx, xy, q1, q2, q3, s3, k3, j3, v3, g3, l3, t3, fm3, fx3⟩ | ⟨M3, X3, q1, q2, q3⟩
    · rw [m_readTold1 g2.2.2.1 q2 q3, Option.bind_some]
      have fm3' := FC_t fm2 fm3
      have fx3' := GC_t fx2 fx3
      have N3 := NA_C (k := 4) (by omega) (Or.inl rfl) (by omega) fm3 fx3 N2
      show PcR T E S s n M X _ ((f_X12_told n 227 (zI 4) (zI 0) X3).bind _)
      rcases j_place (n := n) (B := 4) (Or.inl rfl) hE g3 (by omega) N3 hn with ⟨M4, X4, y, yx, yy, r1, r2, r3, s4, k4, j4, v4, g4, l4, t4, fm4, fx4⟩ | ⟨M4, X4, r1, r2, r3⟩
      · rw [r2, Option.bind_some]
        have fm4' := FC_t fm3' fm4
        have L34 : LB S b M4 X3 := LB_C (Or.inl rfl) hS1.1 (by omega) fm4' fx3' L1
        obtain ⟨r, z0, z1, z2, z3, z4, z5⟩ := j_between (n := n) (x := x) (y := y) L34 (by omega) (by omega) (by omega) (by omega) hn
        have x03 := g3.2.2.1
        have mr : f_X12_roadBy n 227 (4 : Int32) (zI x) (zI y) X3 = some (zI r) := by
          by_cases xe : x = y
          · rw [z2 xe]; exact z5 xe
          · exact z4 xe
        show PcR T E S s n M X _ (mK n (zI p) (zI x) (zI y) X3)
        unfold mK
        rw [if_pos (by rw [x03]; rfl), mr, Option.bind_some]
        by_cases rn : r = -1
        · obtain ⟨N, Y, f1, f2, f3⟩ := fl_taken (f := 3) g3 (M' := M4) t4 (by omega) (by omega)
          have xb := BD_X f3.1
          have e3 : mKj n (zI p) (zI r) X3 = some Y := by
            unfold mKj
            rw [if_neg (by rw [rn]; decide), show f_X12_fail 227 (3 : Int32) (X3.1 227 15) X3 = Y from f2]
            exact mK3_bad xb
          rw [e3, C (zI 0) N]
          · have F := FO_t fm1 (FO_t (FC_O fm4') (FC_O f3.2.1))
            exact pc_bad f3.1 (P01_O (by omega) F hp1) (FO_M F) (GO_X (GO_t fx1 (GO_t (GC_O fx3') (GC_O f3.2.2))))
          · rw [p1, Option.bind_some, lt]
            simp only
            rw [if_neg (by rw [show (-1 : Int32) = zI (-1) from rfl, zeqF (by omega) (by omega) (by omega) (by omega) (by omega)]; exact id), q1, Option.bind_some, lt]
            simp only
            rw [if_neg (by rw [show (-1 : Int32) = zI (-1) from rfl, zeqF (by omega) (by omega) (by omega) (by omega) (by omega)]; exact id), r1, Option.bind_some]
            simp only
            rw [if_neg (by rw [show (-1 : Int32) = zI (-1) from rfl, zeqF (by omega) (by omega) (by omega) (by omega) (by omega)]; exact id), z3, Option.bind_some, if_pos (by rw [rn]; rfl), show f_X9_failTaken 5 (3 : Int32) M4 = _ from f1]
            rfl
        · have L4 : LB S b M4 X4 := LB_C (Or.inl rfl) hS1.1 (by omega) fm4' (GC_t fx3' fx4) L1
          have hS4 : Sp S M4 := ⟨by rw [fm4'.2.2]; exact hS1.1, S2⟩
          have L5 := LB_known hS4 L4 (p := p) (r := r) px py (by omega) z1
          have hd := LB_head L4
          have h13 : M4.1 S 13 = zI (b 2255) := hd.2.2.1
          have x55 : X4.1 232 2255 = zI (b 2255) := L4.1 2255
          have x04 := g4.2.2.1
          have g5 : GD T E 5 s4 k4 j4 v4 (uI M4 (S + 14 + 3 * p.toNat + 1) r.toNat (zI (b 2255))) (uI X4 232 (2378 + 12 * p + r).toNat (zI (b 2255))) :=
            GD_of (M := M4) (X := X4) (fun a i w => uI_o (by omega)) (fun _ _ _ => rfl) rfl (fun a i w => uI_o (by omega)) rfl g4
          have T5 : TO (uI M4 (S + 14 + 3 * p.toNat + 1) r.toNat (zI (b 2255))) (uI X4 232 (2378 + 12 * p + r).toNat (zI (b 2255))) :=
            TO_of (fun i w => uI_o (by omega)) (fun i w => uI_o (by omega)) (TO_C fm4' (GC_t fx3' fx4) T1)
          have F5 : FM S M (uI M4 (S + 14 + 3 * p.toNat + 1) r.toNat (zI (b 2255))) := FM_t (FO_M (FO_t fm1 (FC_O fm4'))) ⟨fun a i w q => uI_o (by omega), fun i w => uI_o (by omega), fun _ _ _ _ => rfl, rfl⟩
          have G5 : FX X (uI X4 232 (2378 + 12 * p + r).toNat (zI (b 2255))) := FX_w (by omega) (GO_X (GO_t fx1 (GC_O (GC_t fx3' fx4))))
          obtain ⟨rr, M', w1, w2, w3⟩ := pc_end hE hS g5 (s := s) (by omega) L5 T5 F5 G5 hn
          have e3 : mKj n (zI p) (zI r) X3 = some (uI X4 232 (2378 + 12 * p + r).toNat (zI (b 2255))) := by
            unfold mKj mK3
            rw [if_pos (by rw [show (0 : Int32) = zI 0 from rfl, zleT (by omega) (by omega) (by omega)]; trivial), show f_X12_must n 227 (1 : Int32) X3 = some X4 from m_must1 x03 r3, Option.bind_some, if_pos (by rw [x04]; rfl), if_pos (by decide)]
            have n55 : ((2255 : Int32)).toNatClampNeg = 2255 := by decide
            rw [n55, x55]
            simp (disch := first | omega | assumption) only [↓lt, ↓reduceIte, zl, zmul, zadd, ixT, zidx]
          rw [e3, C rr M']
          · exact w3
          · rw [p1, Option.bind_some, lt]
            simp only
            rw [if_neg (by rw [show (-1 : Int32) = zI (-1) from rfl, zeqF (by omega) (by omega) (by omega) (by omega) (by omega)]; exact id), q1, Option.bind_some, lt]
            simp only
            rw [if_neg (by rw [show (-1 : Int32) = zI (-1) from rfl, zeqF (by omega) (by omega) (by omega) (by omega) (by omega)]; exact id), r1, Option.bind_some]
            simp only
            rw [if_neg (by rw [show (-1 : Int32) = zI (-1) from rfl, zeqF (by omega) (by omega) (by omega) (by omega) (by omega)]; exact id), z3, Option.bind_some, if_neg (by rw [show (-1 : Int32) = zI (-1) from rfl, zeqF (by omega) (by omega) (by omega) (by omega) (by omega)]; exact id), h13]
            have ee : S + 6 + 8 + 3 * p.toNat + 1 = S + 14 + 3 * p.toNat + 1 := by omega
            simp (disch := first | omega | assumption) only [↓lt, ↓reduceIte, zl, ixT, zidx, ee, w1, Option.bind_some]
      · rw [r2, Option.bind_some, C (zI 0) M4]
        · exact bad M4 X4 _ _ _ (FC_t fm3' r3.2.1) (GC_t fx3' r3.2.2) r3.1
        · rw [p1, Option.bind_some, lt]
          simp only
          rw [if_neg (by rw [show (-1 : Int32) = zI (-1) from rfl, zeqF (by omega) (by omega) (by omega) (by omega) (by omega)]; exact id), q1, Option.bind_some, lt]
          simp only
          rw [if_neg (by rw [show (-1 : Int32) = zI (-1) from rfl, zeqF (by omega) (by omega) (by omega) (by omega) (by omega)]; exact id), r1, Option.bind_some]
          simp only
          rw [if_pos (by decide)]
          rfl
    · have xb := BD_X q3.1
      rw [m_readTold0 q2 xb, Option.bind_some]
      show PcR T E S s n M X _ ((f_X12_told n 227 (zI 4) (zI 0) X3).bind _)
      rw [xb_told xb, Option.bind_some, C (zI 0) M3]
      · exact bad M3 X3 _ _ _ (FC_t fm2 q3.2.1) (GC_t fx2 q3.2.2) q3.1
      · rw [p1, Option.bind_some, lt]
        simp only
        rw [if_neg (by rw [show (-1 : Int32) = zI (-1) from rfl, zeqF (by omega) (by omega) (by omega) (by omega) (by omega)]; exact id), q1, Option.bind_some, lt]
        simp only
        rw [if_pos (by decide), if_pos (by decide)]
        rfl
  · have xb := BD_X p3.1
    rw [m_readTold0 p2 xb, Option.bind_some]
    show PcR T E S s n M X _ ((f_X12_readTold n 227 (zI 4) (zI 0) X2).bind _)
    rw [xb_readTold xb, Option.bind_some]
    show PcR T E S s n M X _ ((f_X12_told n 227 (zI 4) (zI 0) X2).bind _)
    rw [xb_told xb, Option.bind_some, C (zI 0) M2]
    · exact bad M2 X2 _ _ _ p3.2.1 p3.2.2 p3.1
    · rw [p1, Option.bind_some, lt]
      simp only
      rw [if_pos (by decide), lt]
      simp only
      rw [if_pos (by decide)]
      rfl
