/-! ===== land: one of the people, both ===== -/
def mP2 (n : Nat) (l p q : Int32) (v5 : KM) : Option KM :=
  if ix ((2306 : Int32) + p) 2810 then
    lt (uI v5 232 (((2306 : Int32) + p)).toNatClampNeg q) fun (M7 : KM) =>
    lt (fun (M8 : KM) => (
      if (M8.1 227 12) = 0 then
        if ix (2250 : Int32) 2810 then
        if ix (2250 : Int32) 2810 then
        lt (uI M8 232 ((2250 : Int32)).toNatClampNeg ((M8.1 232 ((2250 : Int32)).toNatClampNeg) + (1 : Int32))) fun (M11 : KM) =>
        some M11
        else none
        else none
      else
        some M8
    ) : KM → Option KM) fun j78 =>
    if l = 0 then
      lt (f_X12_isGlasses 227 M7) fun (v13 : Int32) =>
      (f_X12_perhaps n 227 v13 M7).bind fun (v14 : (Int32 × KM)) =>
      if v14.1 = 0 then
        j78 v14.2
      else
        if ix ((2346 : Int32) + p) 2810 then
        lt (uI v14.2 232 (((2346 : Int32) + p)).toNatClampNeg (1 : Int32)) fun (M16 : KM) =>
        j78 M16
        else none
    else
      if ix ((2354 : Int32) + p) 2810 then
      lt (uI M7 232 (((2354 : Int32) + p)).toNatClampNeg (1 : Int32)) fun (M19 : KM) =>
      j78 M19
      else none
    else none
def mP (n : Nat) (l p : Int32) (v4 : KM) : Option KM :=
  (f_X12_readTold n 227 (4 : Int32) (0 : Int32) v4).bind fun (v5 : (Int32 × KM)) => mP2 n l p v5.1 v5.2
theorem m_readPerson_eq {n : Nat} {l : Int32} {X : KM} : f_X12_readPerson n 227 l X = (f_X12_readNew n 227 (1 : Int32) X).bind fun (v1 : (Int32 × KM)) => if f_X12_testWord 227 v1.2 = 0 then (f_X12_must n 227 (1 : Int32) v1.2).bind (mP n l v1.1) else (f_X12_must n 227 (0 : Int32) v1.2).bind (mP n l v1.1) := rfl
theorem mP2_bad {n : Nat} {l p : Int} {q : Int32} {Y : KM} (p0 : 0 ≤ p) (p1 : p < 8) (l0 : l = 0 ∨ l = 1) (h : XB Y) : ∃ Y', mP2 n (zI l) (zI p) q Y = some Y' ∧ FX Y Y' ∧ Y'.1 227 12 = Y.1 227 12 ∧ Y'.1 227 13 = Y.1 227 13 := by
  have xw : ∀ Z k v, XB Z → XB (uI Z 232 k v) := fun Z k v hz => by
    obtain ⟨f, f1, f2, f3⟩ := hz
    exact ⟨f, f1, f2, by rw [uI_o (by omega)]; exact f3⟩
  have h1 := xw _ (2306 + p).toNat q h
  have e2 := fun p => xb_perhaps (p := p) (n := n) h1
  obtain ⟨f, f1, f2, f3⟩ := h1
  have f4 : (uI (uI Y 232 (2306 + p).toNat q) 232 (2354 + p).toNat (zI 1)).1 227 12 = zI f := by rw [uI_o (by omega)]; exact f3
  have F0 : FX Y Y := ⟨fun _ _ _ _ => rfl, fun _ _ _ _ => rfl, rfl⟩
  rcases l0 with l0 | l0
  · subst l0
    refine ⟨uI Y 232 (2306 + p).toNat q, ?_, FX_w (by omega) F0, uI_o (by omega), uI_o (by omega)⟩
    unfold mP2
    simp (disch := first | omega | assumption) only [↓lt, ↓reduceIte, zl, zadd, ixT, zidx, if_true, e2, Option.bind_some, zeqT, f3, zeqF, if_false]
  · subst l0
    refine ⟨uI (uI Y 232 (2306 + p).toNat q) 232 (2354 + p).toNat (zI 1), ?_, FX_w (by omega) (FX_w (by omega) F0), by rw [uI_o (by omega), uI_o (by omega)], by rw [uI_o (by omega), uI_o (by omega)]⟩
    unfold mP2
    simp (disch := first | omega | assumption) only [↓lt, ↓reduceIte, zl, zadd, ixT, zidx, if_true, zeqF, if_false, f4]
/-- behind a fault, at any place of the part -/
theorem person_bad {T : Int → Int} {E s : Int} {n S : Nat} {M X M' Y : KM} {l p : Int} {q : Int32} (hp1 : P01 M' S) (p0 : 0 ≤ p) (p1 : p < 8) (l0 : l = 0 ∨ l = 1) (fm : FM S M M') (fx : FX X Y) (f : BD 5 M' Y) : PcR T E S s n M X (some (zI 0, M')) (mP2 n (zI l) (zI p) q Y) := by
  obtain ⟨Y', e1, e2, e3, e4⟩ := mP2_bad (n := n) (q := q) p0 p1 l0 (BD_X f)
  rw [e1]
  exact pc_bad (BD_of (M := M') (X := Y) rfl rfl e3 e4 f) hp1 fm (FX_t fx e2)
theorem person_bad1 {T : Int → Int} {E s : Int} {n S : Nat} {M X M' Y : KM} {l p : Int} (hp1 : P01 M' S) (p0 : 0 ≤ p) (p1 : p < 8) (l0 : l = 0 ∨ l = 1) (fm : FM S M M') (fx : FX X Y) (f : BD 5 M' Y) : PcR T E S s n M X (some (zI 0, M')) (mP n (zI l) (zI p) Y) := by
  unfold mP
  rw [xb_readTold (BD_X f), Option.bind_some]
  exact person_bad hp1 p0 p1 l0 fm fx f
theorem j_personPart {T : Int → Int} {E s k j v : Int} {M X : KM} {n S : Nat} {b : Int → Int} {l : Int} (l0 : l = 0 ∨ l = 1) (hE : 0 ≤ E ∧ E ≤ 900) (hS : Sp S M) (h : GD T E 5 s k j v M X) (hj : 0 ≤ j) (hL : LB S b M X) (hT : TO M X) (hn : 1000 < n) : PcR T E S s n M X (sq (fun M => f_X3_start n 5 (M.1 S 10) (8 : Int32) M) (f_X3_readPerson n 5 S (zI (1 - l))) M) (f_X12_readPerson n 227 (zI l) X) := by
  have S2 := hS.2
  have hp1 : P01 M S := hL.2.2.2.2.1
  have hN := LB_NA hL
  have hk : k = 1 := (SG_s h.2.1).2.2.2.2.2.2.2.2.2.2 hj
  have m10 : M.1 S 10 = zI (sh b 2248 2) := hL.2.2.1.2.2.1
  have hh := hL.2.1.1
  have pp := hL.2.1.2.2.2.1
  rw [m_readPerson_eq]
  rcases j_new (o := 1) (cnt := sh b 2248 2) (Or.inl rfl) hE h (by omega) (by omega) hN (Or.inr ⟨rfl, rfl⟩) hn with ⟨M', X', e1, e2, e3⟩ | ⟨M1, e1, ⟨M', X', e2, e3, e4⟩ | ⟨M2, X2, w, s2, k2, j2, v2, w0, c8, e2, e3, g2, l2, fm2, fa2, fb2, fw2, fr2⟩⟩
  · have cl : sq (fun M => f_X3_start n 5 (M.1 S 10) (8 : Int32) M) (f_X3_readPerson n 5 S (zI (1 - l))) M = some (zI 0, M') := by
      refine sq_0 ?_
      rw [m10]; exact e1
    rw [cl, show f_X12_readNew n 227 (1 : Int32) X = _ from e2, Option.bind_some]
    have q := person_bad1 (T := T) (E := E) (s := s) (n := n) (p := 0) (P01_C (Or.inl rfl) (by omega) e3.2.1 hp1) (by omega) (by omega) l0 (FC_M e3.2.1) (GC_X e3.2.2) e3.1
    simp only [xb_must (BD_X e3.1), Option.bind_some, ite_self]
    exact q
  · have cl : sq (fun M => f_X3_start n 5 (M.1 S 10) (8 : Int32) M) (f_X3_readPerson n 5 S (zI (1 - l))) M = some (zI 0, M') := by
      refine sq_1 (M1 := M1) ?_ ?_ (Or.inr rfl)
      · rw [m10]; exact e1
      · unfold f_X3_readPerson
        rw [e2, Option.bind_some, if_pos (lgT (show lI 0 = (0 : Int64) from rfl))]
        rfl
    rw [cl, show f_X12_readNew n 227 (1 : Int32) X = _ from e3, Option.bind_some]
    have q := person_bad1 (T := T) (E := E) (s := s) (n := n) (p := 0) (P01_C (Or.inl rfl) (by omega) e4.2.1 hp1) (by omega) (by omega) l0 (FC_M e4.2.1) (GC_X e4.2.2) e4.1
    simp only [xb_must (BD_X e4.1), Option.bind_some, ite_self]
    exact q
  · have L2 := LB_n hS (Or.inr ⟨rfl, rfl⟩) c8 fm2 fa2 fb2 hL
    have fx2 : FX X X2 := ⟨fun a i q p => fa2 a i (by omega), fun a i q p => fb2 a i q (by omega), fr2⟩
    have T2 : TO M2 X2 := TO_of (fun i q => fm2.1 _ _ (by omega)) (fun i q => fa2 _ _ (by omega)) hT
    have hS2 : Sp S M2 := ⟨by rw [fm2.2.2]; exact hS.1, S2⟩
    have hp2 : P01 M2 S := P01_C (Or.inl rfl) (by omega) fm2 hp1
    rw [show f_X12_readNew n 227 (1 : Int32) X = some (zI (sh b 2248 2), X2) from e3, Option.bind_some]
    have tw : (if f_X12_testWord 227 X2 = 0 then (f_X12_must n 227 (1 : Int32) X2).bind (mP n (zI l) (zI (sh b 2248 2))) else (f_X12_must n 227 (0 : Int32) X2).bind (mP n (zI l) (zI (sh b 2248 2)))) = (f_X12_must n 227 (bI (j2 = 11)) X2).bind (mP n (zI l) (zI (sh b 2248 2))) := by
      rw [m_testWord g2.2.1]
      by_cases q : j2 = 11
      · rw [if_pos (by rw [q]; decide), bIT q]; rfl
      · rw [if_neg (by
          unfold teW
          rw [if_neg q]
          by_cases y : j2 = 0
          · rw [if_pos y]; decide
          · rw [if_neg y]
            by_cases z : j2 = 22
            · rw [if_pos z]; decide
            · rw [if_neg z]; decide), bIF q]; rfl
    show PcR T E S s n M X _ (if f_X12_testWord 227 X2 = 0 then (f_X12_must n 227 (1 : Int32) X2).bind (mP n (zI l) (zI (sh b 2248 2))) else (f_X12_must n 227 (0 : Int32) X2).bind (mP n (zI l) (zI (sh b 2248 2))))
    rw [tw]
    have cl : ∀ r M', ((f_X9_takeWord n 5 (11 : Int32) M2).bind fun (v2 : (Int32 × KM)) =>
        if v2.1 = 0 then
          some ((0 : Int32), v2.2)
        else
          (f_X9_takePlace n 5 S v2.2).bind fun (v3 : (Int32 × KM)) =>
          if v3.1 = (-1 : Int32) then
            some ((0 : Int32), v3.2)
          else
            lt (fun (x4 : Int32) (M5 : KM) => (
              (f_X2_addPerson n S w (zI (1 - l)) x4 v3.1 M5).bind fun (v6 : KM) =>
              (f_X9_takeSemicolon n 5 v6).bind fun (v7 : (Int32 × KM)) =>
              some (v7.1, v7.2)
            ) : Int32 → KM → Option (Int32 × KM)) fun j59 =>
            lt (fun (M8 : KM) => (
              j59 (0 : Int32) M8
            ) : KM → Option (Int32 × KM)) fun j58 =>
            if zI (1 - l) = 0 then
              j58 v3.2
            else
              (f_X9_skipWord n 5 (12 : Int32) v3.2).bind fun (v9 : (Int32 × KM)) =>
              if v9.1 = 0 then
                j58 v9.2
              else
                j59 (1 : Int32) v9.2) = some (r, M') → r = zI 1 ∨ r = zI 0 → sq (fun M => f_X3_start n 5 (M.1 S 10) (8 : Int32) M) (f_X3_readPerson n 5 S (zI (1 - l))) M = some (r, M') := fun r M' hr hz => by
      refine sq_1 (M1 := M1) ?_ ?_ hz
      · rw [m10]; exact e1
      · unfold f_X3_readPerson
        rw [e2, Option.bind_some, if_neg (lgF (show ¬ w = (0 : Int64) from w0))]
        exact hr
    rcases j_word (i := 11) (Or.inl rfl) hE g2 (by omega) (by omega) hn with ⟨w1, M3, X3, c3, m3, s3, k3, j3, v3, g3, l3, -, fm3, fx3⟩ | ⟨w1, M3, X3, c3, m3, b3⟩
    · rw [m3, Option.bind_some]
      have L3 := LB_C (Or.inl rfl) hS2.1 (by omega) fm3 fx3 L2
      have fm3' := FC_t fm2 fm3
      have fx3' := FX_t fx2 (GC_X fx3)
      unfold mP
      show PcR T E S s n M X _ ((f_X12_readTold n 227 (zI 4) (zI 0) X3).bind _)
      rcases j_place (n := n) (B := 4) (Or.inl rfl) hE g3 (by omega) (LB_NA L3) hn with ⟨M4, X4, x, xx, xy, p1, p2, p3, s4, k4, j4, v4, g4, l4, t4, fm4, fx4⟩ | ⟨M4, X4, p1, p2, p3⟩
      · rw [m_readTold1 g3.2.2.1 p2 p3, Option.bind_some]
        have fm4' := FC_t fm3' fm4
        have fx4' := FX_t fx3' (GC_X fx4)
        have L4 := LB_C (Or.inl rfl) (by rw [fm3'.2.2]; exact hS.1) (by omega) fm4 fx4 L3
        have T4 := TO_C fm4 fx4 (TO_C fm3 fx3 T2)
        have w4 : X4.2.1 235 (72 + sh b 2248 2).toNat = w := by
          rw [fx4.2.1 _ _ (by omega), fx3.2.1 _ _ (by omega), ← fw2]; congr 1
        have hS4 : Sp S M4 := ⟨by rw [fm4'.2.2]; exact hS.1, S2⟩
        generalize hc : sh b 2248 2 = c at *
        have c0 : 0 ≤ c := by omega
        have p98 := (pp c c0 c8).2.2.2.2.2.2.2.2.2 (by omega)
        -- what remains, once glasses and sight are known
        have fin : ∀ (M6 X6 : KM) (q y : Int) (s6 k6 j6 v6 : Int) (b6 : Int → Int), q = 0 ∨ q = 1 → y = 0 ∨ y = 1 → GD T E 5 s6 k6 j6 v6 M6 X6 → s4 ≤ s6 → FC 5 M4 M6 → (∀ k : Nat, X6.1 232 k = zI (b6 k)) → (∀ z, 2248 ≤ z → z < 2810 → ¬ z = 2306 + c → ¬ z = 2346 + c → ¬ z = 2354 + c → b6 z = b z) → b6 (2306 + c) = x → b6 (2346 + c) = q → b6 (2354 + c) = y → (∀ a i, ¬ (a = 227 ∧ 12 ≤ i ∧ i ≤ 18) → ¬ (a = 232 ∧ 2248 ≤ i) → X6.1 a i = X4.1 a i) → (∀ a i, ¬ (a = 227 ∧ i = 19) → X6.2.1 a i = X4.2.1 a i) → X6.2.2 = X4.2.2 →
            ∃ r M', ((f_X2_addPerson n S w (zI (1 - y)) (zI q) (zI x) M6).bind fun (v6 : KM) => (f_X9_takeSemicolon n 5 v6).bind fun (v7 : (Int32 × KM)) => some (v7.1, v7.2)) = some (r, M') ∧ (r = zI 1 ∨ r = zI 0) ∧ X6.1 227 12 = zI 0 ∧ X6.1 232 2250 = zI c ∧ PcR T E S s n M X (some (r, M')) (some (uI X6 232 2250 (zI (c + 1)))) := by
          intro M6 X6 q y s6 k6 j6 v6 b6 q0 y0 g6 l6 fm6 r6 o6 ox og ol fx6 fj6 fr6
          have h10 : M6.1 S 10 = zI c := by rw [fm6.1 _ _ (by omega), L4.2.2.1.2.2.1, hc]
          obtain ⟨N, n1, n2, n3, n4, n5, n6, n7⟩ := c_addPerson (n := n) (w := w) (q := 1 - y) (g := q) (x := x) h10 c0 c8 (by omega) q0 hn
          have x50 : X6.1 232 2250 = zI c := by
            have := r6 2250
            rw [show ((2250 : Nat) : Int) = 2250 from rfl, o6 2250 (by omega) (by omega) (by omega) (by omega) (by omega)] at this
            rw [this, ← hc, sh_at (by omega) (by omega)]
            rfl
          have L7 : LB S (bu b6 2250 (c + 1)) N (uI X6 232 2250 (zI (c + 1))) := by
            obtain ⟨n7, n8, n9, n10, n11, n12, n13, n14, n15, n16, n17⟩ := n7
            refine LB_person (M := M4) (X := X4) (c := c) (x := x) (g := q) (l := y) hS4 L4 hc.symm c8 (by omega) (row_bu (e := 2250) (by omega) r6) (fun z u v p1 p2 p3 p4 => ?_) bu_s ?_ ?_ ?_ (by rw [n2, fm6.2.2]) (fun a k u v p => ?_) ?_ (fun a k u v p1 p2 => ?_) n6 n7 n8 n9 n10 n11 n12 n13 n14 n15 n16 n17 (fun k u => fj6 _ _ (by omega))
            · rw [bu_o (by omega)]; exact o6 z u v p2 p3 p4
            · rw [bu_o (by omega)]; exact ox
            · rw [bu_o (by omega)]; exact og
            · rw [bu_o (by omega)]; exact ol
            · rw [n3 a k p]; exact fm6.2.1 a k (by omega)
            · rw [n4, uI_j1, fj6 _ _ (by omega)]; exact w4.symm
            · rw [n5 a k p1 p2]; exact fm6.1 a k (by omega)
          have g7 : GD T E 5 s6 k6 j6 v6 N (uI X6 232 2250 (zI (c + 1))) :=
            GD_of (M := M6) (X := X6) (fun a i w => n5 a i (by omega) (by omega)) (fun a i w => n3 a i (by omega)) (by rw [n2]) (fun a i w => uI_o (by omega)) rfl g6
          have T7 : TO N (uI X6 232 2250 (zI (c + 1))) :=
            TO_of (M := M4) (X := X4) (fun i w => by rw [n5 _ _ (by omega) (by omega), fm6.1 _ _ (by omega)]) (fun i w => by rw [uI_o (by omega), fx6 _ _ (by omega) (by omega)]) T4
          have F7 : FM S M N :=
            FM_t (FC_M (FC_t fm4' fm6)) ⟨fun a i w p => n5 a i (by omega) (by omega), fun i w => n5 5 i (by omega) (by omega), fun a i w p => n3 a i (by omega), n2⟩
          have G7 : FX X (uI X6 232 2250 (zI (c + 1))) := FX_w (by omega) (FX_t fx4' ⟨fun a i w p => fx6 a i (by omega) p, fun a i w p => fj6 a i w, fr6⟩)
          obtain ⟨r, M', p1, p2, p3⟩ := pc_end hE hS g7 (s := s) (by omega) L7 T7 F7 G7 hn
          refine ⟨r, M', ?_, p2, g6.2.2.1, x50, p3⟩
          rw [n1, Option.bind_some, p1]
          rfl
        have r5 : ∀ k : Nat, (uI X4 232 (2306 + c).toNat (zI x)).1 232 k = zI (bu b (2306 + c) x k) := row_bu (by omega) L4.1
        have g5 : GD T E 5 s4 k4 j4 v4 M4 (uI X4 232 (2306 + c).toNat (zI x)) :=
          GD_of (M := M4) (X := X4) (fun _ _ _ => rfl) (fun _ _ _ => rfl) rfl (fun a i w => uI_o (by omega)) rfl g4
        have b46 : b (2346 + c) = 0 := by
          have := p98.1
          rw [sh_at (by omega) (by omega)] at this
          rw [← this]; congr 1; omega
        have b54 : b (2354 + c) = 0 := by
          have := p98.2
          rw [sh_at (by omega) (by omega)] at this
          rw [← this]; congr 1; omega
        rcases l0 with l0 | l0
        · -- sighted
          subst l0
          have mg := m_isGlasses g5.2.1
          rcases j_skipw (i := 12) (Or.inl rfl) hE g5 (by omega) (by omega) hn with ⟨w2, M6, X6, c4, -, m4, s6, k6, j6, v6, g6, l6, -, fm6, fx6⟩ | ⟨w2, c4, m4⟩
          · have g6w : GD T E 5 s6 k6 j6 v6 M6 (uI X6 232 (2346 + c).toNat (zI 1)) :=
              GD_of (M := M6) (X := X6) (fun _ _ _ => rfl) (fun _ _ _ => rfl) rfl (fun a i w => uI_o (by omega)) rfl g6
            obtain ⟨r, M', p5, p6, p7, p8, p9⟩ := fin M6 (uI X6 232 (2346 + c).toNat (zI 1)) 1 0 s6 k6 j6 v6 (bu (bu b (2306 + c) x) (2346 + c) 1) (Or.inr rfl) (Or.inl rfl) g6w (by omega) fm6 (row_bu (by omega) (fun k => by rw [fx6.1 232 k (by omega)]; exact r5 k)) (fun z u v q1 q2 q3 => by rw [bu_o q2, bu_o q1]) (by rw [bu_o (by omega), bu_s]) bu_s (by rw [bu_o (by omega), bu_o (by omega)]; exact b54) (fun a i w p => by rw [uI_o (by omega), fx6.1 a i w, uI_o (by omega)]) (fun a i w => by rw [uI_j1, fx6.2.1 a i w, uI_j1]) (by rw [uI_j2, fx6.2.2, uI_j2])
            have m4' : f_X12_perhaps n 227 (f_X12_isGlasses 227 (uI X4 232 (2306 + c).toNat (zI x))) (uI X4 232 (2306 + c).toNat (zI x)) = some (zI 1, X6) := by rw [mg]; exact m4
            have e4 : mP2 n (zI 0) (zI c) (zI x) X4 = some (uI (uI X6 232 (2346 + c).toNat (zI 1)) 232 2250 (zI (c + 1))) := by
              unfold mP2
              simp (disch := first | omega | assumption) only [↓lt, ↓reduceIte, zl, zadd, ixT, zidx, zeqT]
              rw [m4']
              simp (disch := first | omega | assumption) only [↓lt, ↓reduceIte, zl, zadd, ixT, zidx, Option.bind_some, zeqT, zeqF, if_true, if_false, p7]
              rw [show (2250 : Int).toNat = 2250 from rfl, p8, zadd]
            rw [show mP2 n (zI 0) (zI c) (zI x, X4).1 (zI x, X4).2 = _ from e4, cl r M' ?_ p6]
            · exact p9
            · rw [show f_X9_takeWord n 5 (11 : Int32) M2 = _ from c3]
              simp (disch := first | omega | assumption) only [↓lt, ↓reduceIte, zl, zneg, Int.reduceNeg, Int.reduceSub, Option.bind_some, zeqF, if_false, p1, c4]
              exact p5
          · obtain ⟨r, M', p5, p6, p7, p8, p9⟩ := fin M4 (uI X4 232 (2306 + c).toNat (zI x)) 0 0 s4 k4 j4 v4 (bu b (2306 + c) x) (Or.inl rfl) (Or.inl rfl) g5 (by omega) FC_r r5 (fun z u v q1 q2 q3 => by rw [bu_o q1]) bu_s (by rw [bu_o (by omega)]; exact b46) (by rw [bu_o (by omega)]; exact b54) (fun a i w p => uI_o (by omega)) (fun a i w => rfl) rfl
            have m4' : f_X12_perhaps n 227 (f_X12_isGlasses 227 (uI X4 232 (2306 + c).toNat (zI x))) (uI X4 232 (2306 + c).toNat (zI x)) = some (zI 0, uI X4 232 (2306 + c).toNat (zI x)) := by rw [mg]; exact m4
            have e4 : mP2 n (zI 0) (zI c) (zI x) X4 = some (uI (uI X4 232 (2306 + c).toNat (zI x)) 232 2250 (zI (c + 1))) := by
              unfold mP2
              simp (disch := first | omega | assumption) only [↓lt, ↓reduceIte, zl, zadd, ixT, zidx, zeqT]
              rw [m4']
              simp (disch := first | omega | assumption) only [↓lt, ↓reduceIte, zl, zadd, ixT, zidx, Option.bind_some, zeqT, zeqF, if_true, if_false, p7]
              rw [show (2250 : Int).toNat = 2250 from rfl, p8, zadd]
            rw [show mP2 n (zI 0) (zI c) (zI x, X4).1 (zI x, X4).2 = _ from e4, cl r M' ?_ p6]
            · exact p9
            · rw [show f_X9_takeWord n 5 (11 : Int32) M2 = _ from c3]
              simp (disch := first | omega | assumption) only [↓lt, ↓reduceIte, zl, zneg, Int.reduceNeg, Int.reduceSub, Option.bind_some, zeqF, zeqT, if_true, if_false, p1, c4]
              exact p5
        · -- blind
          subst l0
          have g6 : GD T E 5 s4 k4 j4 v4 M4 (uI (uI X4 232 (2306 + c).toNat (zI x)) 232 (2354 + c).toNat (zI 1)) :=
            GD_of (M := M4) (X := X4) (fun _ _ _ => rfl) (fun _ _ _ => rfl) rfl (fun a i w => by rw [uI_o (by omega), uI_o (by omega)]) rfl g4
          obtain ⟨r, M', p5, p6, p7, p8, p9⟩ := fin M4 (uI (uI X4 232 (2306 + c).toNat (zI x)) 232 (2354 + c).toNat (zI 1)) 0 1 s4 k4 j4 v4 (bu (bu b (2306 + c) x) (2354 + c) 1) (Or.inl rfl) (Or.inr rfl) g6 (by omega) FC_r (row_bu (by omega) r5) (fun z u v q1 q2 q3 => by rw [bu_o q3, bu_o q1]) (by rw [bu_o (by omega), bu_s]) (by rw [bu_o (by omega), bu_o (by omega)]; exact b46) bu_s (fun a i w p => by rw [uI_o (by omega), uI_o (by omega)]) (fun a i w => rfl) rfl
          have e4 : mP2 n (zI 1) (zI c) (zI x) X4 = some (uI (uI (uI X4 232 (2306 + c).toNat (zI x)) 232 (2354 + c).toNat (zI 1)) 232 2250 (zI (c + 1))) := by
            unfold mP2
            simp (disch := first | omega | assumption) only [↓lt, ↓reduceIte, zl, zadd, ixT, zidx, zeqF, zeqT, p7]
            rw [show (2250 : Int).toNat = 2250 from rfl, p8, zadd]
          rw [show mP2 n (zI 1) (zI c) (zI x, X4).1 (zI x, X4).2 = _ from e4, cl r M' ?_ p6]
          · exact p9
          · rw [show f_X9_takeWord n 5 (11 : Int32) M2 = _ from c3]
            simp (disch := first | omega | assumption) only [↓lt, ↓reduceIte, zl, zneg, Int.reduceNeg, Int.reduceSub, Option.bind_some, zeqF, zeqT, if_true, if_false, p1]
            exact p5
      · have xb := BD_X p3.1
        rw [m_readTold0 p2 xb, Option.bind_some, cl (zI 0) M4 ?_ (Or.inr rfl)]
        · have fm4' := FC_t fm3' p3.2.1
          exact person_bad (P01_C (Or.inl rfl) (by omega) fm4' hp1) (by omega) c8 l0 (FC_M fm4') (FX_t fx3' (GC_X p3.2.2)) p3.1
        · rw [show f_X9_takeWord n 5 (11 : Int32) M2 = _ from c3]
          simp (disch := first | omega | assumption) only [↓lt, ↓reduceIte, zl, zneg, Int.reduceNeg, Int.reduceSub, Option.bind_some, zeqF, zeqT, if_true, if_false, p1]
    · rw [m3, Option.bind_some, cl (zI 0) M3 ?_ (Or.inr rfl)]
      · have fm3' := FC_t fm2 b3.2.1
        exact person_bad1 (P01_C (Or.inl rfl) (by omega) fm3' hp1) (by omega) c8 l0 (FC_M fm3') (FX_t fx2 (GC_X b3.2.2)) b3.1
      · rw [show f_X9_takeWord n 5 (11 : Int32) M2 = _ from c3]
        simp (disch := first | omega | assumption) only [↓lt, ↓reduceIte, zl, zneg, Int.reduceNeg, Option.bind_some, zeqT, if_true]
