/-! ===== land: clock, rope, habit, odds ===== -/
theorem j_told {T : Int → Int} {E s k j v : Int} {M X : KM} {n S i : Nat} {b : Int → Int} {t u : Int} {g : KM → Option (Int32 × KM)} {wh lo hi : Int} (hE : 0 ≤ E ∧ E ≤ 900) (hS : Sp S M) (h : GD T E 5 s k j v M X) (hL : LB S b M X) (hi5 : i < 5) (hj : j = ki i) (t0 : 0 ≤ t) (t1 : t < 32) (hu : j = 4 → u = 0) (u0 : 0 ≤ u ∧ u ≤ 1) (h12 : M.1 5 12 = zI (cw t)) (h25 : X.1 227 25 = zI t) (h13 : M.1 5 13 = zI u) (h26 : X.1 227 26 = zI u)
    (hw : 0 ≤ lo ∧ lo ≤ hi ∧ ((wh = 5 ∧ hi ≤ 1439) ∨ (wh = 6 ∧ 1 ≤ lo ∧ hi ≤ 9) ∨ (wh = 7 ∧ 1 ≤ lo ∧ hi ≤ 9) ∨ (wh = 8 ∧ hi ≤ 16)))
    (hg : ∀ M, g M = (f_X9_takeNumber n 5 (zI lo) (zI hi) M).bind fun (v1 : (Int32 × KM)) =>
      lt (uI v1.2 S (wh.toNat + 6) v1.1) fun (M2 : KM) =>
      if (M2.1 S (wh.toNat + 6)) = (-1 : Int32) then
        some ((0 : Int32), M2)
      else
        (f_X9_takeSemicolon n 5 M2).bind fun (v3 : (Int32 × KM)) =>
        if v3.1 = 0 then
          some ((0 : Int32), v3.2)
        else
          some ((1 : Int32), v3.2)) (hn : 1000 < n) : PcR T E S s n M X (sq (f_X3_startOnce n 5) g M) (f_X12_readOnce n 227 (zI i) (zI wh) (zI lo) (zI hi) X) := by
  have S2 := hS.2
  have hp1 : P01 M S := hL.2.2.2.2.1
  rcases j_once hE h hi5 hj t0 t1 hu u0 h12 h25 h13 h26 hn with ⟨M1, X1, e1, e2, ⟨s1, k1, j1, v1, g1, l1⟩, T1, fm1, fx1⟩ | ⟨M1, X1, e1, e2, e3⟩
  · have L1 := LB_O hS.1 (by omega) fm1 fx1 hL
    have hP1 : Sp S M1 := ⟨by rw [fm1.2.2.2]; exact hS.1, S2⟩
    rcases j_num (lo := lo) (hi := hi) (Or.inl rfl) hE g1 (by omega) (by omega) (by omega) (by omega) hn with ⟨M4, X4, x, c1, m1, x0, x1, s4, k4, j4, v4, g4, l4, -, fm2, fx2⟩ | ⟨M2, X2, c1, m1, b1⟩
    · have L4 := LB_C (Or.inl rfl) hP1.1 (by omega) fm2 fx2 L1
      have T4 := TO_C fm2 fx2 T1
      have fo := FO_t fm1 (FC_O fm2)
      have go := GO_t fx1 (GC_O fx2)
      have hP4 : Sp S M4 := ⟨by rw [fo.2.2.2]; exact hS.1, S2⟩
      have hd := LB_head L4
      have hr := row_bu (e := 2248 + wh) (v := x) (by omega) L4.1
      have g5 : GD T E 5 s4 k4 j4 v4 (uI M4 S (wh.toNat + 6) (zI x)) (uI X4 232 (2248 + wh).toNat (zI x)) := 
        GD_of (M := M4) (X := X4) (fun c i w => uI_o (by omega)) (fun _ _ _ => rfl) rfl (fun c i w => uI_o (by omega)) rfl g4
      have L5 : LB S (bu b (2248 + wh) x) (uI M4 S (wh.toNat + 6) (zI x)) (uI X4 232 (2248 + wh).toNat (zI x)) := by
        refine LB_hd hP4 L4 hr (fun z a c => bu_o (by omega)) ?_ (bu_o (by omega)) (bu_o (by omega)) (bu_o (by omega)) (bu_o (by omega)) (fun a k p q r1 r2 => uI_o (by omega)) (fun k p => uI_o (by omega)) ?_ ?_ ?_ ?_ ?_ ?_ ?_ (fun _ _ _ _ => rfl) rfl (fun _ => rfl)
        · have w5 : wh = 5 ∨ wh = 6 ∨ wh = 7 ∨ wh = 8 := by omega
          refine CB_h L4.2.1 (fun z a c => ?_) ?_ ?_ ?_ ?_
          · rw [sh_at (by omega) (by omega), sh_at (by omega) (by omega), bu_o (by omega)]
          · rw [sh_at (by omega) (by omega), sh_at (by omega) (by omega), bu_o (by omega)]
          · rw [sh_at (by omega) (by omega), sh_at (by omega) (by omega), bu_o (by omega)]
          · rw [sh_at (by omega) (by omega), sh_at (by omega) (by omega), bu_o (by omega)]
          · rcases w5 with w5 | w5 | w5 | w5
            · subst w5
              simp (disch := omega) only [sh_at, bu_s, bu_o, Int.reduceAdd]
              omega
            · subst w5
              simp (disch := omega) only [sh_at, bu_s, bu_o, Int.reduceAdd]
              omega
            · subst w5
              simp (disch := omega) only [sh_at, bu_s, bu_o, Int.reduceAdd]
              omega
            · subst w5
              simp (disch := omega) only [sh_at, bu_s, bu_o, Int.reduceAdd]
              omega
        · by_cases q : wh = 5
          · subst q; exact uI_s
          · rw [uI_o (by omega), bu_o (by omega)]; exact hd.1
        · by_cases q : wh = 6
          · subst q; exact uI_s
          · rw [uI_o (by omega), bu_o (by omega)]; exact hd.2.1
        · by_cases q : wh = 7
          · subst q; exact uI_s
          · rw [uI_o (by omega), bu_o (by omega)]; exact hd.2.2.1
        · by_cases q : wh = 8
          · subst q; exact uI_s
          · rw [uI_o (by omega), bu_o (by omega)]; exact hd.2.2.2.1
        · rw [uI_o (by omega), bu_o (by omega)]; exact hd.2.2.2.2.1
        · rw [uI_o (by omega), bu_o (by omega)]; exact hd.2.2.2.2.2.1
        · rw [uI_o (by omega), bu_o (by omega), bu_o (by omega)]; exact hd.2.2.2.2.2.2.1
      have T5 : TO (uI M4 S (wh.toNat + 6) (zI x)) (uI X4 232 (2248 + wh).toNat (zI x)) := by
        obtain ⟨t, u, a1, a2, a3, a4, a5, a6, a7, a8⟩ := T4
        refine ⟨t, u, a1, a2, a3, a4, ?_, ?_, ?_, ?_⟩
        · rw [uI_o (by omega)]; exact a5
        · rw [uI_o (by omega)]; exact a6
        · rw [uI_o (by omega)]; exact a7
        · rw [uI_o (by omega)]; exact a8
      have FM5 : FM S M (uI M4 S (wh.toNat + 6) (zI x)) :=
        FM_t (FO_M fo) ⟨fun c i w p => uI_o (by omega), fun i w => uI_o (by omega), fun _ _ _ _ => rfl, rfl⟩
      obtain ⟨r, M', p1, p2, p3⟩ := pc_end hE hS g5 (s := s) (by omega) L5 T5 FM5 (FX_w (by omega) (GO_X go)) hn
      have cl : sq (f_X3_startOnce n 5) g M = some (r, M') := by
        refine sq_1 e1 ?_ p2
        rw [hg, c1]
        simp only [Option.bind_some, lt]
        rw [uI_s, if_neg (by rw [show (-1 : Int32) = zI (-1) from rfl, zeqF (by omega) (by omega) (by omega) (by omega) (by omega)]; exact id), p1]
        simp only [Option.bind_some]
        rcases p2 with p2 | p2
        · rw [p2, if_neg (by decide)]; rfl
        · rw [p2, if_pos (by decide)]; rfl
      have mo : f_X12_readOnce n 227 (zI i) (zI wh) (zI lo) (zI hi) X = some (uI X4 232 (2248 + wh).toNat (zI x)) := by
        unfold f_X12_readOnce
        rw [e2]
        simp (disch := first | omega | assumption) only [↓lt, ↓reduceIte, zl, Option.bind_some, zeqF, if_false, m1, zadd, ixT, zidx, if_true]
      rw [cl, mo]
      exact p3
    · have cl : sq (f_X3_startOnce n 5) g M = some (zI 0, uI M2 S (wh.toNat + 6) (zI (-1))) := by
        refine sq_1 e1 ?_ (Or.inr rfl)
        rw [hg, c1]
        simp only [Option.bind_some, lt]
        rw [uI_s, if_pos (by decide)]
        rfl
      have mo : f_X12_readOnce n 227 (zI i) (zI wh) (zI lo) (zI hi) X = some (uI X2 232 (2248 + wh).toNat (zI 0)) := by
        unfold f_X12_readOnce
        rw [e2]
        simp (disch := first | omega | assumption) only [↓lt, ↓reduceIte, zl, Option.bind_some, zeqF, if_false, m1, zadd, ixT, zidx, if_true]
      rw [cl, mo]
      have fo := FO_t fm1 (FC_O b1.2.1)
      have go := GO_t fx1 (GC_O b1.2.2)
      refine pc_bad (BD_of (M := M2) (X := X2) (uI_o (by omega)) (uI_o (by omega)) (uI_o (by omega)) (uI_o (by omega)) b1.1) ?_ ?_ (FX_w (by omega) (GO_X go))
      · exact P01_of (M := M2) (fun a k p q => uI_o (by omega)) (P01_O (by omega) fo hp1)
      · exact FM_t (FO_M fo) ⟨fun c i w p => uI_o (by omega), fun i w => uI_o (by omega), fun _ _ _ _ => rfl, rfl⟩
  · have mo : f_X12_readOnce n 227 (zI i) (zI wh) (zI lo) (zI hi) X = some X1 := by
      unfold f_X12_readOnce
      rw [e2]
      simp (disch := first | omega | assumption) only [↓lt, ↓reduceIte, zl, Option.bind_some, zeqT, if_true]
    rw [sq_0 e1, mo]
    exact pc_bad e3.1 (P01_C (Or.inl rfl) (by omega) e3.2.1 hp1) (FC_M e3.2.1) (GC_X e3.2.2)
theorem j_clock {T : Int → Int} {E s k v : Int} {M X : KM} {n S : Nat} {b : Int → Int} (hE : 0 ≤ E ∧ E ≤ 900) (hS : Sp S M) (h : GD T E 5 s k 2 v M X) (hL : LB S b M X) (hT : TO M X) (hn : 1000 < n) : PcR T E S s n M X (sq (f_X3_startOnce n 5) (f_X3_readClock n 5 S) M) (f_X12_readOnce n 227 (zI 1) (zI 5) (zI 0) (zI 1439) X) := by
  obtain ⟨t, u, t0, t1, u0, u1, h12, h25, h13, h26⟩ := hT
  exact j_told (i := 1) hE hS h hL (by omega) (by decide) t0 t1 (by omega) ⟨u0, u1⟩ h12 h25 h13 h26 (by omega) (fun _ => rfl) hn
theorem j_rope {T : Int → Int} {E s k v : Int} {M X : KM} {n S : Nat} {b : Int → Int} (hE : 0 ≤ E ∧ E ≤ 900) (hS : Sp S M) (h : GD T E 5 s k 3 v M X) (hL : LB S b M X) (hT : TO M X) (hn : 1000 < n) : PcR T E S s n M X (sq (f_X3_startOnce n 5) (f_X3_readRope n 5 S) M) (f_X12_readOnce n 227 (zI 2) (zI 6) (zI 1) (zI 9) X) := by
  obtain ⟨t, u, t0, t1, u0, u1, h12, h25, h13, h26⟩ := hT
  exact j_told (i := 2) hE hS h hL (by omega) (by decide) t0 t1 (by omega) ⟨u0, u1⟩ h12 h25 h13 h26 (by omega) (fun _ => rfl) hn
theorem j_odds {T : Int → Int} {E s k v : Int} {M X : KM} {n S : Nat} {b : Int → Int} (hE : 0 ≤ E ∧ E ≤ 900) (hS : Sp S M) (h : GD T E 5 s k 5 v M X) (hL : LB S b M X) (hT : TO M X) (hn : 1000 < n) : PcR T E S s n M X (sq (f_X3_startOnce n 5) (f_X3_readOdds n 5 S) M) (f_X12_readOnce n 227 (zI 4) (zI 8) (zI 0) (zI 16) X) := by
  obtain ⟨t, u, t0, t1, u0, u1, h12, h25, h13, h26⟩ := hT
  exact j_told (i := 4) hE hS h hL (by omega) (by decide) t0 t1 (by omega) ⟨u0, u1⟩ h12 h25 h13 h26 (by omega) (fun _ => rfl) hn
theorem j_habit {T : Int → Int} {E s k v : Int} {M X : KM} {n S : Nat} {b : Int → Int} (hE : 0 ≤ E ∧ E ≤ 900) (hS : Sp S M) (h : GD T E 5 s k 4 v M X) (hL : LB S b M X) (hT : TO M X) (hn : 1000 < n) : PcR T E S s n M X (sq (f_X3_startOnce n 5) (f_X3_readHabit n 5 S) M) (f_X12_readHabit n 227 X) := by
  obtain ⟨t, u, t0, t1, u0, u1, h12, h25, h13, h26⟩ := hT
  have S2 := hS.2
  by_cases q : u = 0
  · have e : f_X12_readHabit n 227 X = f_X12_readOnce n 227 (zI 3) (zI 7) (zI 1) (zI 9) X := by
      unfold f_X12_readHabit
      subst q
      simp (disch := first | omega | assumption) only [↓lt, ↓reduceIte, zl, h26, zeqT, if_true, bsome]
    rw [e]
    exact j_told (i := 3) hE hS h hL (by omega) (by decide) t0 t1 (fun _ => q) ⟨u0, u1⟩ h12 h25 h13 h26 (by omega) (fun _ => rfl) hn
  · have u' : u = 1 := by omega
    subst u'
    obtain ⟨M', X', f1, f2, f3⟩ := fl_fail (f := 5) h (by omega) (by omega)
    have s7 := (SG_s h.2.1).2.2.2.2.1
    have cl : sq (f_X3_startOnce n 5) (f_X3_readHabit n 5 S) M = some (zI 0, M') := by
      refine sq_0 ?_
      unfold f_X3_startOnce
      simp (disch := first | omega | assumption) only [↓lt, ↓reduceIte, zl, s7, h13, f1, zeqT, zeqF, if_true, if_false, ite_self]
    have mo : f_X12_readHabit n 227 X = some X' := by
      unfold f_X12_readHabit f_X12_readOnce
      have xb := xb_isOnce (i := zI 3) (n := n) (BD_X f3.1)
      simp (disch := first | omega | assumption) only [↓lt, ↓reduceIte, zl, h26, zeqF, zeqT, if_true, if_false, f2, xb, Option.bind_some]
    rw [cl, mo]
    exact pc_bad f3.1 (P01_C (Or.inl rfl) (by omega) f3.2.1 hL.2.2.2.2.1) (FC_M f3.2.1) (GC_X f3.2.2)
