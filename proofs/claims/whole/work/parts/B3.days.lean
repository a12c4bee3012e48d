/-! ===== days: loop, go, lead ===== -/
theorem c_startBlock {M M1 : KM} {P n : Nat} {d e j : Int} (hP : 11 < P) (h6 : M.1 P 6 = zI e) (h5 : M.1 P 5 = zI j) (h13 : M.1 8 13 = zI d) (e0 : 0 ≤ e) (e30 : e < 30) (d0 : 0 ≤ d) (d3 : d < 3) (ha : f_X9_advance n 8 M = some M1) (fm : FC 8 M M1) : f_X0_startBlock n 8 P M = some (zI 1, uI (uI M1 11 d.toNat (zI j)) 8 13 (zI (d + 1))) := by
  have st := c_dstart (n := n) h6 e0 e30 ha
  have a13 : M1.1 8 13 = zI d := by rw [fm.1 _ _ (by omega)]; exact h13
  have a5 : M1.1 P 5 = zI j := by rw [fm.1 _ _ (by omega)]; exact h5
  have b13 : (uI M1 11 d.toNat (zI j)).1 8 13 = zI d := by rw [uI_o (by omega)]; exact a13
  unfold f_X0_startBlock
  simp (disch := first | omega | assumption) only [↓lt, ↓reduceIte, zl, h6, h13, zleF, zltT, st, Option.bind_some, zeqF, if_false, a13, a5, b13, ixT, zidx, if_true, zadd]
/-- a block opened: nothing else touched -/
theorem ob_F {M1 : KM} {P : Nat} {d j : Int} (hP : 11 < P) (d0 : 0 ≤ d) : FD P j d M1 (uI (uI M1 11 d.toNat (zI j)) 8 13 (zI (d + 1))) := ⟨fun c i w1 w2 w3 => by rw [uI_o (by omega), uI_o (by omega)], fun c i w1 w2 w3 => by rw [uI_o (by omega), uI_o (by omega)], fun i w => by rw [uI_o (by omega), uI_o (by omega)], fun i w1 w2 => by rw [uI_o (by omega), uI_o (by omega)], fun _ _ _ => rfl, rfl⟩
theorem hd_loop {T : Int → Int} {E s k jj v : Int} {M X : KM} {P L n m : Nat} {d e j : Int} {b : Int → Int} (hE : 0 ≤ E ∧ E ≤ 900) (hP : 11 < P) (hL : 23 ≤ L) (hPL : P + 6 ≤ L ∨ L + 8 ≤ P) (g : GD T E 8 s k jj v M X) (hk : ¬ k = 0) (hD : DS P L d e j b M X) (he : e < 30) (hd : d < 3) (hn : 1000 < n) (hm : 1000 < m) :
    HR T E P L d e j b s M X 1 (sq (f_X0_startBlock n 8 P) (f_X0_readNumberStep n 8 P (zI 9) (zI 99)) M) (sgB m (zI 7) X) := by
  have hD2 := hD
  obtain ⟨d1, d2, d3, d4, d5, d6, d7, d8, d9, d10, d11, d12⟩ := hD2
  obtain ⟨M0, X1, s1, k1, j1, v1, e1, g0, l1, fm0, fx1, r1, t1, n0, mo⟩ := head0 (q := 7) hE hP hL g hk hD he hn hm
  have cs1 := c_startBlock hP d3 d5 d2 d8 he d6 hd e1 fm0
  have g1 : GD T E 8 s1 k1 j1 v1 (uI (uI M0 11 d.toNat (zI j)) 8 13 (zI (d + 1))) X1 := GD_of (M := M0) (X := X1) (fun c i w => by rw [uI_o (by omega), uI_o (by omega)]) (fun _ _ _ => rfl) rfl (fun _ _ _ => rfl) rfl g0
  have n1 : NA L 0 (b 0) (b 2) (uI (uI M0 11 d.toNat (zI j)) 8 13 (zI (d + 1))) X1 := NA_of (M := M0) (X := X1) (by omega) (fun i => by rw [uI_o (by omega), uI_o (by omega)]) (fun _ _ _ _ => rfl) (fun _ _ _ => rfl) (fun _ => rfl) n0
  have F1 : FD P j d M (uI (uI M0 11 d.toNat (zI j)) 8 13 (zI (d + 1))) := FD_t (Int.le_refl _) (Int.le_refl _) (FC_D hP fm0) (ob_F hP d6)
  have h5 : (uI (uI M0 11 d.toNat (zI j)) 8 13 (zI (d + 1))).1 P 5 = zI j := by rw [uI_o (by omega), uI_o (by omega), fm0.1 _ _ (by omega)]; exact d5
  have h6 : (uI (uI M0 11 d.toNat (zI j)) 8 13 (zI (d + 1))).1 P 6 = zI e := by rw [uI_o (by omega), uI_o (by omega), fm0.1 _ _ (by omega)]; exact d3
  have h13 : (uI (uI M0 11 d.toNat (zI j)) 8 13 (zI (d + 1))).1 8 13 = zI (d + 1) := uI_s
  have h11 : (uI (uI M0 11 d.toNat (zI j)) 8 13 (zI (d + 1))).1 11 d.toNat = zI j := by rw [uI_o (by omega), uI_s]
  generalize (uI (uI M0 11 d.toNat (zI j)) 8 13 (zI (d + 1))) = M1 at *
  have x1 : X1.1 232 (2540 + 9 * e).toNat = zI 7 := by
    have := r1 (2540 + 9 * e).toNat
    rw [Int.toNat_of_nonneg (by omega), bu_s] at this
    exact this
  rw [mo]
  rcases j_num2 (lo := 1) (hi := 99) (Or.inr rfl) hE g1 (by omega) (by omega) (by omega) (by omega) hn hm with ⟨M2, X2, x, c1, m1, x0, x9, s2, k2, j2, v2, g2, l2, -, fm2, fx2⟩ | ⟨M2, X2, c1, m1, b1⟩
  · rw [m_restNum (by omega) (by omega) (Or.inr ⟨rfl, rfl⟩) x1 m1, Option.bind_some]
    have g3 : GD T E 8 s2 k2 j2 v2 M2 (uI X2 232 (2540 + 9 * e + 1).toNat (zI x)) := GD_of (M := M2) (X := X2) (fun _ _ _ => rfl) (fun _ _ _ => rfl) rfl (fun c i w => uI_o (by omega)) rfl g2
    obtain ⟨r, M', a1, a2, a3⟩ := hd_fin (d := d) (e := e) (j := j) (P := P) (L := L) (M := M) (X := X) (s := s) (k := 1) (q := 9) (x := x) (y := 0) (z := 0) (n := n) (m := m) (b := b) (b3 := bu (bu b (2540 + 9 * e) 7) (2540 + 9 * e + 1) x) hE hP hL hPL (by omega) (by omega) ⟨d10, by omega⟩ g3 (by omega) (row_bu (by omega) (fun i => by rw [fx2.1 _ _ (by omega)]; exact r1 i)) (fun z hz => by rw [bu_o (by omega), bu_o (by omega)]) (by rw [fm2.1 _ _ (by omega)]; exact h5) (by rw [fm2.1 _ _ (by omega)]; exact h6) (by rw [uI_o (by omega), fx2.1 _ _ (by omega)]; exact t1) (by rw [fm2.1 _ _ (by omega)]; exact h13) (NA_of (by omega) (fun i => fm2.1 _ _ (by omega)) (fun c i u w => fm2.2.1 _ _ (by omega)) (fun i u w => by rw [uI_o (by omega), fx2.1 _ _ (by omega)]) (fun i => fx2.2.1 _ _ (by omega)) n1) (fun _ => by rw [fm2.1 _ _ (by omega)]; exact h11) (FD_C hP F1 fm2) (GX_w (by omega) (GX_C fx1 fx2)) (by omega) (by omega) (fun M' f1 f2 f3 f4 => Or.inr ⟨rfl, by
      unfold PBl
      rw [dc_at (by omega), show 2248 + (292 + 9 * e) = 2540 + 9 * e by omega, dc_at (show 290 ≤ 292 + 9 * e + 1 by omega), show 2248 + (292 + 9 * e + 1) = 2540 + 9 * e + 1 by omega, bu_o (show ¬ 2540 + 9 * e = 2540 + 9 * e + 1 by omega), bu_s, bu_s]
      exact Or.inr (Or.inr (Or.inr ⟨rfl, f1, f2, x0, x9⟩))⟩) hn hm
    rw [sq_1 cs1 (c_numStep c1 (by omega) (by omega) a1 a2) a2]
    exact a3
  · rw [m_restNum (by omega) (by omega) (Or.inr ⟨rfl, rfl⟩) x1 m1, Option.bind_some]
    have h2 : BD 8 M2 (uI X2 232 (2540 + 9 * e + 1).toNat (zI 0)) := BD_w b1.1
    rw [xb_must (BD_X h2), sq_1 cs1 (c_numStep0 c1) (Or.inr rfl)]
    exact hd_bad h2 (FD_C hP F1 b1.2.1) (GX_w (by omega) (GX_C fx1 b1.2.2))
theorem m_restGo {X : KM} {n : Nat} {w : Int} (w0 : 0 ≤ w) (w1 : w + 8 < 2810) (hX : X.1 232 w.toNat = zI 1) : f_X12_readRest n 227 (zI w) X = (f_X12_readTold n 227 (zI 0) (zI 1) X).bind fun v15 => (f_X12_readTold n 227 (zI 0) (zI 0) (uI v15.2 232 (w + 1).toNat v15.1)).bind fun v5 => some (uI v5.2 232 (w + 2).toNat v5.1) := by
  unfold f_X12_readRest
  simp (disch := first | omega | assumption) only [↓lt, ↓reduceIte, zl, ixT, zidx, hX, zeqT, zeqF, zleF, zadd]
theorem nx_row {e : Int} {X X' : KM} {b : Int → Int} (h : GC X X') (hr : ∀ i : Nat, X.1 232 i = zI (b i)) : ∀ i : Nat, X'.1 232 i = zI (b i) := fun i => by rw [h.1 _ _ (by omega)]; exact hr i
theorem hd_go {T : Int → Int} {E s k jj v : Int} {M X : KM} {P L n m : Nat} {d e j : Int} {b : Int → Int} (hE : 0 ≤ E ∧ E ≤ 900) (hP : 11 < P) (hL : 23 ≤ L) (hPL : P + 6 ≤ L ∨ L + 8 ≤ P) (g : GD T E 8 s k jj v M X) (hk : ¬ k = 0) (hD : DS P L d e j b M X) (he : e < 30) (hn : 1000 < n) (hm : 1000 < m) :
    HR T E P L d e j b s M X 0 (sq (f_X0_start n 8 P) (f_X0_readGo n 8 P L) M) (sgB m (zI 1) X) := by
  have hD2 := hD
  obtain ⟨d1, d2, d3, d4, d5, d6, d7, d8, d9, d10, d11, d12⟩ := hD2
  obtain ⟨M1, X1, s1, k1, j1, v1, e1, g1, l1, fm1, fx1, r1, t1, n1, mo⟩ := head0 (q := 1) hE hP hL g hk hD he hn hm
  have x1 : X1.1 232 (2540 + 9 * e).toNat = zI 1 := by
    have := r1 (2540 + 9 * e).toNat
    rw [Int.toNat_of_nonneg (by omega), bu_s] at this
    exact this
  have cs1 := c_dstart (n := n) (P := P) d3 d8 he e1
  have hn0 := n1.1
  rw [mo, m_restGo (by omega) (by omega) x1]
  rcases j_person2 (n := n) (m := m) (B := 0) (Or.inr rfl) hE g1 (by omega) n1 hn hm with ⟨M2, X2, p, px, py, p1, p2, p3, s2, k2, j2, v2, g2, l2, -, fm2, fx2⟩ | ⟨M2, X2, p1, p2, p3⟩
  · rw [m_readTold1 g1.2.2.1 p2 p3, Option.bind_some]
    have fm2' := FC_t fm1 fm2
    have g3 : GD T E 8 s2 k2 j2 v2 M2 (uI X2 232 (2540 + 9 * e + 1).toNat (zI p)) := GD_of (M := M2) (X := X2) (fun _ _ _ => rfl) (fun _ _ _ => rfl) rfl (fun c i w => uI_o (by omega)) rfl g2
    have n3 : NA L 0 (b 0) (b 2) M2 (uI X2 232 (2540 + 9 * e + 1).toNat (zI p)) := NA_of (by omega) (fun i => fm2.1 _ _ (by omega)) (fun c i u w => fm2.2.1 _ _ (by omega)) (fun i u w => by rw [uI_o (by omega), fx2.1 _ _ (by omega)]) (fun i => fx2.2.1 _ _ (by omega)) n1
    have r3 := row_bu (e := 2540 + 9 * e + 1) (v := p) (by omega) (nx_row (e := 0) fx2 r1)
    have t3 : (uI X2 232 (2540 + 9 * e + 1).toNat (zI p)).1 227 27 = zI (e + 1) := by rw [uI_o (by omega), fx2.1 _ _ (by omega)]; exact t1
    have G3 : GX e X (uI X2 232 (2540 + 9 * e + 1).toNat (zI p)) := GX_w (by omega) (GX_C fx1 fx2)
    show HR T E P L d e j b s M X 0 _ (((f_X12_readTold m 227 (zI 0) (zI 0) (uI X2 232 (2540 + 9 * e + 1).toNat (zI p))).bind _).bind _)
    generalize (uI X2 232 (2540 + 9 * e + 1).toNat (zI p)) = X3 at *
    rcases j_place2 (n := n) (m := m) (B := 0) (Or.inr rfl) hE g3 (by omega) n3 hn hm with ⟨M4, X4, y, yx, yy, q1, q2, q3, s4, k4, j4, v4, g4, l4, -, fm4, fx4⟩ | ⟨M4, X4, q1, q2, q3⟩
    · rw [m_readTold1 g3.2.2.1 q2 q3, Option.bind_some, Option.bind_some]
      have fm4' := FC_t fm2' fm4
      have g5 : GD T E 8 s4 k4 j4 v4 M4 (uI X4 232 (2540 + 9 * e + 2).toNat (zI y)) := GD_of (M := M4) (X := X4) (fun _ _ _ => rfl) (fun _ _ _ => rfl) rfl (fun c i w => uI_o (by omega)) rfl g4
      obtain ⟨r, M', a1, a2, a3⟩ := hd_fin (d := d) (e := e) (j := j) (P := P) (L := L) (M := M) (X := X) (s := s) (k := 0) (q := 1) (x := p) (y := y) (z := 0) (n := n) (m := m) (b := b) hE hP hL hPL (by omega) (by omega) ⟨d10, by omega⟩ g5 (by omega) (row_bu (e := 2540 + 9 * e + 2) (v := y) (by omega) (nx_row (e := 0) fx4 r3)) (fun z hz => by rw [bu_o (by omega), bu_o (by omega), bu_o (by omega)]) (by rw [fm4'.1 _ _ (by omega)]; exact d5) (by rw [fm4'.1 _ _ (by omega)]; exact d3) (by rw [uI_o (by omega), fx4.1 _ _ (by omega)]; exact t3) (by rw [fm4'.1 _ _ (by omega), d2]; congr 1; omega) (NA_of (by omega) (fun i => fm4.1 _ _ (by omega)) (fun c i u w => fm4.2.1 _ _ (by omega)) (fun i u w => by rw [uI_o (by omega), fx4.1 _ _ (by omega)]) (fun i => fx4.2.1 _ _ (by omega)) n3) (fun h => by omega) (FC_D hP fm4') (GX_w (by omega) (GX_C G3 fx4)) (by omega) (by omega) (fun M' f1 f2 f3 f4 => Or.inl ⟨rfl, by
        unfold PSt
        rw [dc_at (by omega), show 2248 + (292 + 9 * e) = 2540 + 9 * e by omega, dc_at (show 290 ≤ 292 + 9 * e + 1 by omega), show 2248 + (292 + 9 * e + 1) = 2540 + 9 * e + 1 by omega, dc_at (show 290 ≤ 292 + 9 * e + 2 by omega), show 2248 + (292 + 9 * e + 2) = 2540 + 9 * e + 2 by omega, dc_lo (by omega), dc_lo (by omega)]
        simp (disch := omega) only [bu_s, bu_o]
        exact Or.inr (Or.inl ⟨trivial, f1, f2, f3, px, py, yx, yy⟩)⟩) hn hm
      have cg : f_X0_readGo n 8 P L M1 = some (r, M') := by
        unfold f_X0_readGo
        rw [p1, Option.bind_some, lt]
        simp only
        rw [if_neg (by rw [show (-1 : Int32) = zI (-1) from rfl, zeqF (by omega) (by omega) (by omega) (by omega) (by omega)]; exact id), q1, Option.bind_some]
        simp only
        rw [if_neg (by rw [show (-1 : Int32) = zI (-1) from rfl, zeqF (by omega) (by omega) (by omega) (by omega) (by omega)]; exact id), show f_X0_addStep n 8 P (1 : Int32) (zI p) (zI y) (0 : Int32) M4 = _ from a1, Option.bind_some]
        rcases a2 with a2 | a2
        · rw [a2, if_neg (show ¬ zI 1 = 0 by decide)]; rfl
        · rw [a2, if_pos (show zI 0 = 0 by decide)]; rfl
      rw [sq_1 cs1 cg a2]
      exact a3
    · rw [m_readTold0 q2 (BD_X q3.1), Option.bind_some, Option.bind_some]
      have h2 : BD 8 M4 (uI X4 232 (2540 + 9 * e + 2).toNat (zI 0)) := BD_w q3.1
      have cg : f_X0_readGo n 8 P L M1 = some (zI 0, M4) := by
        unfold f_X0_readGo
        rw [p1, Option.bind_some, lt]
        simp only
        rw [if_neg (by rw [show (-1 : Int32) = zI (-1) from rfl, zeqF (by omega) (by omega) (by omega) (by omega) (by omega)]; exact id), q1, Option.bind_some]
        simp only
        rw [if_pos (by decide)]
        rfl
      rw [xb_must (BD_X h2), sq_1 cs1 cg (Or.inr rfl)]
      exact hd_bad h2 (FC_D hP (FC_t fm2' q3.2.1)) (GX_w (by omega) (GX_C G3 q3.2.2))
  · have xb := BD_X p3.1
    have h1 : BD 8 M2 (uI X2 232 (2540 + 9 * e + 1).toNat (zI 0)) := BD_w p3.1
    rw [m_readTold0 p2 xb, Option.bind_some]
    show HR T E P L d e j b s M X 0 _ (((f_X12_readTold m 227 (zI 0) (zI 0) (uI X2 232 (2540 + 9 * e + 1).toNat (zI 0))).bind _).bind _)
    rw [xb_readTold (BD_X h1), Option.bind_some, Option.bind_some]
    have h2 : BD 8 M2 (uI (uI X2 232 (2540 + 9 * e + 1).toNat (zI 0)) 232 (2540 + 9 * e + 2).toNat (zI 0)) := BD_w h1
    have cg : f_X0_readGo n 8 P L M1 = some (zI 0, M2) := by
      unfold f_X0_readGo
      rw [p1, Option.bind_some, lt]
      simp only
      rw [if_pos (by decide), if_pos (by decide)]
      rfl
    rw [xb_must (BD_X h2), sq_1 cs1 cg (Or.inr rfl)]
    exact hd_bad h2 (FC_D hP (FC_t fm1 p3.2.1)) (GX_w (by omega) (GX_w (by omega) (GX_C fx1 p3.2.2)))
