/-! ===== days: when, both ===== -/
theorem hd_when {T : Int → Int} {E s k jj v : Int} {M X : KM} {P L n m : Nat} {d e j : Int} {b : Int → Int} (hE : 0 ≤ E ∧ E ≤ 900) (hP : 11 < P) (hL : 23 ≤ L) (hPL : P + 6 ≤ L ∨ L + 8 ≤ P) (g : GD T E 8 s k jj v M X) (hk : ¬ k = 0) (hD : DS P L d e j b M X) (he : e < 30) (hd : d < 3) (hn : 1000 < n) (hm : 1000 < m) :
    HR T E P L d e j b s M X 1 (sq (f_X0_startBlock n 8 P) (f_X0_readTest n 8 P L) M) (sgB m (zI 6) X) := by
  have hD2 := hD
  obtain ⟨d1, d2, d3, d4, d5, d6, d7, d8, d9, d10, d11, d12⟩ := hD2
  obtain ⟨M0, X1, s1, k1, j1, v1, e1, g0, l1, fm0, fx1, r1, t1, n0, mo⟩ := head0 (q := 6) hE hP hL g hk hD he hn hm
  have cs1 := c_startBlock hP d3 d5 d2 d8 he d6 hd e1 fm0
  have g1 : GD T E 8 s1 k1 j1 v1 (uI (uI M0 11 d.toNat (zI j)) 8 13 (zI (d + 1))) X1 := GD_of (M := M0) (X := X1) (fun c i w => by rw [uI_o (by omega), uI_o (by omega)]) (fun _ _ _ => rfl) rfl (fun _ _ _ => rfl) rfl g0
  have n1 : NA L 0 (b 0) (b 2) (uI (uI M0 11 d.toNat (zI j)) 8 13 (zI (d + 1))) X1 := NA_of (M := M0) (X := X1) (by omega) (fun i => by rw [uI_o (by omega), uI_o (by omega)]) (fun _ _ _ _ => rfl) (fun _ _ _ => rfl) (fun _ => rfl) n0
  have F1 : FD P j d M (uI (uI M0 11 d.toNat (zI j)) 8 13 (zI (d + 1))) := FD_t (Int.le_refl _) (Int.le_refl _) (FC_D hP fm0) (ob_F hP d6)
  have h5 : (uI (uI M0 11 d.toNat (zI j)) 8 13 (zI (d + 1))).1 P 5 = zI j := by rw [uI_o (by omega), uI_o (by omega), fm0.1 _ _ (by omega)]; exact d5
  have h6 : (uI (uI M0 11 d.toNat (zI j)) 8 13 (zI (d + 1))).1 P 6 = zI e := by rw [uI_o (by omega), uI_o (by omega), fm0.1 _ _ (by omega)]; exact d3
  have h13 : (uI (uI M0 11 d.toNat (zI j)) 8 13 (zI (d + 1))).1 8 13 = zI (d + 1) := uI_s
  have h11 : (uI (uI M0 11 d.toNat (zI j)) 8 13 (zI (d + 1))).1 11 d.toNat = zI j := by rw [uI_o (by omega), uI_s]
  generalize (uI (uI M0 11 d.toNat (zI j)) 8 13 (zI (d + 1))) = M1 at *
  have x1 : X1.1 232 (2540 + 9 * e).toNat = zI 6 := by
    have := r1 (2540 + 9 * e).toNat
    rw [Int.toNat_of_nonneg (by omega), bu_s] at this
    exact this
  have hn0 := n1.1
  rw [mo, m_restWhen (by omega) (by omega) x1]
  -- a cell of the step written, the class gone on
  have stepN : ∀ {M' X' : KM} {c : Int} {y : Int32} (M2 X2 : KM), FC 8 M2 M' → GC X2 X' → NA L 0 (b 0) (b 2) M2 X2 → 0 ≤ c → NA L 0 (b 0) (b 2) M' (uI X' 232 (2540 + 9 * e + c).toNat y) := fun M2 X2 f h a hc => NA_of (by omega) (fun i => f.1 _ _ (by omega)) (fun c i u w => f.2.1 _ _ (by omega)) (fun i u w => by rw [uI_o (by omega), h.1 _ _ (by omega)]) (fun i => h.2.1 _ _ (by omega)) a
  have stepG : ∀ {M' X' : KM} {c s' k' j' v' : Int} {y : Int32}, GD T E 8 s' k' j' v' M' X' → GD T E 8 s' k' j' v' M' (uI X' 232 (2540 + 9 * e + c).toNat y) := fun g => GD_of (fun _ _ _ => rfl) (fun _ _ _ => rfl) rfl (fun c i w => uI_o (by omega)) rfl g
  by_cases w0 : j1 = 0
  · -- glare
    rcases j_skipw2 (i := 0) (Or.inr rfl) hE g1 (by omega) (by omega) hn hm with ⟨-, M2, X2, c1, m1, -, s2, k2, j2, v2, g2, l2, -, fm2, fx2⟩ | ⟨w1, -⟩
    · rw [m_test0 g1 w0 (by omega) (by omega) m1, Option.bind_some]
      obtain ⟨r, M', a1, a2, a3⟩ := hd_fin (d := d) (e := e) (j := j) (P := P) (L := L) (M := M) (X := X) (s := s) (k := 1) (q := 7) (x := 0) (y := 0) (z := 0) (n := n) (m := m) (b := b) hE hP hL hPL (by omega) (by omega) ⟨d10, by omega⟩ (stepG (c := 6) (y := zI 1) g2) (by omega) (row_bu (e := 2540 + 9 * e + 6) (v := 1) (by omega) (nx_row (e := 0) fx2 r1)) (fun z hz => by rw [bu_o (by omega), bu_o (by omega)]) (by rw [fm2.1 _ _ (by omega)]; exact h5) (by rw [fm2.1 _ _ (by omega)]; exact h6) (by rw [uI_o (by omega), fx2.1 _ _ (by omega)]; exact t1) (by rw [fm2.1 _ _ (by omega)]; exact h13) (stepN M1 X1 fm2 fx2 n1 (by omega)) (fun _ => by rw [fm2.1 _ _ (by omega)]; exact h11) (FD_C hP F1 fm2) (GX_w (by omega) (GX_C fx1 fx2)) (by omega) (by omega) (fun M' f1 f2 f3 f4 => Or.inr ⟨rfl, by
        unfold PBl
        rw [dc_at (by omega), show 2248 + (292 + 9 * e) = 2540 + 9 * e by omega, dc_at (show 290 ≤ 292 + 9 * e + 6 by omega), show 2248 + (292 + 9 * e + 6) = 2540 + 9 * e + 6 by omega]
        simp (disch := omega) only [bu_s, bu_o]
        exact Or.inr (Or.inl ⟨trivial, trivial, f1⟩)⟩) hn hm
      have cg : f_X0_readTest n 8 P L M1 = some (r, M') := by
        unfold f_X0_readTest
        rw [show f_X9_skipWord n 8 (0 : Int32) M1 = _ from c1, Option.bind_some, if_neg (show ¬ zI 1 = 0 by decide), show f_X0_addStep n 8 P (7 : Int32) (0 : Int32) (0 : Int32) (0 : Int32) M2 = _ from a1]
        rfl
      rw [sq_1 cs1 cg a2]
      exact a3
    · exact absurd w0 w1
  · rcases j_skipw2 (i := 0) (Or.inr rfl) hE g1 (by omega) (by omega) hn hm with ⟨w1, -⟩ | ⟨-, c0, -⟩
    · exact absurd w1 w0
    by_cases w11 : j1 = 11
    · -- at
      rcases j_skipw2 (i := 11) (Or.inr rfl) hE g1 (by omega) (by omega) hn hm with ⟨-, M2, X2, c1, m1, -, s2, k2, j2, v2, g2, l2, -, fm2, fx2⟩ | ⟨w1, -⟩
      · rw [m_test1 g1 w11 (by omega) (by omega) m1 g2.2.2.1]
        have g3 := stepG (c := 6) (y := zI 0) g2
        have n3 := stepN (c := 6) (y := zI 0) M1 X1 fm2 fx2 n1 (by omega)
        have r3 := row_bu (e := 2540 + 9 * e + 6) (v := 0) (by omega) (nx_row (e := 0) fx2 r1)
        have t3 : (uI X2 232 (2540 + 9 * e + 6).toNat (zI 0)).1 227 27 = zI (e + 1) := by rw [uI_o (by omega), fx2.1 _ _ (by omega)]; exact t1
        have G3 : GX e X (uI X2 232 (2540 + 9 * e + 6).toNat (zI 0)) := GX_w (by omega) (GX_C fx1 fx2)
        generalize (uI X2 232 (2540 + 9 * e + 6).toNat (zI 0)) = X3 at *
        rcases j_person2 (n := n) (m := m) (B := 0) (Or.inr rfl) hE g3 (by omega) n3 hn hm with ⟨M4, X4, p, px, py, p1, p2, p3, s4, k4, j4, v4, g4, l4, -, fm4, fx4⟩ | ⟨M4, X4, p1, p2, p3⟩
        · rw [m_readTold1 g3.2.2.1 p2 p3, Option.bind_some]
          have fm4' := FC_t fm2 fm4
          have g5 := stepG (c := 1) (y := zI p) g4
          have n5 := stepN (c := 1) (y := zI p) M2 X3 fm4 fx4 n3 (by omega)
          have r5 := row_bu (e := 2540 + 9 * e + 1) (v := p) (by omega) (nx_row (e := 0) fx4 r3)
          have t5 : (uI X4 232 (2540 + 9 * e + 1).toNat (zI p)).1 227 27 = zI (e + 1) := by rw [uI_o (by omega), fx4.1 _ _ (by omega)]; exact t3
          have G5 : GX e X (uI X4 232 (2540 + 9 * e + 1).toNat (zI p)) := GX_w (by omega) (GX_C G3 fx4)
          show HR T E P L d e j b s M X 1 _ (((f_X12_readTold m 227 (zI 0) (zI 0) (uI X4 232 (2540 + 9 * e + 1).toNat (zI p))).bind _).bind _)
          generalize (uI X4 232 (2540 + 9 * e + 1).toNat (zI p)) = X5 at *
          rcases j_place2 (n := n) (m := m) (B := 0) (Or.inr rfl) hE g5 (by omega) n5 hn hm with ⟨M6, X6, y, yx, yy, y1, y2, y3, s6, k6, j6, v6, g6, l6, -, fm6, fx6⟩ | ⟨M6, X6, y1, y2, y3⟩
          · rw [m_readTold1 g5.2.2.1 y2 y3, Option.bind_some, Option.bind_some]
            have fm6' := FC_t fm4' fm6
            obtain ⟨r, M', a1, a2, a3⟩ := hd_fin (d := d) (e := e) (j := j) (P := P) (L := L) (M := M) (X := X) (s := s) (k := 1) (q := 6) (x := p) (y := y) (z := 0) (n := n) (m := m) (b := b) hE hP hL hPL (by omega) (by omega) ⟨d10, by omega⟩ (stepG (c := 2) (y := zI y) g6) (by omega) (row_bu (e := 2540 + 9 * e + 2) (v := y) (by omega) (nx_row (e := 0) fx6 r5)) (fun z hz => by rw [bu_o (by omega), bu_o (by omega), bu_o (by omega), bu_o (by omega)]) (by rw [fm6'.1 _ _ (by omega)]; exact h5) (by rw [fm6'.1 _ _ (by omega)]; exact h6) (by rw [uI_o (by omega), fx6.1 _ _ (by omega)]; exact t5) (by rw [fm6'.1 _ _ (by omega)]; exact h13) (stepN M4 X5 fm6 fx6 n5 (by omega)) (fun _ => by rw [fm6'.1 _ _ (by omega)]; exact h11) (FD_C hP F1 fm6') (GX_w (by omega) (GX_C G5 fx6)) (by omega) (by omega) (fun M' f1 f2 f3 f4 => Or.inr ⟨rfl, by
              unfold PBl
              rw [dc_at (by omega), show 2248 + (292 + 9 * e) = 2540 + 9 * e by omega, dc_at (show 290 ≤ 292 + 9 * e + 6 by omega), show 2248 + (292 + 9 * e + 6) = 2540 + 9 * e + 6 by omega, dc_at (show 290 ≤ 292 + 9 * e + 1 by omega), show 2248 + (292 + 9 * e + 1) = 2540 + 9 * e + 1 by omega, dc_at (show 290 ≤ 292 + 9 * e + 2 by omega), show 2248 + (292 + 9 * e + 2) = 2540 + 9 * e + 2 by omega, dc_lo (by omega), dc_lo (by omega)]
              simp (disch := omega) only [bu_s, bu_o]
              exact Or.inl ⟨trivial, trivial, f1, f2, f3, px, py, yx, yy⟩⟩) hn hm
            have cg : f_X0_readTest n 8 P L M1 = some (r, M') := by
              unfold f_X0_readTest
              rw [show f_X9_skipWord n 8 (0 : Int32) M1 = _ from c0, Option.bind_some, if_pos (show zI 0 = 0 by decide), show f_X9_skipWord n 8 (11 : Int32) M1 = _ from c1, Option.bind_some, if_neg (show ¬ zI 1 = 0 by decide), p1, Option.bind_some, lt]
              simp only
              rw [if_neg (z_ne1 (by omega) (by omega)), y1, Option.bind_some]
              simp only
              rw [if_neg (z_ne1 (by omega) (by omega)), show f_X0_addStep n 8 P (6 : Int32) (zI p) (zI y) (0 : Int32) M6 = _ from a1, Option.bind_some]
              rcases a2 with a2 | a2
              · rw [a2, if_neg (show ¬ zI 1 = 0 by decide)]; rfl
              · rw [a2, if_pos (show zI 0 = 0 by decide)]; rfl
            rw [sq_1 cs1 cg a2]
            exact a3
          · rw [m_readTold0 y2 (BD_X y3.1), Option.bind_some, Option.bind_some]
            have h2 : BD 8 M6 (uI X6 232 (2540 + 9 * e + 2).toNat (zI 0)) := BD_w y3.1
            have cg : f_X0_readTest n 8 P L M1 = some (zI 0, M6) := by
              unfold f_X0_readTest
              rw [show f_X9_skipWord n 8 (0 : Int32) M1 = _ from c0, Option.bind_some, if_pos (show zI 0 = 0 by decide), show f_X9_skipWord n 8 (11 : Int32) M1 = _ from c1, Option.bind_some, if_neg (show ¬ zI 1 = 0 by decide), p1, Option.bind_some, lt]
              simp only
              rw [if_neg (z_ne1 (by omega) (by omega)), y1, Option.bind_some]
              simp only
              rw [if_pos (by decide)]
              rfl
            rw [xb_must (BD_X h2), sq_1 cs1 cg (Or.inr rfl)]
            exact hd_bad h2 (FD_C hP F1 (FC_t fm4' y3.2.1)) (GX_w (by omega) (GX_C G5 y3.2.2))
        · have xb := BD_X p3.1
          have h1 : BD 8 M4 (uI X4 232 (2540 + 9 * e + 1).toNat (zI 0)) := BD_w p3.1
          rw [m_readTold0 p2 xb, Option.bind_some]
          show HR T E P L d e j b s M X 1 _ (((f_X12_readTold m 227 (zI 0) (zI 0) (uI X4 232 (2540 + 9 * e + 1).toNat (zI 0))).bind _).bind _)
          rw [xb_readTold (BD_X h1), Option.bind_some, Option.bind_some]
          have h2 : BD 8 M4 (uI (uI X4 232 (2540 + 9 * e + 1).toNat (zI 0)) 232 (2540 + 9 * e + 2).toNat (zI 0)) := BD_w h1
          have cg : f_X0_readTest n 8 P L M1 = some (zI 0, M4) := by
            unfold f_X0_readTest
            rw [show f_X9_skipWord n 8 (0 : Int32) M1 = _ from c0, Option.bind_some, if_pos (show zI 0 = 0 by decide), show f_X9_skipWord n 8 (11 : Int32) M1 = _ from c1, Option.bind_some, if_neg (show ¬ zI 1 = 0 by decide), p1, Option.bind_some, lt]
            simp only
            rw [if_pos (by decide), if_pos (by decide)]
            rfl
          rw [xb_must (BD_X h2), sq_1 cs1 cg (Or.inr rfl)]
          exact hd_bad h2 (FD_C hP F1 (FC_t fm2 p3.2.1)) (GX_w (by omega) (GX_w (by omega) (GX_C G3 p3.2.2)))
      · exact absurd w11 w1
    · rcases j_skipw2 (i := 11) (Or.inr rfl) hE g1 (by omega) (by omega) hn hm with ⟨w1, -⟩ | ⟨-, c11, -⟩
      · exact absurd w1 w11
      rcases j_word2 (i := 22) (Or.inr rfl) hE g1 (by omega) (by omega) hn hm with ⟨w22, M2, X2, c1, m1, s2, k2, j2, v2, g2, l2, -, fm2, fx2⟩ | ⟨w22, M2, X2, c1, m1, b1⟩
      · -- lost
        have ma : f_X12_advance m 227 X1 = some X2 := by
          rw [bIT w22] at m1
          unfold f_X12_must at m1
          have x0 := g1.2.2.1
          simp (disch := first | omega | assumption) only [↓reduceIte, zl, x0, zleT, zeqF, if_true, if_false, bsome] at m1
          exact m1
        rw [m_test2 g1 w22 (by omega) (by omega) ma g2.2.2.1]
        have g3 := stepG (c := 6) (y := zI 2) g2
        have n3 := stepN (c := 6) (y := zI 2) M1 X1 fm2 fx2 n1 (by omega)
        have r3 := row_bu (e := 2540 + 9 * e + 6) (v := 2) (by omega) (nx_row (e := 0) fx2 r1)
        have t3 : (uI X2 232 (2540 + 9 * e + 6).toNat (zI 2)).1 227 27 = zI (e + 1) := by rw [uI_o (by omega), fx2.1 _ _ (by omega)]; exact t1
        have G3 : GX e X (uI X2 232 (2540 + 9 * e + 6).toNat (zI 2)) := GX_w (by omega) (GX_C fx1 fx2)
        generalize (uI X2 232 (2540 + 9 * e + 6).toNat (zI 2)) = X3 at *
        rcases j_person2 (n := n) (m := m) (B := 0) (Or.inr rfl) hE g3 (by omega) n3 hn hm with ⟨M4, X4, p, px, py, p1, p2, p3, s4, k4, j4, v4, g4, l4, -, fm4, fx4⟩ | ⟨M4, X4, p1, p2, p3⟩
        · rw [m_readTold1 g3.2.2.1 p2 p3, Option.bind_some]
          have fm4' := FC_t fm2 fm4
          have g5 := stepG (c := 1) (y := zI p) g4
          have n5 := stepN (c := 1) (y := zI p) M2 X3 fm4 fx4 n3 (by omega)
          have r5 := row_bu (e := 2540 + 9 * e + 1) (v := p) (by omega) (nx_row (e := 0) fx4 r3)
          have t5 : (uI X4 232 (2540 + 9 * e + 1).toNat (zI p)).1 227 27 = zI (e + 1) := by rw [uI_o (by omega), fx4.1 _ _ (by omega)]; exact t3
          have G5 : GX e X (uI X4 232 (2540 + 9 * e + 1).toNat (zI p)) := GX_w (by omega) (GX_C G3 fx4)
          show HR T E P L d e j b s M X 1 _ ((f_X12_readMany m 227 (zI (2540 + 9 * e)) (uI X4 232 (2540 + 9 * e + 1).toNat (zI p))).bind _)
          generalize (uI X4 232 (2540 + 9 * e + 1).toNat (zI p)) = X5 at *
          obtain ⟨mm1, mm2⟩ := m_many (n := m) (w := 2540 + 9 * e) g5 (by omega) (by omega)
          rcases j_cmp hE g5 hn hm with ⟨kc1, kc2, kc3, -⟩ | ⟨kc, M6, X6, q1, q2, q3⟩
          · rw [mm1 ⟨kc1, kc2⟩]
            have g5w := stepG (c := 7) (y := zI v4) g5
            have n5w : NA L 0 (b 0) (b 2) M4 (uI X5 232 (2540 + 9 * e + 7).toNat (zI v4)) := stepN M4 X5 FC_r GC_r n5 (by omega)
            have r5w := row_bu (e := 2540 + 9 * e + 7) (v := v4) (by omega) r5
            have t5w : (uI X5 232 (2540 + 9 * e + 7).toNat (zI v4)).1 227 27 = zI (e + 1) := by rw [uI_o (by omega)]; exact t5
            have G5w : GX e X (uI X5 232 (2540 + 9 * e + 7).toNat (zI v4)) := GX_w (by omega) G5
            rcases j_cmp hE g5w hn hm with ⟨-, -, -, M6, X6, q1, q2, s6, k6, j6, v6, g6, l6, -, fm6, fx6⟩ | ⟨kc, -⟩
            · rw [m_must1 g5w.2.2.1 q2, Option.bind_some]
              have fm6' := FC_t fm4' fm6
              rcases j_num2 (lo := 0) (hi := 9999) (Or.inr rfl) hE g6 (by omega) (by omega) (by omega) (by omega) hn hm with ⟨M7, X7, x, y1, y2, yx, yy, s7, k7, j7, v7, g7, l7, -, fm7, fx7⟩ | ⟨M7, X7, y1, y2, y3⟩
              · rw [y2, Option.bind_some, Option.bind_some]
                have fm7' := FC_t fm6' fm7
                obtain ⟨r, M', a1, a2, a3⟩ := hd_fin (d := d) (e := e) (j := j) (P := P) (L := L) (M := M) (X := X) (s := s) (k := 1) (q := 8) (x := p) (y := v4) (z := x) (n := n) (m := m) (b := b) hE hP hL hPL (by omega) (by omega) ⟨d10, by omega⟩ (stepG (c := 2) (y := zI x) g7) (by omega) (row_bu (e := 2540 + 9 * e + 2) (v := x) (by omega) (nx_row (e := 0) fx7 (nx_row (e := 0) fx6 r5w))) (fun z hz => by rw [bu_o (by omega), bu_o (by omega), bu_o (by omega), bu_o (by omega), bu_o (by omega)]) (by rw [fm7'.1 _ _ (by omega)]; exact h5) (by rw [fm7'.1 _ _ (by omega)]; exact h6) (by rw [uI_o (by omega), fx7.1 _ _ (by omega), fx6.1 _ _ (by omega)]; exact t5w) (by rw [fm7'.1 _ _ (by omega)]; exact h13) (stepN M4 (uI X5 232 (2540 + 9 * e + 7).toNat (zI v4)) (FC_t fm6 fm7) (GC_t fx6 fx7) n5w (by omega)) (fun _ => by rw [fm7'.1 _ _ (by omega)]; exact h11) (FD_C hP F1 fm7') (GX_w (by omega) (GX_C (GX_C G5w fx6) fx7)) (by omega) (by omega) (fun M' f1 f2 f3 f4 => Or.inr ⟨rfl, by
                  unfold PBl
                  rw [dc_at (by omega), show 2248 + (292 + 9 * e) = 2540 + 9 * e by omega, dc_at (show 290 ≤ 292 + 9 * e + 6 by omega), show 2248 + (292 + 9 * e + 6) = 2540 + 9 * e + 6 by omega, dc_at (show 290 ≤ 292 + 9 * e + 1 by omega), show 2248 + (292 + 9 * e + 1) = 2540 + 9 * e + 1 by omega, dc_at (show 290 ≤ 292 + 9 * e + 2 by omega), show 2248 + (292 + 9 * e + 2) = 2540 + 9 * e + 2 by omega, dc_at (show 290 ≤ 292 + 9 * e + 7 by omega), show 2248 + (292 + 9 * e + 7) = 2540 + 9 * e + 7 by omega, dc_lo (by omega), dc_lo (by omega)]
                  simp (disch := omega) only [bu_s, bu_o]
                  exact Or.inr (Or.inr (Or.inl ⟨trivial, trivial, f1, f2, f3, f4, px, py, yx, yy, kc3⟩))⟩) hn hm
                have cg : f_X0_readTest n 8 P L M1 = some (r, M') := by
                  unfold f_X0_readTest
                  rw [show f_X9_skipWord n 8 (0 : Int32) M1 = _ from c0, Option.bind_some, if_pos (show zI 0 = 0 by decide), show f_X9_skipWord n 8 (11 : Int32) M1 = _ from c11, Option.bind_some, if_pos (show zI 0 = 0 by decide), show f_X9_takeWord n 8 (22 : Int32) M1 = _ from c1, Option.bind_some, if_neg (show ¬ zI 1 = 0 by decide), p1, Option.bind_some, lt]
                  simp only
                  rw [if_neg (z_ne1 (by omega) (by omega)), q1, Option.bind_some, lt]
                  simp only
                  rw [if_neg (z_ne1 (by omega) (by omega)), show f_X9_takeNumber n 8 (0 : Int32) (9999 : Int32) M6 = _ from y1, Option.bind_some]
                  simp only
                  rw [if_neg (z_ne1 (by omega) (by omega)), show f_X0_addStep n 8 P (8 : Int32) (zI p) (zI v4) (zI x) M7 = _ from a1, Option.bind_some]
                  rcases a2 with a2 | a2
                  · rw [a2, if_neg (show ¬ zI 1 = 0 by decide)]; rfl
                  · rw [a2, if_pos (show zI 0 = 0 by decide)]; rfl
                rw [sq_1 cs1 cg a2]
                exact a3
              · rw [y2, Option.bind_some, Option.bind_some]
                have h2 : BD 8 M7 (uI X7 232 (2540 + 9 * e + 2).toNat (zI 0)) := BD_w y3.1
                have cg : f_X0_readTest n 8 P L M1 = some (zI 0, M7) := by
                  unfold f_X0_readTest
                  rw [show f_X9_skipWord n 8 (0 : Int32) M1 = _ from c0, Option.bind_some, if_pos (show zI 0 = 0 by decide), show f_X9_skipWord n 8 (11 : Int32) M1 = _ from c11, Option.bind_some, if_pos (show zI 0 = 0 by decide), show f_X9_takeWord n 8 (22 : Int32) M1 = _ from c1, Option.bind_some, if_neg (show ¬ zI 1 = 0 by decide), p1, Option.bind_some, lt]
                  simp only
                  rw [if_neg (z_ne1 (by omega) (by omega)), q1, Option.bind_some, lt]
                  simp only
                  rw [if_neg (z_ne1 (by omega) (by omega)), show f_X9_takeNumber n 8 (0 : Int32) (9999 : Int32) M6 = _ from y1, Option.bind_some]
                  simp only
                  rw [if_pos (by decide)]
                  rfl
                rw [xb_must (BD_X h2), sq_1 cs1 cg (Or.inr rfl)]
                exact hd_bad h2 (FD_C hP F1 (FC_t fm6' y3.2.1)) (GX_w (by omega) (GX_C (GX_C G5w fx6) y3.2.2))
            · exact absurd ⟨kc1, kc2⟩ kc
          · obtain ⟨y, my⟩ := mm2 kc
            rw [my]
            have g5w := stepG (c := 7) (y := y) g5
            have G5w : GX e X (uI X5 232 (2540 + 9 * e + 7).toNat y) := GX_w (by omega) G5
            rcases j_cmp hE g5w hn hm with ⟨z1, z2, -⟩ | ⟨-, M7, X7, z1, z2, z3⟩
            · exact absurd ⟨z1, z2⟩ kc
            · have xb := BD_X z3.1
              have h2 : BD 8 M7 (uI X7 232 (2540 + 9 * e + 2).toNat (zI 0)) := BD_w z3.1
              rw [m_must0 g5w.2.2.1, z2, Option.bind_some, xb_count xb, Option.bind_some, Option.bind_some]
              have cg : f_X0_readTest n 8 P L M1 = some (zI 0, M7) := by
                unfold f_X0_readTest
                rw [show f_X9_skipWord n 8 (0 : Int32) M1 = _ from c0, Option.bind_some, if_pos (show zI 0 = 0 by decide), show f_X9_skipWord n 8 (11 : Int32) M1 = _ from c11, Option.bind_some, if_pos (show zI 0 = 0 by decide), show f_X9_takeWord n 8 (22 : Int32) M1 = _ from c1, Option.bind_some, if_neg (show ¬ zI 1 = 0 by decide), p1, Option.bind_some, lt]
                simp only
                rw [if_neg (z_ne1 (by omega) (by omega)), z1, Option.bind_some, lt]
                simp only
                rw [if_pos (by decide), if_pos (by decide)]
                rfl
              rw [xb_must (BD_X h2), sq_1 cs1 cg (Or.inr rfl)]
              exact hd_bad h2 (FD_C hP F1 (FC_t fm4' z3.2.1)) (GX_w (by omega) (GX_C G5w z3.2.2))
        · have xb := BD_X p3.1
          have h1 : BD 8 M4 (uI X4 232 (2540 + 9 * e + 1).toNat (zI 0)) := BD_w p3.1
          rw [m_readTold0 p2 xb, Option.bind_some]
          show HR T E P L d e j b s M X 1 _ ((f_X12_readMany m 227 (zI (2540 + 9 * e)) (uI X4 232 (2540 + 9 * e + 1).toNat (zI 0))).bind _)
          rw [xb_many (BD_X h1), Option.bind_some]
          have cg : f_X0_readTest n 8 P L M1 = some (zI 0, M4) := by
            unfold f_X0_readTest
            rw [show f_X9_skipWord n 8 (0 : Int32) M1 = _ from c0, Option.bind_some, if_pos (show zI 0 = 0 by decide), show f_X9_skipWord n 8 (11 : Int32) M1 = _ from c11, Option.bind_some, if_pos (show zI 0 = 0 by decide), show f_X9_takeWord n 8 (22 : Int32) M1 = _ from c1, Option.bind_some, if_neg (show ¬ zI 1 = 0 by decide), p1, Option.bind_some, lt]
            simp only
            rw [if_pos (by decide), lt]
            simp only
            rw [if_pos (by decide), if_pos (by decide)]
            rfl
          rw [xb_must (BD_X h1), sq_1 cs1 cg (Or.inr rfl)]
          exact hd_bad h1 (FD_C hP F1 (FC_t fm2 p3.2.1)) (GX_w (by omega) (GX_C G3 p3.2.2))
      · -- no test
        have ma : f_X12_amiss 227 X1 = X2 := by
          rw [bIF w22, m_must0 g1.2.2.1] at m1
          exact Option.some.inj m1
        rw [m_test3 g1 ⟨w0, w11, w22⟩ (by omega) (by omega) ma (BD_X b1.1), Option.bind_some]
        have h2 : BD 8 M2 (uI X2 232 (2540 + 9 * e + 6).toNat (zI (-1))) := BD_w b1.1
        have cg : f_X0_readTest n 8 P L M1 = some (zI 0, M2) := by
          unfold f_X0_readTest
          rw [show f_X9_skipWord n 8 (0 : Int32) M1 = _ from c0, Option.bind_some, if_pos (show zI 0 = 0 by decide), show f_X9_skipWord n 8 (11 : Int32) M1 = _ from c11, Option.bind_some, if_pos (show zI 0 = 0 by decide), show f_X9_takeWord n 8 (22 : Int32) M1 = _ from c1, Option.bind_some, if_pos (show zI 0 = 0 by decide)]
          rfl
        rw [xb_must (BD_X h2), sq_1 cs1 cg (Or.inr rfl)]
        exact hd_bad h2 (FD_C hP F1 b1.2.1) (GX_w (by omega) (GX_C fx1 b1.2.2))
