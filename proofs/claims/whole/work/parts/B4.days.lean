/-! ===== days: lead ===== -/
theorem z_ne1 {x : Int} (h0 : 0 ≤ x) (h1 : x < 2147483648) : ¬ zI x = (-1 : Int32) := by
  rw [show (-1 : Int32) = zI (-1) from rfl, zeqF (by omega) (by omega) (by omega) (by omega) (by omega)]
  exact id
theorem m_restLead {X : KM} {n : Nat} {w : Int} (w0 : 0 ≤ w) (w1 : w + 8 < 2810) (hX : X.1 232 w.toNat = zI 2) : f_X12_readRest n 227 (zI w) X = (f_X12_readTold n 227 (zI 0) (zI 1) X).bind fun v15 => (f_X12_readOther n 227 v15.1 (uI v15.2 232 (w + 1).toNat v15.1)).bind fun v11 => (f_X12_readTold n 227 (zI 0) (zI 0) (uI v11.2 232 (w + 3).toNat v11.1)).bind fun v5 => some (uI v5.2 232 (w + 2).toNat v5.1) := by
  unfold f_X12_readRest
  simp (disch := first | omega | assumption) only [↓lt, ↓reduceIte, zl, ixT, zidx, hX, zeqT, zeqF, zleF, zadd, uI_s]
theorem m_other_eq {X : KM} {n : Nat} {p : Int32} : f_X12_readOther n 227 p X = (f_X12_told n 227 (0 : Int32) (1 : Int32) X).bind fun (v1 : (Int32 × KM)) => if (v1.2.1 227 12) = 0 then (if p = v1.1 then (f_X12_must n 227 (1 : Int32) (f_X12_fail 227 (5 : Int32) (v1.2.1 227 15) v1.2)).bind (fun v3 => some (v1.1, v3)) else (f_X12_must n 227 (1 : Int32) v1.2).bind (fun v3 => some (v1.1, v3))) else (f_X12_must n 227 (1 : Int32) v1.2).bind (fun v3 => some (v1.1, v3)) := rfl
theorem xb_12 {X : KM} (h : XB X) : ¬ X.1 227 12 = (0 : Int32) := by
  obtain ⟨f, f1, f2, f3⟩ := h
  rw [f3, show (0 : Int32) = zI 0 from rfl, zeqF (by omega) (by omega) (by omega) (by omega) (by omega)]
  exact id
theorem xb_other {X : KM} {n : Nat} {p : Int32} (h : XB X) : f_X12_readOther n 227 p X = some (zI 0, X) := by
  rw [m_other_eq, xb_told h, Option.bind_some, if_neg (xb_12 h), xb_must h]
  rfl
theorem hd_lead {T : Int → Int} {E s k jj v : Int} {M X : KM} {P L n m : Nat} {d e j : Int} {b : Int → Int} (hE : 0 ≤ E ∧ E ≤ 900) (hP : 11 < P) (hL : 23 ≤ L) (hPL : P + 6 ≤ L ∨ L + 8 ≤ P) (g : GD T E 8 s k jj v M X) (hk : ¬ k = 0) (hD : DS P L d e j b M X) (he : e < 30) (hn : 1000 < n) (hm : 1000 < m) :
    HR T E P L d e j b s M X 0 (sq (f_X0_start n 8 P) (f_X0_readLead n 8 P L) M) (sgB m (zI 2) X) := by
  have hD2 := hD
  obtain ⟨d1, d2, d3, d4, d5, d6, d7, d8, d9, d10, d11, d12⟩ := hD2
  obtain ⟨M1, X1, s1, k1, j1, v1, e1, g1, l1, fm1, fx1, r1, t1, n1, mo⟩ := head0 (q := 2) hE hP hL g hk hD he hn hm
  have x1 : X1.1 232 (2540 + 9 * e).toNat = zI 2 := by
    have := r1 (2540 + 9 * e).toNat
    rw [Int.toNat_of_nonneg (by omega), bu_s] at this
    exact this
  have cs1 := c_dstart (n := n) (P := P) d3 d8 he e1
  have hn0 := n1.1
  rw [mo, m_restLead (by omega) (by omega) x1]
  -- the tail behind the second of the people, at a fault
  have bad3 : ∀ (M' Y : KM) (y : Int32), f_X0_readLead n 8 P L M1 = some (zI 0, M') → FC 8 M M' → GX e X Y → BD 8 M' Y → HR T E P L d e j b s M X 0 (sq (f_X0_start n 8 P) (f_X0_readLead n 8 P L) M) (((f_X12_readTold m 227 (zI 0) (zI 0) (uI Y 232 (2540 + 9 * e + 3).toNat y)).bind fun v5 => some (uI v5.2 232 (2540 + 9 * e + 2).toNat v5.1)).bind fun v11 => f_X12_must m 227 (f_X12_isSign 227 (59 : Int32) v11) v11) := fun M' Y y hc fm gx hb => by
    have h1 : BD 8 M' (uI Y 232 (2540 + 9 * e + 3).toNat y) := BD_w hb
    have h2 : BD 8 M' (uI (uI Y 232 (2540 + 9 * e + 3).toNat y) 232 (2540 + 9 * e + 2).toNat (zI 0)) := BD_w h1
    rw [xb_readTold (BD_X h1), Option.bind_some, Option.bind_some, xb_must (BD_X h2), sq_1 cs1 hc (Or.inr rfl)]
    exact hd_bad h2 (FC_D hP fm) (GX_w (by omega) (GX_w (by omega) gx))
  rcases j_person2 (n := n) (m := m) (B := 0) (Or.inr rfl) hE g1 (by omega) n1 hn hm with ⟨M2, X2, p, px, py, p1, p2, p3, s2, k2, j2, v2, g2, l2, -, fm2, fx2⟩ | ⟨M2, X2, p1, p2, p3⟩
  · rw [m_readTold1 g1.2.2.1 p2 p3, Option.bind_some]
    have fm2' := FC_t fm1 fm2
    have g3 : GD T E 8 s2 k2 j2 v2 M2 (uI X2 232 (2540 + 9 * e + 1).toNat (zI p)) := GD_of (M := M2) (X := X2) (fun _ _ _ => rfl) (fun _ _ _ => rfl) rfl (fun c i w => uI_o (by omega)) rfl g2
    have n3 : NA L 0 (b 0) (b 2) M2 (uI X2 232 (2540 + 9 * e + 1).toNat (zI p)) := NA_of (by omega) (fun i => fm2.1 _ _ (by omega)) (fun c i u w => fm2.2.1 _ _ (by omega)) (fun i u w => by rw [uI_o (by omega), fx2.1 _ _ (by omega)]) (fun i => fx2.2.1 _ _ (by omega)) n1
    have r3 := row_bu (e := 2540 + 9 * e + 1) (v := p) (by omega) (nx_row (e := 0) fx2 r1)
    have t3 : (uI X2 232 (2540 + 9 * e + 1).toNat (zI p)).1 227 27 = zI (e + 1) := by rw [uI_o (by omega), fx2.1 _ _ (by omega)]; exact t1
    have G3 : GX e X (uI X2 232 (2540 + 9 * e + 1).toNat (zI p)) := GX_w (by omega) (GX_C fx1 fx2)
    show HR T E P L d e j b s M X 0 _ (((f_X12_readOther m 227 (zI p) (uI X2 232 (2540 + 9 * e + 1).toNat (zI p))).bind _).bind _)
    generalize (uI X2 232 (2540 + 9 * e + 1).toNat (zI p)) = X3 at *
    rw [m_other_eq]
    show HR T E P L d e j b s M X 0 _ ((((f_X12_told m 227 (zI 0) (zI 1) X3).bind _).bind _).bind _)
    rcases j_person2 (n := n) (m := m) (B := 0) (Or.inr rfl) hE g3 (by omega) n3 hn hm with ⟨M4, X4, q, qx, qy, q1, q2, q3, s4, k4, j4, v4, g4, l4, t4, fm4, fx4⟩ | ⟨M4, X4, q1, q2, q3⟩
    · rw [q2, Option.bind_some, if_pos (show X3.1 227 12 = 0 from g3.2.2.1)]
      have fm4' := FC_t fm2' fm4
      by_cases pq : p = q
      · -- the same twice
        obtain ⟨N, Y, f1, f2, f3⟩ := fl_taken (f := 5) g3 (M' := M4) t4 (by omega) (by omega)
        rw [if_pos (by rw [pq]), show f_X12_fail 227 (5 : Int32) (X3.1 227 15) X3 = Y from f2, show f_X12_must m 227 (1 : Int32) Y = _ from xb_must (BD_X f3.1), Option.bind_some, Option.bind_some]
        refine bad3 N Y _ ?_ (FC_t fm4' f3.2.1) (GX_C G3 f3.2.2) f3.1
        unfold f_X0_readLead
        rw [p1, Option.bind_some, lt]
        simp only
        rw [if_neg (z_ne1 (by omega) (by omega)), q1, Option.bind_some]
        simp only
        rw [if_neg (z_ne1 (by omega) (by omega)), if_pos (by rw [pq]), show f_X9_failTaken 8 (5 : Int32) M4 = _ from f1]
        rfl
      · rw [if_neg (by rw [zeqF pq (by omega) (by omega) (by omega) (by omega)]; exact id), show f_X12_must m 227 (1 : Int32) X3 = some X4 from m_must1 g3.2.2.1 q3, Option.bind_some, Option.bind_some]
        have g5 : GD T E 8 s4 k4 j4 v4 M4 (uI X4 232 (2540 + 9 * e + 3).toNat (zI q)) := GD_of (M := M4) (X := X4) (fun _ _ _ => rfl) (fun _ _ _ => rfl) rfl (fun c i w => uI_o (by omega)) rfl g4
        have n5 : NA L 0 (b 0) (b 2) M4 (uI X4 232 (2540 + 9 * e + 3).toNat (zI q)) := NA_of (by omega) (fun i => fm4.1 _ _ (by omega)) (fun c i u w => fm4.2.1 _ _ (by omega)) (fun i u w => by rw [uI_o (by omega), fx4.1 _ _ (by omega)]) (fun i => fx4.2.1 _ _ (by omega)) n3
        have r5 := row_bu (e := 2540 + 9 * e + 3) (v := q) (by omega) (nx_row (e := 0) fx4 r3)
        have t5 : (uI X4 232 (2540 + 9 * e + 3).toNat (zI q)).1 227 27 = zI (e + 1) := by rw [uI_o (by omega), fx4.1 _ _ (by omega)]; exact t3
        have G5 : GX e X (uI X4 232 (2540 + 9 * e + 3).toNat (zI q)) := GX_w (by omega) (GX_C G3 fx4)
        show HR T E P L d e j b s M X 0 _ (((f_X12_readTold m 227 (zI 0) (zI 0) (uI X4 232 (2540 + 9 * e + 3).toNat (zI q))).bind _).bind _)
        generalize (uI X4 232 (2540 + 9 * e + 3).toNat (zI q)) = X5 at *
        rcases j_place2 (n := n) (m := m) (B := 0) (Or.inr rfl) hE g5 (by omega) n5 hn hm with ⟨M6, X6, y, yx, yy, y1, y2, y3, s6, k6, j6, v6, g6, l6, -, fm6, fx6⟩ | ⟨M6, X6, y1, y2, y3⟩
        · rw [m_readTold1 g5.2.2.1 y2 y3, Option.bind_some, Option.bind_some]
          have fm6' := FC_t fm4' fm6
          have g7 : GD T E 8 s6 k6 j6 v6 M6 (uI X6 232 (2540 + 9 * e + 2).toNat (zI y)) := GD_of (M := M6) (X := X6) (fun _ _ _ => rfl) (fun _ _ _ => rfl) rfl (fun c i w => uI_o (by omega)) rfl g6
          obtain ⟨r, M', a1, a2, a3⟩ := hd_fin (d := d) (e := e) (j := j) (P := P) (L := L) (M := M) (X := X) (s := s) (k := 0) (q := 2) (x := p) (y := q) (z := y) (n := n) (m := m) (b := b) hE hP hL hPL (by omega) (by omega) ⟨d10, by omega⟩ g7 (by omega) (row_bu (e := 2540 + 9 * e + 2) (v := y) (by omega) (nx_row (e := 0) fx6 r5)) (fun z hz => by rw [bu_o (by omega), bu_o (by omega), bu_o (by omega), bu_o (by omega)]) (by rw [fm6'.1 _ _ (by omega)]; exact d5) (by rw [fm6'.1 _ _ (by omega)]; exact d3) (by rw [uI_o (by omega), fx6.1 _ _ (by omega)]; exact t5) (by rw [fm6'.1 _ _ (by omega), d2]; congr 1; omega) (NA_of (by omega) (fun i => fm6.1 _ _ (by omega)) (fun c i u w => fm6.2.1 _ _ (by omega)) (fun i u w => by rw [uI_o (by omega), fx6.1 _ _ (by omega)]) (fun i => fx6.2.1 _ _ (by omega)) n5) (fun h => by omega) (FC_D hP fm6') (GX_w (by omega) (GX_C G5 fx6)) (by omega) (by omega) (fun M' f1 f2 f3 f4 => Or.inl ⟨rfl, by
            unfold PSt
            rw [dc_at (by omega), show 2248 + (292 + 9 * e) = 2540 + 9 * e by omega, dc_at (show 290 ≤ 292 + 9 * e + 1 by omega), show 2248 + (292 + 9 * e + 1) = 2540 + 9 * e + 1 by omega, dc_at (show 290 ≤ 292 + 9 * e + 2 by omega), show 2248 + (292 + 9 * e + 2) = 2540 + 9 * e + 2 by omega, dc_at (show 290 ≤ 292 + 9 * e + 3 by omega), show 2248 + (292 + 9 * e + 3) = 2540 + 9 * e + 3 by omega, dc_lo (by omega), dc_lo (by omega)]
            simp (disch := omega) only [bu_s, bu_o]
            exact Or.inr (Or.inr (Or.inl ⟨trivial, f1, f2, f3, f4, px, py, qx, qy, pq, yx, yy⟩))⟩) hn hm
          have cg : f_X0_readLead n 8 P L M1 = some (r, M') := by
            unfold f_X0_readLead
            rw [p1, Option.bind_some, lt]
            simp only
            rw [if_neg (z_ne1 (by omega) (by omega)), q1, Option.bind_some]
            simp only
            rw [if_neg (z_ne1 (by omega) (by omega)), if_neg (by rw [zeqF pq (by omega) (by omega) (by omega) (by omega)]; exact id), y1, Option.bind_some]
            simp only
            rw [if_neg (z_ne1 (by omega) (by omega)), show f_X0_addStep n 8 P (2 : Int32) (zI p) (zI q) (zI y) M6 = _ from a1, Option.bind_some]
            rcases a2 with a2 | a2
            · rw [a2, if_neg (show ¬ zI 1 = 0 by decide)]; rfl
            · rw [a2, if_pos (show zI 0 = 0 by decide)]; rfl
          rw [sq_1 cs1 cg a2]
          exact a3
        · rw [m_readTold0 y2 (BD_X y3.1), Option.bind_some, Option.bind_some]
          have h2 : BD 8 M6 (uI X6 232 (2540 + 9 * e + 2).toNat (zI 0)) := BD_w y3.1
          have cg : f_X0_readLead n 8 P L M1 = some (zI 0, M6) := by
            unfold f_X0_readLead
            rw [p1, Option.bind_some, lt]
            simp only
            rw [if_neg (z_ne1 (by omega) (by omega)), q1, Option.bind_some]
            simp only
            rw [if_neg (z_ne1 (by omega) (by omega)), if_neg (by rw [zeqF pq (by omega) (by omega) (by omega) (by omega)]; exact id), y1, Option.bind_some]
            simp only
            rw [if_pos (by decide)]
            rfl
          rw [xb_must (BD_X h2), sq_1 cs1 cg (Or.inr rfl)]
          exact hd_bad h2 (FC_D hP (FC_t fm4' y3.2.1)) (GX_w (by omega) (GX_C G5 y3.2.2))
    · have xb := BD_X q3.1
      rw [q2, Option.bind_some, if_neg (xb_12 xb), xb_must xb, Option.bind_some, Option.bind_some]
      refine bad3 M4 X4 _ ?_ (FC_t fm2' q3.2.1) (GX_C G3 q3.2.2) q3.1
      unfold f_X0_readLead
      rw [p1, Option.bind_some, lt]
      simp only
      rw [if_neg (z_ne1 (by omega) (by omega)), q1, Option.bind_some]
      simp only
      rw [if_pos (by decide)]
      rfl
  · have xb := BD_X p3.1
    have h1 : BD 8 M2 (uI X2 232 (2540 + 9 * e + 1).toNat (zI 0)) := BD_w p3.1
    rw [m_readTold0 p2 xb, Option.bind_some]
    show HR T E P L d e j b s M X 0 _ (((f_X12_readOther m 227 (zI 0) (uI X2 232 (2540 + 9 * e + 1).toNat (zI 0))).bind _).bind _)
    rw [xb_other (BD_X h1), Option.bind_some]
    refine bad3 M2 _ _ ?_ (FC_t fm1 p3.2.1) (GX_w (by omega) (GX_C fx1 p3.2.2)) h1
    unfold f_X0_readLead
    rw [p1, Option.bind_some, lt]
    simp only
    rw [if_pos (by decide), if_pos (by decide)]
    rfl
