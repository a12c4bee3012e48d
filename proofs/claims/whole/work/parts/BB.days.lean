/-! ===== days: a step, whole ===== -/
theorem st_yes {T : Int → Int} {E s k jj v : Int} {M X : KM} {P L n : Nat} {d e j w : Int} {b : Int → Int} {N : Nat} {R : Int32 → KM → Option KM} (hE : 0 ≤ E ∧ E ≤ 300) (hP : 11 < P) (hL : 23 ≤ L) (hPL : P + 6 ≤ L ∨ L + 8 ≤ P) (hn : 1400 < n) (g : GD T E 8 s k jj v M X) (hD : DS P L d e j b M X) (u1 : 0 ≤ w) (u2 : w ≤ s) (u3 : E - s + 1010 < N) (sw : ¬ stW jj = -1) (e30 : ¬ e = 30) (dd : blk (stW jj) = 1 → d < 3) (hr : blk (stW jj) = 1 → StR T E P L (d + 1) R) : ∃ X', f_X12_readStep_G R n 227 (zI d) X = some X' ∧ (StG T E P L d e j b s N w M X X' ∨ StB P L d e j N w M X X') := by
  obtain ⟨-, -, s6, -, s7, s0, sE, sE2, k0, k4, jk⟩ := SG_s g.2.1
  have sj := SG_j g.2.1
  have hs := m_stepWord g.2.1
  have rr := DS_r hD
  have sr := stW_r sj.1 sj.2 sw
  have kz : ¬ k = 0 := by have := jk (by omega); omega
  have sE3 := sE2 kz
  have a4 : X.1 227 27 = zI e := hD.2.2.2.1
  obtain ⟨N, rfl⟩ : ∃ q, N = q + 1 := ⟨N - 1, by omega⟩
  have gg := G_go (r := R) (n := n) (p := d) hs sr.1 sr.2.1 g.2.2.1 a4 (by omega) (by omega) (fun h => by have := dd h; omega) (by omega) (by omega)
  obtain ⟨r, M1, X1, h1, h2, F1, G1, h3⟩ := hd_any (n := N) (m := n) (by omega) hP hL hPL g hD (by omega) sr.1 dd (by omega) (by omega)
  have c27 : (2540 : Int32) + ((9 : Int32) * (X.1 227 27)) = zI (2540 + 9 * e) := by
    rw [a4, show (2540 : Int32) = zI 2540 from rfl, show (9 : Int32) = zI 9 from rfl, zmul, zadd]
  rw [gg, gW_eq h2, c27]
  have cl : lpD (N + 1) P L w M = if r = 0 then some (zI 0, M1) else lpD N P L (w + 1) M1 := c_iter s6 k0 k4 kz s7 sj.1 sj.2 sr.2.2.2 u1 (by omega) h1
  rcases h3 with ⟨r1, b1, s1, k1, j1, v1, g1, l1, D1, B1, O1, O2⟩ | ⟨r0, hB⟩
  · rw [r1, if_neg (by decide)] at cl
    have rr1 := DS_r D1
    rcases O2 with ⟨k0b, O2⟩ | ⟨k1b, O2, O3⟩
    · -- no block
      rw [k0b] at D1 rr1 ⊢
      have x27 : X1.1 227 27 = zI (e + 1) := D1.2.2.2.1
      refine ⟨uI X1 232 (2540 + 9 * e + 8).toNat (zI (e + 1)), ?_, Or.inl ⟨1, M1, bu b1 (2540 + 9 * e + 8) (e + 1), s1, k1, j1, v1, e + 1, j + 1, ?_, by omega, l1, ?_, fun z hz => ?_, F1, GX_w (by omega) G1, Or.inl ⟨rfl, rfl, ?_, O1, ?_⟩, ?_⟩⟩
      · unfold gTl
        rw [lp_none (by omega), lt, if_pos (by decide)]
        simp (disch := first | omega | assumption) only [↓lt, ↓reduceIte, zl, zadd, ixT, zidx, x27]
      · exact GD_of (M := M1) (X := X1) (fun _ _ _ => rfl) (fun _ _ _ => rfl) rfl (fun c i w => uI_o (by omega)) rfl g1
      · obtain ⟨q1, q2, q3, q4, q5, q6, q7, q8, q9, q10, q11, q12⟩ := D1
        refine ⟨row_bu (by omega) q1, by rw [q2]; congr 1; omega, q3, by rw [uI_o (by omega)]; exact q4, q5, by omega, by omega, q8, q9, q10, by omega, ?_⟩
        rw [bu_o (by omega), bu_o (by omega)]
        exact NA_of (M := M1) (X := X1) (by omega) (fun _ => rfl) (fun _ _ _ _ => rfl) (fun i u w => uI_o (by omega)) (fun _ => rfl) q12
      · rw [bu_o (by omega)]; exact B1 z hz
      · exact PSt_loc (M := M1) (c := dcB b1) (fun _ _ _ => rfl) (fun z u v => by
          rw [dc_at (by omega), dc_at (by omega), bu_o (by omega)]) (by rw [dc_lo (by omega), dc_lo (by omega), bu_o (by omega)]) (by rw [dc_lo (by omega), dc_lo (by omega), bu_o (by omega)]) O2
      · rw [dc_at (by omega), show 2248 + (292 + 9 * e + 8) = 2540 + 9 * e + 8 by omega, bu_s]
      · rw [cl]; rfl
    · -- a block
      rw [k1b] at D1 rr1 ⊢
      have d3 := dd k1b
      obtain ⟨X2, hl, hg⟩ := loop_rec (w6 := zI (2540 + 9 * e)) hE (by omega) (hr k1b) 300 M1 X1 s1 k1 j1 v1 (e + 1) (j + 1) (w + 1) b1 n N (by omega) (by omega) g1 D1 (by omega) (by omega) (by omega)
      rcases hg with ⟨t, M2, b2, s2, k2, v2, e2, j2, g2, l2, D2, B2, F2, G2, ⟨q2, P2⟩, C2⟩ | ⟨M2, hB2, F2, G2, C2⟩
      · -- up to its end
        have rr2 := DS_r D2
        have pl := PRB_le _ _ _ _ _ _ P2
        obtain ⟨-, -, z6, -, z7, y0, yE, yE2, y5, y6, yk⟩ := SG_s g2.2.1
        have k2n : ¬ k2 = 0 := by have := yk (by omega); omega
        have y2E := yE2 k2n
        have m11 : M2.1 11 (d + 1 - 1).toNat = zI j := by
          rw [show (d + 1 - 1).toNat = d.toNat by omega, F2.1 11 _ (by omega) (by omega) (by omega)]; exact O3
        obtain ⟨nn, hnn⟩ : ∃ q, N - t = q + 1 := ⟨N - t - 1, by omega⟩
        obtain ⟨X3, M3, X4, f1, f2, f3, f4, f5, f6, f7, f8, f9, f10⟩ := j_end (n := nn) (m := n) (e := e2) (by omega) hP g2 D2.2.2.2.2.1 D2.2.1 m11 (by omega) (by omega) (by omega) (by omega) (by omega) (by omega) (by omega)
        have x27 : X4.1 227 27 = zI e2 := by rw [f9.1 _ _ (by omega)]; exact D2.2.2.2.1
        have mo : gTl R n (zI d) (zI 1) (zI (2540 + 9 * e)) X1 = some (uI X4 232 (2540 + 9 * e + 8).toNat (zI e2)) := by
          unfold gTl
          rw [hl, lt, if_neg (by decide), lt, m_isEnd g2.2.1, bIT rfl, f1, Option.bind_some, lt, show f_X12_must n 227 (f_X12_isSign 227 (59 : Int32) X3) X3 = _ from f2, Option.bind_some]
          simp (disch := first | omega | assumption) only [↓lt, ↓reduceIte, zl, zadd, ixT, zidx, x27]
        have F13 : FD P j d M M3 := by
          have h := FD_t (j' := j + 1) (d' := d + 1) (by omega) (by omega) F1 F2
          refine ⟨fun c i a q r => ?_, fun c i a q r => ?_, fun i a => ?_, fun i a q => ?_, fun c i a => ?_, ?_⟩
          · rw [f3 c i a q]; exact h.1 c i a q r
          · rw [f4 c i a q (by omega) (by omega)]; exact h.2.1 c i a q r
          · rw [f5 i a]; exact h.2.2.1 i a
          · rw [f6 i a]; exact h.2.2.2.1 i a q
          · rw [f7 c i a]; exact h.2.2.2.2.1 c i a
          · rw [f8]; exact h.2.2.2.2.2
        have G14 : GX e X (uI X4 232 (2540 + 9 * e + 8).toNat (zI e2)) := GX_w (by omega) (GX_C (GX_t (by omega) G1 G2) f9)
        have cl2 : ∀ r, f_X0_readEnd nn 8 P M2 = some (r, M3) → lpD (N + 1) P L w M = if r = 0 then some (zI 0, M3) else lpD nn P L (w + 1 + t + 1) M3 := fun r h => by
          rw [cl, C2, hnn]
          exact c_iterE z6 y5 y6 k2n z7 (by omega) (by omega) h
        refine ⟨_, mo, ?_⟩
        rcases f10 with ⟨h1, s3, k3, j3, v3, g3, l3, q13, q5, qk, qi, qj⟩ | ⟨h1, hB3⟩
        · have c3 := cl2 _ h1
          rw [if_neg (by decide)] at c3
          have bb : ∀ z, ¬ z = 2540 + 9 * e + 8 → z < 2540 + 9 * (e + 1) → bu b2 (2540 + 9 * e + 8) e2 z = b1 z := fun z h1 h2 => by rw [bu_o h1]; exact B2 z h2
          refine Or.inl ⟨t + 2, M3, bu b2 (2540 + 9 * e + 8) e2, s3, k3, j3, v3, e2, j2 + 1, ?_, by omega, by omega, ?_, fun z hz => ?_, F13, G14, Or.inr ⟨by omega, j2, q2, rfl, by omega, by omega, ?_, qi, qk, qj, ?_, ?_⟩, ?_⟩
          · exact GD_of (M := M3) (X := X4) (fun _ _ _ => rfl) (fun _ _ _ => rfl) rfl (fun c i w => uI_o (by omega)) rfl g3
          · obtain ⟨a1, a2, a3, a4, a5, a6, a7, a8, a9, a10, a11, a12⟩ := D2
            refine ⟨row_bu (by omega) (fun i => by rw [f9.1 _ _ (by omega)]; exact a1 i), by rw [q13]; congr 1; omega, by rw [f6 _ (by omega)]; exact a3, by rw [uI_o (by omega)]; exact x27, q5, by omega, by omega, a8, a9, by omega, by omega, ?_⟩
            rw [bu_o (by omega), bu_o (by omega)]
            exact NA_of (M := M2) (X := X2) (by omega) (fun i => f3 _ _ (by omega) (by omega)) (fun c i u w => f7 _ _ (by omega)) (fun i u w => by rw [uI_o (by omega), f9.1 _ _ (by omega)]) (fun i => f9.2.1 _ _ (by omega)) a12
          · rw [bb z (by omega) (by omega)]; exact B1 z hz
          · refine PBl_loc (M := M1) (c := dcB b1) (fun a u v => ?_) (fun z u v => ?_) ?_ ?_ O2
            · rw [f4 a _ u (by omega) (by omega) (by omega), F2.2.1 a _ u (by omega) (by omega)]
            · rw [dc_at (by omega), dc_at (by omega)]; exact bb _ (by omega) (by omega)
            · rw [dc_lo (by omega), dc_lo (by omega)]; exact bb _ (by omega) (by omega)
            · rw [dc_lo (by omega), dc_lo (by omega)]; exact bb _ (by omega) (by omega)
          · rw [dc_at (by omega), show 2248 + (292 + 9 * e + 8) = 2540 + 9 * e + 8 by omega, bu_s]
          · rw [show (3 - d).toNat - 1 = (3 - (d + 1)).toNat by omega]
            refine PRB_loc (M := M2) (c := dcB b2) (s0 := e + 1) (e0 := e2) (i0 := j + 1) (j0 := j2) (fun a q u v x y => f4 a q u v y (by omega)) (fun z u v => ?_) ?_ ?_ (by omega) q2 _ _ _ _ _ (by omega) (by omega) (by omega) (by omega) P2
            · rw [dc_at (by omega), dc_at (by omega), bu_o (by omega)]
            · rw [dc_lo (by omega), dc_lo (by omega), bu_o (by omega)]
            · rw [dc_lo (by omega), dc_lo (by omega), bu_o (by omega)]
          · rw [c3, show N + 1 - (t + 2) = nn by omega, show w + 1 + (t : Int) + 1 = w + ((t + 2 : Nat) : Int) by omega]
        · have c3 := cl2 _ h1
          rw [if_pos (by decide)] at c3
          exact Or.inr ⟨M3, BD_w hB3, F13, G14, c3⟩
      · -- a fault in it
        refine ⟨uI X2 232 (2540 + 9 * e + 8).toNat (X2.1 227 27), gTl_bad hl (BD_X hB2) (by omega) (by omega), Or.inr ⟨M2, BD_w hB2, FD_t (by omega) (by omega) F1 F2, GX_w (by omega) (GX_t (by omega) G1 G2), by rw [cl, C2]⟩⟩
  · rw [r0, if_pos (by decide)] at cl
    exact ⟨_, gTl_bad (fun κ => lp_bad (by omega) (BD_X hB)) (BD_X hB) (by omega) (by omega), Or.inr ⟨M1, BD_w hB, F1, GX_w (by omega) G1, cl⟩⟩
theorem rs_step {T : Int → Int} {E : Int} {P L n : Nat} (hE : 0 ≤ E ∧ E ≤ 300) (hP : 11 < P) (hL : 23 ≤ L) (hPL : P + 6 ≤ L ∨ L + 8 ≤ P) (hn : 1400 < n) : ∀ (q : Nat) (d : Int), 0 ≤ d → d ≤ 3 → 4 ≤ q + d → StR T E P L d (fun p M => rs_X12 q n 227 p M) := by
  intro q
  induction q with
  | zero => intro d d0 d3 h; exfalso; omega
  | succ q ih =>
    intro d d0 d3 hq M X s k jj v e j w b N g hD hk hj u1 u2 u3
    show ∃ X', f_X12_readStep_G (fun p M => rs_X12 q n 227 p M) n 227 (zI d) X = some X' ∧ _
    by_cases sw : stW jj = -1
    · obtain ⟨X', h1, h2⟩ := st_no0 (R := fun p M => rs_X12 q n 227 p M) (n := n) hE hP g hD hk hj u1 u2 u3 sw
      exact ⟨X', h1, Or.inr h2⟩
    · by_cases hb : e = 30 ∨ (blk (stW jj) = 1 ∧ d = 3)
      · obtain ⟨X', h1, h2⟩ := st_no1 (R := fun p M => rs_X12 q n 227 p M) (n := n) hE hP g hD u1 u2 u3 sw hb
        exact ⟨X', h1, Or.inr h2⟩
      · exact st_yes hE hP hL hPL hn g hD u1 u2 u3 sw (by omega) (fun h => by omega) (fun h => ih (d + 1) (by omega) (by omega) (by omega))
