/-! ===== days: steps in steps ===== -/
def lpD (n P L : Nat) (w : Int) (M : KM) : Option (Int32 × KM) := lp_X0_readInto_19 n 8 P L (zI w) M (kF P)
/-- a step whole: read by both; the class's loop at N and w -/
def StG (T : Int → Int) (E : Int) (P L : Nat) (d e j : Int) (b : Int → Int) (s : Int) (N : Nat) (w : Int) (M X X' : KM) : Prop :=
  ∃ (t : Nat) (M' : KM) (b' : Int → Int) (s' k' j' v' e1 j1 : Int), GD T E 8 s' k' j' v' M' X' ∧ s + t ≤ s' ∧ s < s' ∧ DS P L d e1 j1 b' M' X' ∧ (∀ z, z < 2540 + 9 * e → b' z = b z) ∧ FD P j d M M' ∧ GX e X X' ∧ ONE M' P (dcB b') (3 - d).toNat e e1 j j1 ∧ lpD N P L w M = lpD (N - t) P L (w + t) M'
/-- a fault in it -/
def StB (P L : Nat) (d e j : Int) (N : Nat) (w : Int) (M X X' : KM) : Prop :=
  ∃ (M' : KM), BD 8 M' X' ∧ FD P j d M M' ∧ GX e X X' ∧ lpD N P L w M = some (zI 0, M')
/-- steps up to the end of their block -/
def LpG (T : Int → Int) (E : Int) (P L : Nat) (d e j : Int) (b : Int → Int) (s : Int) (N : Nat) (w : Int) (M X X' : KM) : Prop :=
  ∃ (t : Nat) (M' : KM) (b' : Int → Int) (s' k' v' e1 j1 : Int), GD T E 8 s' k' 24 v' M' X' ∧ s + t ≤ s' ∧ DS P L d e1 j1 b' M' X' ∧ (∀ z, z < 2540 + 9 * e → b' z = b z) ∧ FD P j d M M' ∧ GX e X X' ∧ (∃ m, PRB M' P (dcB b') m (3 - d).toNat e e1 j j1) ∧ lpD N P L w M = lpD (N - t) P L (w + t) M'
/-- what the reference's step must do at depth d -/
def StR (T : Int → Int) (E : Int) (P L : Nat) (d : Int) (r : Int32 → KM → Option KM) : Prop :=
  ∀ (M X : KM) (s k jj v e j w : Int) (b : Int → Int) (N : Nat), GD T E 8 s k jj v M X → DS P L d e j b M X → (1 ≤ d ∨ ¬ k = 0) → (1 ≤ d → ¬ jj = 24) → 0 ≤ w → w ≤ s → E - s + 1010 < N → ∃ X', r (zI d) X = some X' ∧ (StG T E P L d e j b s N w M X X' ∨ StB P L d e j N w M X X')
theorem DS_r {P L : Nat} {d e j : Int} {b : Int → Int} {M X : KM} (h : DS P L d e j b M X) : 0 ≤ d ∧ d ≤ 3 ∧ 0 ≤ e ∧ e ≤ 30 ∧ 0 ≤ j ∧ j + d ≤ 2 * e := by
  obtain ⟨a1, a2, a3, a4, a5, a6, a7, a8, a9, a10, a11, a12⟩ := h
  exact ⟨a6, a7, a8, a9, a10, a11⟩
theorem loop_rec {T : Int → Int} {E : Int} {P L : Nat} {d : Int} {r : Int32 → KM → Option KM} {w6 : Int32} (hE : 0 ≤ E ∧ E ≤ 300) (hd : 0 ≤ d ∧ d ≤ 2) (hr : StR T E P L (d + 1) r) : ∀ (m : Nat) (M X : KM) (s k jj v e j w : Int) (b : Int → Int) (c N : Nat), E - s ≤ m → m + 1 < c → GD T E 8 s k jj v M X → DS P L (d + 1) e j b M X → 0 ≤ w → w ≤ s → E - s + 1010 < N → ∃ X', (∀ κ, lp_X12_readStep_142 c r 227 (zI d) (zI 1) w6 X κ = κ X') ∧ (LpG T E P L (d + 1) e j b s N w M X X' ∨ StB P L (d + 1) e j N w M X X') := by
  intro m
  induction m with
  | zero =>
    intro M X s k jj v e j w b c N hm hc g hD u1 u2 u3
    obtain ⟨c, rfl⟩ : ∃ q, c = q + 1 := ⟨c - 1, by omega⟩
    have ss := SG_s g.2.1
    have k0 : k = 0 := by
      by_cases q : k = 0
      · exact q
      · have := ss.2.2.2.2.2.2.2.1 q; omega
    have jn : ¬ jj = 24 := fun h => by have := ss.2.2.2.2.2.2.2.2.2.2 (by omega); omega
    obtain ⟨X1, e1, e2⟩ := hr M X s k jj v e j w b N g hD (Or.inl (by omega)) (fun _ => jn) u1 u2 u3
    have hl : ∀ κ, lp_X12_readStep_142 (c + 1) r 227 (zI d) (zI 1) w6 X κ = lp_X12_readStep_142 c r 227 (zI d) (zI 1) w6 X1 κ := fun κ => by
      rw [lp_X12_readStep_142, if_neg (by decide), if_pos (by rw [g.2.2.1]; rfl), lt, m_isEnd g.2.1, bIF jn, if_pos (by decide), show (1 : Int32) = zI 1 from rfl, zadd, e1, Option.bind_some]
    rcases e2 with ⟨t, M1, b1, s1, k1, j1, v1, e1', jx, g1, l1, l1b, -⟩ | hb
    · have := SG_s g1.2.1
      omega
    · have hb2 := hb
      obtain ⟨M1, hB, -⟩ := hb2
      obtain ⟨c, rfl⟩ : ∃ q, c = q + 1 := ⟨c - 1, by omega⟩
      refine ⟨X1, fun κ => ?_, Or.inr hb⟩
      rw [hl, lp_X12_readStep_142, if_neg (by decide), if_neg (xb_12 (BD_X hB))]
  | succ m ih =>
    intro M X s k jj v e j w b c N hm hc g hD u1 u2 u3
    obtain ⟨c, rfl⟩ : ∃ q, c = q + 1 := ⟨c - 1, by omega⟩
    have ss := SG_s g.2.1
    by_cases jn : jj = 24
    · subst jn
      refine ⟨X, fun κ => ?_, Or.inl ⟨0, M, b, s, k, v, e, j, g, by omega, hD, fun _ _ => rfl, FD_r, GX_r, ⟨0, rfl, rfl⟩, by rw [show w + ((0 : Nat) : Int) = w by omega]; rfl⟩⟩
      rw [lp_X12_readStep_142, if_neg (by decide), if_pos (by rw [g.2.2.1]; rfl), lt, m_isEnd g.2.1, bIT rfl, if_neg (by decide)]
    · obtain ⟨X1, e1, e2⟩ := hr M X s k jj v e j w b N g hD (Or.inl (by omega)) (fun _ => jn) u1 u2 u3
      have hl : ∀ κ, lp_X12_readStep_142 (c + 1) r 227 (zI d) (zI 1) w6 X κ = lp_X12_readStep_142 c r 227 (zI d) (zI 1) w6 X1 κ := fun κ => by
        rw [lp_X12_readStep_142, if_neg (by decide), if_pos (by rw [g.2.2.1]; rfl), lt, m_isEnd g.2.1, bIF jn, if_pos (by decide), show (1 : Int32) = zI 1 from rfl, zadd, e1, Option.bind_some]
      rcases e2 with ⟨t1, M1, b1, s1, k1, j1, v1, f1, i1, g1, l1, l1b, D1, B1, F1, G1, O1, C1⟩ | hb
      · have sE := (SG_s g1.2.1).2.2.2.2.2.2.1
        obtain ⟨X2, h1, h2⟩ := ih M1 X1 s1 k1 j1 v1 f1 i1 (w + t1) b1 c (N - t1) (by omega) (by omega) g1 D1 (by omega) (by omega) (by omega)
        have lo := ONE_lt O1
        refine ⟨X2, fun κ => by rw [hl, h1], ?_⟩
        rcases h2 with ⟨t2, M2, b2, s2, k2, v2, f2, i2, g2, l2, D2, B2, F2, G2, ⟨q2, P2⟩, C2⟩ | ⟨M2, hB2, F2, G2, C2⟩
        · have r1 := DS_r D1
          have r0 := DS_r hD
          have O2 : ONE M2 P (dcB b2) (3 - (d + 1)).toNat e f1 j i1 := ONE_loc (fun a q u v w x => F2.2.1 a q u v (by omega)) (fun z u v => by rw [dc_at (by omega), dc_at (by omega)]; exact B2 _ (by omega)) (by rw [dc_lo (by omega), dc_lo (by omega)]; exact B2 0 (by omega)) (by rw [dc_lo (by omega), dc_lo (by omega)]; exact B2 2 (by omega)) (by omega) O1
          refine Or.inl ⟨t1 + t2, M2, b2, s2, k2, v2, f2, i2, g2, by omega, D2, fun z hz => by rw [B2 z (by omega), B1 z hz], FD_t (by omega) (Int.le_refl _) F1 F2, GX_t (by omega) G1 G2, PRB_cons O2 P2, ?_⟩
          rw [C1, C2, show N - t1 - t2 = N - (t1 + t2) by omega, show w + (t1 : Int) + (t2 : Int) = w + ((t1 + t2 : Nat) : Int) by omega]
        · exact Or.inr ⟨M2, hB2, FD_t (by omega) (Int.le_refl _) F1 F2, GX_t (by omega) G1 G2, by rw [C1, C2]⟩
      · have hb2 := hb
        obtain ⟨M1, hB, -⟩ := hb2
        obtain ⟨c, rfl⟩ : ∃ q, c = q + 1 := ⟨c - 1, by omega⟩
        refine ⟨X1, fun κ => ?_, Or.inr hb⟩
        rw [hl, lp_X12_readStep_142, if_neg (by decide), if_neg (xb_12 (BD_X hB))]
/-- the tail of a step behind a fault -/
theorem gTl_bad {r : Int32 → KM → Option KM} {n : Nat} {p q w : Int} {X1 X2 : KM} (hl : ∀ κ, lp_X12_readStep_142 n r 227 (zI p) (zI q) (zI w) X1 κ = κ X2) (hb : XB X2) (w0 : 0 ≤ w) (w1 : w + 8 < 2810) : gTl r n (zI p) (zI q) (zI w) X1 = some (uI X2 232 (w + 8).toNat (X2.1 227 27)) := by
  unfold gTl
  rw [hl]
  have e1 := fun x => xb_must (n := n) (p := x) hb
  by_cases c : zI q = (0 : Int32)
  · rw [lt, if_pos c]
    simp (disch := first | omega | assumption) only [↓lt, ↓reduceIte, zl, zadd, ixT, zidx]
  · rw [lt, if_neg c, lt, e1, Option.bind_some, lt, e1, Option.bind_some]
    simp (disch := first | omega | assumption) only [↓lt, ↓reduceIte, zl, zadd, ixT, zidx]
/-- the loop of a step without a block -/
theorem lp_none {r : Int32 → KM → Option KM} {n : Nat} {p w : Int32} {X : KM} {κ : KM → Option KM} (hn : 0 < n) : lp_X12_readStep_142 n r 227 p (zI 0) w X κ = κ X := by
  obtain ⟨n, rfl⟩ : ∃ q, n = q + 1 := ⟨n - 1, by omega⟩
  rw [lp_X12_readStep_142, if_pos (by decide)]
theorem lp_bad {r : Int32 → KM → Option KM} {n : Nat} {p q w : Int32} {X : KM} {κ : KM → Option KM} (hn : 0 < n) (hb : XB X) : lp_X12_readStep_142 n r 227 p q w X κ = κ X := by
  obtain ⟨n, rfl⟩ : ∃ q, n = q + 1 := ⟨n - 1, by omega⟩
  rw [lp_X12_readStep_142]
  by_cases c : q = 0
  · rw [if_pos c]
  · rw [if_neg c, if_neg (xb_12 hb)]
/-- no step can begin -/
theorem st_no0 {T : Int → Int} {E s k jj v : Int} {M X : KM} {P L n : Nat} {d e j w : Int} {b : Int → Int} {N : Nat} {R : Int32 → KM → Option KM} (hE : 0 ≤ E ∧ E ≤ 300) (hP : 11 < P) (g : GD T E 8 s k jj v M X) (hD : DS P L d e j b M X) (hk : 1 ≤ d ∨ ¬ k = 0) (hj : 1 ≤ d → ¬ jj = 24) (u1 : 0 ≤ w) (u2 : w ≤ s) (u3 : E - s + 1010 < N) (sw : stW jj = -1) : ∃ X', f_X12_readStep_G R n 227 (zI d) X = some X' ∧ StB P L d e j N w M X X' := by
  obtain ⟨-, -, s6, -, s7, s0, sE, sE2, k0, k4, jk⟩ := SG_s g.2.1
  have sj := SG_j g.2.1
  have hs := m_stepWord g.2.1
  have rr := DS_r hD
  obtain ⟨a1, a2, -⟩ := hD
  obtain ⟨M', Y, f1, f2, f3⟩ := fl_order g
  rw [sw] at hs
  refine ⟨Y, G_no hs f2 (BD_X f3.1), M', f3.1, FC_D hP f3.2.1, GC_G f3.2.2, ?_⟩
  obtain ⟨N, rfl⟩ : ∃ q, N = q + 1 := ⟨N - 1, by omega⟩
  show lp_X0_readInto_19 (N + 1) 8 P L (zI w) M (kF P) = _
  by_cases kz : k = 0
  · rw [c_iter0 (by rw [s6, kz])]
    unfold kF
    rw [a2, if_neg (by rw [show (0 : Int32) = zI 0 from rfl, zleF (by omega) (by omega) (by omega)]; exact id), lt, f1]
  · have sE3 := sE2 kz
    by_cases j24 : jj = 24
    · subst j24
      have dz : d = 0 := by
        by_cases z : 1 ≤ d
        · exact absurd rfl (hj z)
        · omega
      have re : f_X0_readEnd N 8 P M = some (zI 0, M') := by
        unfold f_X0_readEnd
        rw [dz] at a2
        simp (disch := first | omega | assumption) only [↓lt, ↓reduceIte, zl, a2, zleT, f1]
      rw [c_iterE s6 k0 k4 kz s7 u1 (by omega) re, if_pos (by decide)]
    · have re : f_X0_readStep N 8 P L M = some (zI 0, M') := by
        rw [c_stepNo s7 sj.1 sj.2 sw, f1]
      rw [c_iter s6 k0 k4 kz s7 sj.1 sj.2 j24 u1 (by omega) re, if_pos (by decide)]
theorem stW_r {j : Int} (j0 : -1 ≤ j) (j1 : j < 26) (h : ¬ stW j = -1) : 0 ≤ stW j ∧ stW j ≤ 8 ∧ 15 ≤ j ∧ ¬ j = 24 := by
  rcases stW_v j0 j1 with q | ⟨q, q2⟩ | ⟨q, q2⟩ | ⟨q, q2⟩ | ⟨q, q2⟩ | ⟨q, q2⟩ | ⟨q, q2⟩ | ⟨q, q2⟩ | ⟨q, q2⟩ | ⟨q, q2⟩
  · exact absurd q h
  all_goals (rw [q2, q]; decide)
theorem blk_r {q : Int} : blk q = 0 ∨ (blk q = 1 ∧ (q = 6 ∨ q = 7)) := by
  unfold blk
  by_cases z6 : q = 6
  · rw [if_pos z6]; exact Or.inr ⟨rfl, Or.inl z6⟩
  · rw [if_neg z6]
    by_cases z7 : q = 7
    · rw [if_pos z7]; exact Or.inr ⟨rfl, Or.inr z7⟩
    · rw [if_neg z7]; exact Or.inl rfl
/-- a step that may not begin -/
theorem st_no1 {T : Int → Int} {E s k jj v : Int} {M X : KM} {P L n : Nat} {d e j w : Int} {b : Int → Int} {N : Nat} {R : Int32 → KM → Option KM} (hE : 0 ≤ E ∧ E ≤ 300) (hP : 11 < P) (g : GD T E 8 s k jj v M X) (hD : DS P L d e j b M X) (u1 : 0 ≤ w) (u2 : w ≤ s) (u3 : E - s + 1010 < N) (sw : ¬ stW jj = -1) (hb : e = 30 ∨ (blk (stW jj) = 1 ∧ d = 3)) : ∃ X', f_X12_readStep_G R n 227 (zI d) X = some X' ∧ StB P L d e j N w M X X' := by
  obtain ⟨-, -, s6, -, s7, s0, sE, sE2, k0, k4, jk⟩ := SG_s g.2.1
  have sj := SG_j g.2.1
  have hs := m_stepWord g.2.1
  have rr := DS_r hD
  obtain ⟨a1, a2, a3, a4, -⟩ := hD
  have sr := stW_r sj.1 sj.2 sw
  have kz : ¬ k = 0 := by have := jk (by omega); omega
  have sE3 := sE2 kz
  obtain ⟨N, rfl⟩ : ∃ q, N = q + 1 := ⟨N - 1, by omega⟩
  by_cases e30 : e = 30
  · obtain ⟨M', Y, f1, f2, f3⟩ := fl_fail (f := 6) g (by omega) (by omega)
    refine ⟨Y, G_30 hs sr.1 sr.2.1 g.2.2.1 (by rw [a4, e30]) f2 (BD_X f3.1), M', f3.1, FC_D hP f3.2.1, GC_G f3.2.2, ?_⟩
    show lp_X0_readInto_19 (N + 1) 8 P L (zI w) M (kF P) = _
    rw [c_iter s6 k0 k4 kz s7 sj.1 sj.2 sr.2.2.2 u1 (by omega) (c_full s7 sj.1 sj.2 sr.1 (by rw [a3, e30]) f1), if_pos (by decide)]
  · have dd : blk (stW jj) = 1 ∧ d = 3 := by
      rcases hb with hb | hb
      · exact absurd hb e30
      · exact hb
    obtain ⟨M', Y, f1, f2, f3⟩ := fl_fail (f := 7) g (by omega) (by omega)
    have q67 : stW jj = 6 ∨ stW jj = 7 := by
      rcases blk_r (q := stW jj) with h | h
      · exfalso; have := dd.1; omega
      · exact h.2
    refine ⟨Y, ?_, M', f3.1, FC_D hP f3.2.1, GC_G f3.2.2, ?_⟩
    · rw [dd.2]; exact G_deep hs q67 g.2.2.1 a4 (by omega) (by omega) f2 (BD_X f3.1)
    · show lp_X0_readInto_19 (N + 1) 8 P L (zI w) M (kF P) = _
      rw [c_iter s6 k0 k4 kz s7 sj.1 sj.2 sr.2.2.2 u1 (by omega) (c_deep s7 sj.1 sj.2 dd.1 a3 (by omega) (by omega) (by rw [a2, dd.2]) f1), if_pos (by decide)]
