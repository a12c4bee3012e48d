/-! ===== the seven rounds ===== -/
theorem ex_e {S : KM → Prop} {e r : Option Int32} {K : KM → Option Int32} (h1 : ∃ Z, S Z ∧ e = K Z) (h2 : ∀ Z, S Z → K Z = r) : e = r := by
  obtain ⟨Z, z1, z2⟩ := h1
  rw [z2]
  exact h2 Z z1
theorem ex_d {K : Int32 → Option Int32} {B : (Int32 → Option Int32) → Option Int32} {r : Option Int32} (h1 : ∀ D, K D = r) (h2 : ∀ K' : Int32 → Option Int32, (∀ D, K' D = r) → B K' = r) : lt K B = r := h2 K h1
theorem ex_m {S : KM → Prop} {K : KM → Option Int32} {B : (KM → Option Int32) → Option Int32} {r : Option Int32} (h1 : ∀ Z, S Z → K Z = r) (h2 : ∀ K' : KM → Option Int32, (∀ Z, S Z → K' Z = r) → B K' = r) : lt K B = r := h2 K h1
theorem lT_sz {b : Int → Int} {N : Int} (hb : WB b) (h1 : 0 ≤ N) (h2 : N ≤ 300000) : lT b N ≤ N * cdB (fun i => decide (0 ≤ b (66 + i)) && decide (i < b 2)) := by
  have h : ∀ q, 0 ≤ q → (if goQ b q then LO b N q else 0) ≤ N * (if (decide (0 ≤ b (66 + q)) && decide (q < b 2)) = true then 1 else 0) := fun q q0 => by
    by_cases g : goQ b q
    · rw [if_pos g, if_pos (by rw [decide_eq_true g.2.2, decide_eq_true g.2.1]; rfl), Int.mul_one]
      exact (LO_r hb h1 h2 g).2
    · rw [if_neg g, if_neg (fun z => g (by
        rw [Bool.and_eq_true] at z
        exact ⟨q0, of_decide_eq_true z.2, of_decide_eq_true z.1⟩)), Int.mul_zero]
      exact Int.le_refl _
  have a0 := h 0 (by omega)
  have a1 := h 1 (by omega)
  have a2 := h 2 (by omega)
  have a3 := h 3 (by omega)
  have a4 := h 4 (by omega)
  have a5 := h 5 (by omega)
  have a6 := h 6 (by omega)
  have a7 := h 7 (by omega)
  unfold lT cdB
  rw [sum8, sum8]
  simp only [Int.mul_add]
  omega
theorem lost_c {b : Int → Int} {N : Int} (hb : WB b) : sumB (fun q => cI b N (90 + q)) (b 2) = sumB (fun q => b (90 + q)) (b 2) + lT b N := by
  have hh := hb.1
  unfold WH at hh
  have e : lT b N = sumB (fun q => if goQ b q then LO b N q else 0) (b 2) := (sumB_z (by omega) (by omega) (fun j j1 j2 => if_neg (fun z => by have := z.2.1; omega))).symm
  rw [e]
  refine sumB_add (fun q q1 q2 => ?_)
  by_cases g : goQ b q
  · rw [if_pos g]; exact cI_90 q1 (by omega) g
  · rw [if_neg g]
    have f := cI_f (b := b) (n := N) (q := q) (j := 4) q1 (by omega) (by omega) (by omega)
    rw [cF_g0 g, show 58 + 8 * 4 + q = 90 + q by omega] at f
    omega
theorem np_r {b : Int → Int} (hb : WB b) : 0 ≤ npB b ∧ npB b ≤ 8 := by
  have hh := hb.1
  unfold WH at hh
  have h := sumB_r (f := fun p => if sgt b p ∧ ¬ pmB b p = -1 then 1 else 0) (d := 1) (fun i => by
    by_cases w : sgt b i ∧ ¬ pmB b i = -1
    · rw [if_pos w]; omega
    · rw [if_neg w]; omega) (b 2).toNat 0
  exact ⟨h.1, Int.le_trans h.2 (by omega)⟩
theorem no_r {b : Int → Int} (hb : WB b) : 0 ≤ noB b ∧ noB b ≤ 79992 := by
  have hh := hb.1
  unfold WH at hh
  have h := sumB_r (f := fun p => if sgt b p ∧ ¬ pmB b p = -1 then aV (b (226 + 8 * p + pmB b p)) else 0) (d := 9999) (fun i => by
    by_cases w : sgt b i ∧ ¬ pmB b i = -1
    · rw [if_pos w]
      have k := (pm_of hb w.1.1 w.1.2.1).resolve_left w.2
      have o := hb.2.2.2.2.1 i (pmB b i) w.1.1 (by have := w.1.2.1; omega) k.1 (by omega)
      unfold aV
      by_cases s : 0 ≤ b (226 + 8 * i + pmB b i)
      · rw [if_pos s]; omega
      · rw [if_neg s]; omega
    · rw [if_neg w]; omega) (b 2).toNat 0
  exact ⟨h.1, Int.le_trans h.2 (by omega)⟩
/-- the land at the beginning of round w -/
def RI (b : Int → Int) (w : Int) : Prop := UR b ∧ 1 ≤ b 0 ∧ b 0 ≤ 4 ∧ b 1 ≤ 4 ∧ b 5 ≤ 1439 + 128 * w
theorem lp54 {c4 : Int32} {Ln : Nat} {xs : Nat → Int32} (hLn : Ln ≤ 260) :
    ∀ (k n : Nat) (X : KM) (b : Int → Int) (w : Int), SS X b none → RI b w → 0 ≤ w → w + k = 7 → k + 90000 ≤ n → lp_L_law_54 n Ln xs 0 228 c4 (zI w) X = some (1 : Int32) := by
  intro k
  induction k with
  | zero =>
    intro n X b w hX hR w0 hk hn
    obtain ⟨m, rfl⟩ : ∃ m, n = m + 1 := ⟨n - 1, by omega⟩
    rw [lp_L_law_54]
    simp only [zl]
    rw [if_pos (leP (by omega) (by omega) (by omega))]
  | succ k ih =>
    intro n X b w hX hR w0 hk hn
    obtain ⟨m, rfl⟩ : ∃ m, n = m + 1 := ⟨n - 1, by omega⟩
    obtain ⟨hb, h5⟩ := SS_WB hX
    obtain ⟨hu, b0, b04, b14, b5⟩ := hR
    have hh := hb.1
    unfold WH at hh
    have hi : b 2 ≤ 8 ∧ b 0 ≤ 8 ∧ 0 ≤ b 5 ∧ 0 ≤ b 2 ∧ 0 ≤ b 1 ∧ 0 ≤ b 3 ∧ b 3 ≤ 23 ∧ b 3 < b 4 ∧ b 4 ≤ 24 ∧ b 1 ≤ 12 := by omega
    clear hh
    rw [lp_L_law_54]
    simp only [zl]
    rw [if_neg (leN (by omega) (by omega) (by omega))]
    refine ex_d (fun D => ?_) (fun K' hK => ?_)
    · obtain ⟨X1, e1, s1⟩ := (r_many (b := b) (n := m) (by omega)).2.2.2.2.1 X none hX
      obtain ⟨X2, e2, s2⟩ := (r_many (b := b) (n := m) (by omega)).2.2.2.1 X1 none s1
      obtain ⟨X3, e3, s3⟩ := (r_many (b := b) (n := m) (by omega)).2.2.2.2.2.1 X2 none s2
      obtain ⟨X4, e4, s4⟩ := r_stuck (b := b) (n := m) (by omega) X3 none s3
      simp only [zl] at e1 e2 e3 e4
      have f1 := sub_0 (P := fun q => decide (0 ≤ b (82 + q))) (Q := fun q => decide (0 ≤ b (66 + q))) (k := b 2) hi.2.2.2.1 hi.1 (fun q q1 q2 h => decide_eq_true (led_of hb q1 q2 (of_decide_eq_true h) rfl).2.2.1)
      have f2 := dis_0 (P := fun i => decide (b (66 + i) < 0 ∧ lvB b i = -1)) (Q := fun q => decide (0 ≤ b (66 + q))) (k := b 2) hi.2.2.2.1 hi.1 (fun q q1 q2 h => decide_eq_false (by have := (of_decide_eq_true h).1; omega))
      simp only [zl] at f1 f2
      rw [e1, Option.bind_some]
      dsimp only
      rw [e2, Option.bind_some]
      dsimp only
      rw [e3, Option.bind_some]
      dsimp only
      rw [f1, if_pos rfl, e4, Option.bind_some]
      dsimp only
      rw [f2, if_pos rfl]
      have l := fun (κ : Int32 → Int32 → KM → Option Int32) => lp145 (Ln := Ln) (xs := xs) (c4 := c4) (c5 := zI w) (c6 := D) (κ := κ) hu b04 b14 (by omega) (b 2).toNat m X4 0 s4 (by omega) (by omega) (by omega)
      rw [show sumB (netB b) 0 = 0 from rfl, show sumB (prB b) 0 = 0 from rfl, net_0 hb, npB_2 hb] at l
      refine ex_e (l _) (fun Z hZ => ?_)
      obtain ⟨v, v0, v1, ev⟩ := and_lo D (m := (127 : Int32)) 7 rfl
      have n1 : 1 ≤ 1 + v ∧ 1 + v ≤ 128 := by omega
      have cp := bfR_r (x := 1 + v) hb (by omega)
      have cm := mT_r (i := bfR b (1 + v)) (c := b 4 - b 3) cp.1 (by omega) (by omega)
      obtain ⟨Z1, g1, t1⟩ := r_pairs (b := b) (n := m) (by omega) Z none hZ
      obtain ⟨Z2, g2, t2⟩ := r_pairsOwe (b := b) (n := m) (by omega) Z1 none t1
      obtain ⟨Z3, g3, t3⟩ := r_lostIn (b := b) (n := m) (x := 1 + v) (by omega) (by omega) Z2 none t2
      obtain ⟨Z4, g4, t4⟩ := (r_many (b := b) (n := m) (by omega)).2.2.2.2.2.2 Z3 none t3
      obtain ⟨Z5, g5, t5⟩ := (r_many (b := b) (n := m) (by omega)).1 Z4 none t4
      obtain ⟨Z6, g6, t6⟩ := (r_many (b := b) (n := m) (by omega)).2.1 Z5 none t5
      obtain ⟨Z7, g7, t7⟩ := r_lostBy (b := b) (n := m) (x := 1 + v) (f := b 3) (t := b 4) (by omega) (by omega) (by omega) Z6 none t6
      obtain ⟨Z8, g8, t8⟩ := r_bestFrom (b := b) (n := m) (x := 1 + v) (by omega) (by omega) Z7 none t7
      obtain ⟨Z9, g9, t9⟩ := (r_many (b := b) (n := m) (by omega)).2.1 Z8 none t8
      obtain ⟨W0, k0, u0⟩ := (r_many (b := b) (n := m) (by omega)).1 Z9 none t9
      obtain ⟨W1, k1, u1⟩ := r_lostBy (b := b) (n := m) (x := 1 + v) (f := bfR b (1 + v)) (t := mT (bfR b (1 + v)) (b 4 - b 3)) (by omega) (by omega) ⟨cp.1, cp.2.1, cm.1, cm.2⟩ W0 none u0
      obtain ⟨W2, k2, u2⟩ := s_passes (b := b) (x := 1 + v) (n := m) u1 (by omega) (by omega) (by omega)
      obtain ⟨W3, k3, u3⟩ := (r_many (b := cI b (1 + v)) (n := m) (by omega)).2.2.2.2.2.2 W2 none u2
      rw [hB_id] at g7
      rw [cI_o (z := 2) (by omega) (by omega), lost_c hb] at k3
      simp only [zl] at g4 g5 g6 g9 k0 k3
      have np := np_r hb
      have no := no_r hb
      have lr := lT_r (n := 1 + v) hb (by omega) (by omega)
      have vr := vB_r (N := 1 + v) (c := b 4 - b 3) (i := bfR b (1 + v)) hb (by omega) (by omega) cp.1 (by omega) (by omega)
      have ls := lT_sz (N := 1 + v) hb (by omega) (by omega)
      have cr := cdB_r (P := fun i => decide (0 ≤ b (66 + i)) && decide (i < b 2))
      have mr : (1 + v) * cdB (fun i => decide (0 ≤ b (66 + i)) && decide (i < b 2)) ≤ 128 * 8 := Int.mul_le_mul n1.2 cr.2 cr.1 (by omega)
      have sz := size_8 (P := fun i => decide (0 ≤ b (66 + i)) && decide (i < b 2)) (M := Z7) (n := m) (by omega)
      rw [← setB_in (P := fun i => decide (0 ≤ b (66 + i))) hi.2.2.2.1 hi.1] at sz
      unfold vB at vr
      rw [if_pos rfl, g1, Option.bind_some]
      dsimp only
      rw [zmul, if_pos rfl, g2, Option.bind_some]
      dsimp only
      rw [if_pos (leP (by omega) (by omega) (by omega)), lt_hd, ev, zadd, g3, Option.bind_some]
      dsimp only
      rw [g4, Option.bind_some]
      dsimp only
      rw [g5, Option.bind_some]
      dsimp only
      rw [g6, Option.bind_some]
      dsimp only
      rw [g7, Option.bind_some]
      dsimp only
      rw [if_pos rfl, sz, Option.bind_some]
      rw [zmul, if_pos (leP ls (by omega) (by omega)), g8, Option.bind_some]
      dsimp only
      rw [g9, Option.bind_some]
      dsimp only
      rw [k0, Option.bind_some]
      dsimp only
      rw [lt_hd, lt_if]
      have ex : (if zI (bfR b (1 + v)) + (zI (b 4) - zI (b 3)) ≤ zI 24 then zI (bfR b (1 + v)) + (zI (b 4) - zI (b 3)) else zI 24) = zI (mT (bfR b (1 + v)) (b 4 - b 3)) := by
        rw [zsub, zadd]
        unfold mT
        by_cases q : bfR b (1 + v) + (b 4 - b 3) ≤ 24
        · rw [if_pos (leP q (by omega) (by omega))]
          by_cases q2 : bfR b (1 + v) + (b 4 - b 3) < 24
          · rw [if_pos q2]
          · rw [if_neg q2, show bfR b (1 + v) + (b 4 - b 3) = 24 by omega]
        · rw [if_neg (leN (by omega) (by omega) (by omega)), if_neg (by omega)]
      rw [ex, k1, Option.bind_some]
      dsimp only
      rw [if_pos (leP cp.2.2 (by omega) (by omega)), k2, Option.bind_some]
      dsimp only
      rw [if_neg (show ¬ aS b (1 + v) < zI 0 from Int32.not_lt.mpr aS_nn), k3, Option.bind_some]
      dsimp only
      rw [zadd, if_pos rfl]
      have c0 : cI b (1 + v) 0 = b 0 := cI_o (by omega) (by omega)
      have c2 : cI b (1 + v) 2 = b 2 := cI_o (by omega) (by omega)
      refine ex_e (lp1095 (b 2).toNat m W3 (cI b (1 + v)) 0 u3 (by omega) (by omega) (by omega) (by omega)) (fun Y hY => ?_)
      obtain ⟨d, hd, ed⟩ := hY
      have da : ∀ z, ¬ (58 ≤ z ∧ z < 290) → ¬ z = 5 → d z = b z := fun z z1 z2 => (ed z (by omega)).trans (cI_o z1 z2)
      have d5 : d 5 = b 5 + (1 + v) := (ed 5 (by omega)).trans cI_5
      refine ex_m (S := fun Z => ∃ e, SS Z e none ∧ e 5 = b 5 + (1 + v) ∧ ∀ z, ¬ (58 ≤ z ∧ z < 290) → ¬ z = 5 → ¬ z = 9 → e z = b z) ?_ ?_
      · intro T hT
        obtain ⟨e, he, ee5, ee⟩ := hT
        have w0' := ee 0 (by omega) (by omega) (by omega)
        have w1' := ee 1 (by omega) (by omega) (by omega)
        rw [lt_hd, zadd]
        exact ih m T e (w + 1) he ⟨UR_c hi.2.2.2.2.2.2.2.2.2 ee hu, by omega, by omega, by omega, by omega⟩ (by omega) (by omega) (by omega)
      · intro K hK
        have kk : ∀ p : Int, p = 0 ∨ p = 1 → ((f_X11_cloud m 0 (zI p) Y).bind fun (v185 : (Int32 × KM)) => K v185.2) = some (zI 1) := by
          intro p hp
          obtain ⟨r, V, b', g, hV, hb'⟩ := s_cloud (n := m) hd (by omega) hp
          rw [g, Option.bind_some]
          exact hK V ⟨b', hV, (hb' 5 (by omega)).trans d5, fun z z1 z2 z3 => (hb' z z3).trans (da z z1 z2)⟩
        by_cases q : (D >>> (zI 6 &&& zI 31)) &&& zI 3 = zI 1
        · rw [if_pos q, lt_if]
          by_cases q2 : (D >>> (zI 5 &&& zI 31)) &&& zI 1 = zI 0
          · rw [if_pos q2]; exact kk 1 (Or.inr rfl)
          · rw [if_neg q2]; exact kk 0 (Or.inl rfl)
        · rw [if_neg q]
          exact hK Y ⟨d, hd, d5, fun z z1 z2 _ => da z z1 z2⟩
    · rw [nI_z]
      by_cases q : (Ln : Int) ≤ w
      · rw [if_pos (leP q (by omega) (by omega))]; exact hK _
      · rw [if_neg (leN (by omega) (by omega) (by omega)), if_pos (ixP (by omega) (by omega) (by omega))]; exact hK _
