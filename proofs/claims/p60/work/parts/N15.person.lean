/-! ===== the loop over the people ===== -/
theorem lt_hd {α β : Type} {e : α} {f : α → β} : lt e f = f e := rfl
theorem ex_k2 {Q : KM → Prop} {κ : KM → Option Int32} {K : Int32 → KM → Option Int32} {B : (Int32 → KM → Option Int32) → Option Int32} (v : Int32) (h1 : ∀ Z, Q Z → ∃ Y, Q Y ∧ K v Z = κ Y) (h2 : ∀ K' : Int32 → KM → Option Int32, (∀ Z, Q Z → ∃ Y, Q Y ∧ K' v Z = κ Y) → ∃ Y, Q Y ∧ B K' = κ Y) : ∃ Y, Q Y ∧ lt K B = κ Y := h2 K h1
theorem ex_t {S Q : KM → Prop} {e : Option Int32} {K κ : KM → Option Int32} (h1 : ∃ Z, S Z ∧ e = K Z) (h2 : ∀ Z, S Z → ∃ Y, Q Y ∧ K Z = κ Y) : ∃ Y, Q Y ∧ e = κ Y := by
  obtain ⟨Z, z1, z2⟩ := h1
  rw [z2]
  exact h2 Z z1
theorem lp145 {b : Int → Int} {Ln : Nat} {xs : Nat → Int32} {c4 c5 c6 : Int32} {κ : Int32 → Int32 → KM → Option Int32} (hu : UR b) (b0 : b 0 ≤ 4) (b1 : b 1 ≤ 4) (b5 : b 5 ≤ 3000) :
    ∀ (k n : Nat) (X : KM) (w : Int), SS X b none → 0 ≤ w → w + k = b 2 → k + 81000 ≤ n → ∃ Y, SS Y b none ∧ lp_L_law_145 n Ln xs 0 228 c4 c5 c6 (setB (fun q => decide (0 ≤ b (66 + q))) (b 2)) (setB (fun q => decide (b (106 + q) = 1)) (b 2)) (zI (sumB (netB b) w)) (zI (sumB (prB b) w)) (zI w) X κ = κ (zI (sumB (netB b) (b 2))) (zI (sumB (prB b) (b 2))) Y := by
  intro k
  induction k with
  | zero =>
    intro n X w hX w0 hk hn
    obtain ⟨m, rfl⟩ : ∃ m, n = m + 1 := ⟨n - 1, by omega⟩
    have h2 := (SS_h hX).2.2
    have : w = b 2 := by omega
    subst this
    have hh := (SS_WB hX).1.1
    unfold WH at hh
    refine ⟨X, hX, ?_⟩
    rw [lp_L_law_145]
    simp only [zl]
    rw [if_pos (ixP (by omega) (by omega) (by omega)), h2, if_pos (leP (by omega) (by omega) (by omega))]
  | succ k ih =>
    intro n X w hX w0 hk hn
    obtain ⟨m, rfl⟩ : ∃ m, n = m + 1 := ⟨n - 1, by omega⟩
    have h2 := (SS_h hX).2.2
    obtain ⟨hb, h5⟩ := SS_WB hX
    have hh := hb.1
    unfold WH at hh
    have hi : b 2 ≤ 8 ∧ b 0 ≤ 8 ∧ 0 ≤ b 5 ∧ 0 ≤ b 2 ∧ 0 ≤ b 1 ∧ 0 ≤ b 0 := by omega
    clear hh
    have w1 : 0 ≤ w ∧ w < b 2 := by omega
    have ez := hb.2.2.1 w w1.1 w1.2
    unfold WP at ez
    have ea := setBk_01 (P := fun q => decide (0 ≤ b (66 + q))) (k := b 2) (q := w) hi.2.2.2.1 hi.1 w1.1 w1.2
    have ec := fun q (h : 0 ≤ q ∧ q < b 2) => setBk_01 (P := fun q => decide (b (106 + q) = 1)) (k := b 2) (q := q) hi.2.2.2.1 hi.1 h.1 h.2
    simp only [zl] at ea ec
    have eo : (if (setB (fun q => decide (0 ≤ b (66 + q))) (b 2) >>> (zI w &&& zI 31)) &&& zI 1 = zI 1 then zI 1 else zI 0) = if 0 ≤ b (66 + w) then zI 1 else zI 0 := b01 (by
      rw [ea]
      by_cases o : 0 ≤ b (66 + w)
      · rw [if_pos (decide_eq_true o)]; exact ⟨fun _ => o, fun _ => rfl⟩
      · rw [if_neg (by rw [decide_eq_false o]; exact Bool.false_ne_true)]
        exact ⟨fun z => absurd z (by decide), fun z => absurd z o⟩)
    obtain ⟨O, hO⟩ : ∃ O : Int32, O = if 0 ≤ b (66 + w) then zI 1 else zI 0 := ⟨_, rfl⟩
    rw [← hO] at eo
    obtain ⟨X1, e1, s1⟩ := r_net (b := b) (n := m) (x := w) (by omega) w1 X none hX
    obtain ⟨X2, e2, s2⟩ := (r_person (b := b) (n := m) (x := w) (by omega) w1).2.2.2 X1 none s1
    obtain ⟨X3, e3, s3⟩ := (r_person (b := b) (n := m) (x := w) (by omega) w1).2.1 X2 none s2
    obtain ⟨X4, e4, s4⟩ := (r_person (b := b) (n := m) (x := w) (by omega) w1).2.2.1 X3 none s3
    simp only [zl] at e2 e3 e4
    have en : zI (sumB (netB b) w) + zI (sumB (fun q => b (226 + 8 * q + w)) (b 2)) = zI (sumB (netB b) (w + 1)) := by
      rw [zadd, sumB_s w0]; rfl
    have q1 : O = if zI (if 0 ≤ b (66 + w) then b (66 + w) else -1) < zI 0 then zI 0 else zI 1 := by
      rw [hO]
      by_cases o : 0 ≤ b (66 + w)
      · rw [if_pos o, if_pos o, if_neg (ltN (by omega) (by omega) (by omega))]
      · rw [if_neg o, if_neg o, if_pos (ltP (by omega) (by omega) (by omega))]
    have q2 : O = if zI (b (74 + w)) ≤ zI 0 then zI 0 else zI 1 := by
      rw [hO]
      by_cases o : 0 ≤ b (66 + w)
      · rw [if_pos o, if_neg (leN (by omega) (by omega) (by omega))]
      · rw [if_neg o, if_pos (leP (by omega) (by omega) (by omega))]
    rw [lp_L_law_145]
    simp only [zl]
    rw [if_pos (ixP (by omega) (by omega) (by omega)), h2, if_neg (leN (by omega) (by omega) (by omega)), lt_if, eo]
    rw [e1, Option.bind_some]
    dsimp only
    rw [en, lt_hd, e2, Option.bind_some]
    dsimp only
    rw [e3, Option.bind_some]
    dsimp only
    rw [lt_if, if_pos q1, e4, Option.bind_some]
    dsimp only
    rw [lt_if, if_pos q2]
    refine ex_k (Q := fun Y => SS Y b none) ?_ ?_
    · intro Z hZ
      obtain ⟨Z1, f1, t1⟩ := r_pair (b := b) (n := m) (x := w) (by omega) w1 Z none hZ
      rw [f1, Option.bind_some]
      dsimp only
      refine ex_k2 (Q := fun Y => SS Y b none) (zI (sumB (prB b) (w + 1))) ?_ ?_
      · intro V hV
        refine ex_t (lp336 (bm := none) hb w1 w.toNat m V 0 hV (by omega) (by omega) (by omega)) ?_
        intro U hU
        refine ex_k (Q := fun Y => SS Y b none) ?_ ?_
        · intro T hT
          rw [lt_hd, zadd]
          exact ih m T (w + 1) hT (by omega) (by omega) (by omega)
        · intro K hK
          by_cases o : 0 ≤ b (66 + w)
          · rw [hO, if_pos o, if_neg (show ¬ zI 1 = zI 0 by decide)]
            exact hK U hU
          · rw [hO, if_neg o, if_pos rfl]
            obtain ⟨U1, g1, u1⟩ := r_reach (b := b) (n := m) (x := w) (by omega) w1 (by omega) U none hU
            obtain ⟨U2, g2, u2⟩ := r_stuck (b := b) (n := m) (by omega) U1 none u1
            have es := setBk_01 (P := fun i => decide (b (66 + i) < 0 ∧ lvB b i = -1)) (k := b 2) (q := w) hi.2.2.2.1 hi.1 w1.1 w1.2
            simp only [zl] at es
            rw [g1, Option.bind_some]
            dsimp only
            rw [g2, Option.bind_some]
            dsimp only
            have fin : ∃ Y, SS Y b none ∧ lp_L_law_414 m Ln xs 0 228 c4 c5 c6 (setB (fun q => decide (0 ≤ b (66 + q))) (b 2)) (setB (fun q => decide (b (106 + q) = 1)) (b 2)) (zI (sumB (netB b) (w + 1))) (zI (sumB (prB b) (w + 1))) (zI w) (setB (itR b w 8 0 (fun i => decide (i = b (58 + w)))) 8) (zI 0) U2
                              (fun (M101 : KM) => (
                                lp_L_law_784 m Ln xs 0 228 c4 c5 c6 (setB (fun q => decide (0 ≤ b (66 + q))) (b 2)) (setB (fun q => decide (b (106 + q) = 1)) (b 2)) (zI (sumB (netB b) (w + 1))) (zI (sumB (prB b) (w + 1))) (zI w) (zI 0) M101
                                  (fun (M122 : KM) => (
                                    K M122
                                  ))
                              )) = κ (zI (sumB (netB b) (b 2))) (zI (sumB (prB b) (b 2))) Y := by
              refine ex_t (lp414 hu b0 b1 b5 w1 (by omega) (b 0).toNat m U2 0 u2 (by omega) (by omega) (by omega)) ?_
              intro T hT
              refine ex_t (lp784 (bm := none) w1 (by omega) (b 2).toNat m T 0 hT (by omega) (by omega) (by omega)) ?_
              intro R hR
              exact hK R hR
            rw [lt_hd, es]
            by_cases st : lvB b w = -1
            · rw [if_pos (decide_eq_true ⟨by omega, st⟩), if_pos rfl, stk_1 hb w1 st, size_8 (by omega), cd_is1 (by omega) (by omega), Option.bind_some, if_pos rfl]
              rw [stk_1 hb w1 st] at fin
              exact fin
            · rw [if_neg (show ¬ decide (b (66 + w) < 0 ∧ lvB b w = -1) = true by rw [decide_eq_false (fun z => st z.2)]; exact Bool.false_ne_true), if_neg (show ¬ zI 0 = zI 1 by decide)]
              exact fin
      · intro K hK
        rcases pm_of hb w1.1 w1.2 with pm | pm
        · rw [pm, if_pos (ltP (by omega) (by omega) (by omega))]
          have e : sumB (prB b) (w + 1) = sumB (prB b) w := by
            rw [sumB_s w0]; unfold prB; rw [if_pos pm]; omega
          rw [e] at hK
          exact hK Z1 t1
        · have e : sumB (prB b) (w + 1) = sumB (prB b) w + 1 := by
            rw [sumB_s w0]
            show _ + (if pmB b w = -1 then 0 else 1) = _
            rw [if_neg (by omega)]
          obtain ⟨Z2, f2, t2⟩ := r_pair (b := b) (n := m) (x := pmB b w) (by omega) (by omega) Z1 none t1
          have ec1 := ec w w1
          have ec2 := ec (pmB b w) (by omega)
          rw [if_neg (ltN (by omega) (by omega) (by omega)), lt_hd, f2, Option.bind_some]
          dsimp only
          rw [pm.2.2.1, if_pos rfl, ec1, ec2, zadd, ← e, if_neg (by
            rcases pm.2.2.2 with ⟨y1, y2⟩ | ⟨y1, y2⟩
            · rw [if_neg (by rw [decide_eq_false (by omega)]; exact Bool.false_ne_true), if_pos (decide_eq_true y2)]; decide
            · rw [if_pos (decide_eq_true y1), if_neg (by rw [decide_eq_false (by omega)]; exact Bool.false_ne_true)]; decide)]
          exact hK Z2 t2
    · intro K hK
      by_cases ld : 0 ≤ b (82 + w)
      · obtain ⟨l1, l2, l3, l4, l5, l6, l7, -⟩ := led_of hb w1.1 w1.2 ld rfl
        obtain ⟨X5, g5, u5⟩ := (r_person (b := b) (n := m) (x := b (82 + w)) (by omega) ⟨ld, l1⟩).2.2.1 X4 none s4
        obtain ⟨X6, g6, u6⟩ := (r_person (b := b) (n := m) (x := w) (by omega) w1).2.2.1 X5 none u5
        obtain ⟨X7, g7, u7⟩ := (r_person (b := b) (n := m) (x := b (82 + w)) (by omega) ⟨ld, l1⟩).2.1 X6 none u6
        obtain ⟨X8, g8, u8⟩ := (r_person (b := b) (n := m) (x := w) (by omega) w1).2.1 X7 none u7
        obtain ⟨X9, g9, u9⟩ := (r_person (b := b) (n := m) (x := b (82 + w)) (by omega) ⟨ld, l1⟩).2.2.2 X8 none u8
        simp only [zl] at g5 g6 g7 g8 g9
        rw [if_neg (show ¬ 0 ≤ b (82 + b (82 + w)) by omega)] at g9
        rw [if_pos ld, if_neg (ltN (by omega) (by omega) (by omega)), hO, if_pos l3, if_neg (show ¬ zI 1 = zI 0 by decide), g5, Option.bind_some]
        dsimp only
        rw [g6, Option.bind_some]
        dsimp only
        rw [l7, if_pos rfl, g7, Option.bind_some]
        dsimp only
        rw [g8, Option.bind_some]
        dsimp only
        rw [l4, if_pos rfl, g9, Option.bind_some]
        dsimp only
        rw [if_pos (ltP (by omega) (by omega) (by omega))]
        exact hK X9 u9
      · rw [if_neg ld, if_pos (ltP (by omega) (by omega) (by omega))]
        exact hK X4 s4
