/-! ===== many minutes, in one: a minute more ===== -/
abbrev okP (b : Int → Int) (n q : Int) : Prop := pcQ b q = 0 ∨ (pcQ b q = 1 ∧ ¬ glH (b 3) (b 4) (b 5 + n))
theorem kQ_step {b : Int → Int} {n q : Int} (hb : WB b) (hn : 0 ≤ n) : kQ b (n + 1) q = kQ b n q + (if okP b n q then 1 else 0) := by
  have hh := hb.1
  unfold WH at hh
  exact mv_step (by omega) (by omega) (by omega) (by omega) (by omega) hn pcB_r
theorem ar_up {b : Int → Int} {n q : Int} (hb : WB b) (hn : 0 ≤ n) (h : arQ b n q) : arQ b (n + 1) q := by
  refine ⟨h.1, ?_⟩
  rw [kQ_step hb hn]
  have e := h.2
  by_cases w : okP b n q
  · rw [if_pos w]; omega
  · rw [if_neg w]; omega
theorem cI_8 {b : Int → Int} {n q : Int} (h1 : 0 ≤ q) (h2 : q < 8) : cI b n (122 + q) = b (122 + q) := by
  have e := cI_f (b := b) (n := n) (q := q) (j := 8) h1 h2 (by omega) (by omega)
  rw [show 58 + 8 * 8 + q = 122 + q by omega] at e
  rw [e]
  by_cases g : goQ b q
  · by_cases a : arQ b n q
    · rw [cF_ar a]; rfl
    · rw [cF_on g a]; rfl
  · rw [cF_g0 g]; rfl
theorem cI_on {b : Int → Int} {n q : Int} (h2 : q < 8) (g : goQ b q) (a : ¬ arQ b n q) : cI b n (58 + q) = b (58 + q) ∧ cI b n (66 + q) = b (66 + q) ∧ cI b n (74 + q) = b (74 + q) - kQ b n q ∧ cI b n (82 + q) = b (82 + q) ∧ cI b n (90 + q) = b (90 + q) + (n - kQ b n q) := by
  have e : ∀ j, 0 ≤ j → j < 9 → cI b n (58 + 8 * j + q) = _ := fun j u v => (cI_f g.1 h2 u v).trans (cF_on g a)
  have a0 := e 0 (by omega) (by omega)
  have a1 := e 1 (by omega) (by omega)
  have a2 := e 2 (by omega) (by omega)
  have a3 := e 3 (by omega) (by omega)
  have a4 := e 4 (by omega) (by omega)
  exact ⟨a0, a1, a2, a3, a4⟩
theorem AG_c {b : Int → Int} {n q : Int} (hb : WB b) (h1 : 0 ≤ q) (h2 : q < 8) : AG (cI b n) q = true ↔ goQ b q ∧ ¬ arQ b n q := by
  have hh := hb.1
  unfold WH at hh
  have e2 : cI b n 2 = b 2 := cI_o (by omega) (by omega)
  have e66 : cI b n (66 + q) = _ := cI_f (b := b) (n := n) (q := q) (j := 1) h1 h2 (by omega) (by omega)
  by_cases g : goQ b q
  · by_cases a : arQ b n q
    · rw [cF_ar a, if_neg (by decide), if_pos rfl] at e66
      refine ⟨fun z => ?_, fun z => absurd a z.2⟩
      have z2 := (of_decide_eq_true z).2.2
      rw [e66] at z2
      exact absurd z2 (by decide)
    · have e := (cI_on h2 g a).2.1
      refine ⟨fun _ => ⟨g, a⟩, fun _ => AG_t h1 (by rw [e2]; exact g.2.1) (by rw [e]; exact g.2.2)⟩
  · rw [cF_g0 g] at e66
    refine ⟨fun z => ?_, fun z => absurd z.1 g⟩
    have z2 := of_decide_eq_true z
    rw [e66, e2] at z2
    exact absurd ⟨z2.1, z2.2.1, z2.2.2⟩ g
/-- who comes just now -/
theorem th_c {b : Int → Int} {n q : Int} (hb : WB b) (hn : 0 ≤ n) (h1 : 0 ≤ q) (h2 : q < 8) (g : goQ b q) (a : ¬ arQ b n q) : thB (cI b n) q ↔ arQ b (n + 1) q := by
  have e := cI_on h2 g a
  have e2 := ca_on hb g a
  have e3 := kQ_step (q := q) hb hn
  have a2 : ¬ b (74 + q) ≤ kQ b n q := fun z => a ⟨g, z⟩
  show caB (cI b n) q ∧ cI b n (74 + q) = 1 ↔ _
  rw [e2, e.2.2.1]
  constructor
  · rintro ⟨z1, z2⟩
    refine ⟨g, ?_⟩
    rw [e3, if_pos z1]
    omega
  · rintro ⟨-, z⟩
    rw [e3] at z
    by_cases w : okP b n q
    · rw [if_pos w] at z
      exact ⟨w, by omega⟩
    · rw [if_neg w] at z
      omega
theorem T_c {b : Int → Int} {n q : Int} (hb : WB b) (hn : 0 ≤ n) (h1 : 0 ≤ q) (h2 : q < 8) : (AG (cI b n) q = true ∧ thB (cI b n) q) ↔ (¬ arQ b n q ∧ arQ b (n + 1) q) := by
  rw [AG_c hb h1 h2]
  constructor
  · rintro ⟨⟨g, a⟩, t⟩
    exact ⟨a, (th_c hb hn h1 h2 g a).mp t⟩
  · rintro ⟨a, t⟩
    exact ⟨⟨t.1, a⟩, (th_c hb hn h1 h2 t.1 a).mpr t⟩
/-- when he comes: after dQ minutes -/
theorem d_c {b : Int → Int} {n q : Int} (hb : WB b) (hn : 0 ≤ n) (hn2 : n ≤ 300000) (g : goQ b q) : (dQ b q ≤ n ↔ arQ b n q) := by
  have hh := hb.1
  unfold WH at hh
  have ep := WP_of hb g.1 g.2.1
  unfold WP at ep
  have hr := hb.2.1 (b (122 + q)) (by omega) (by omega)
  unfold WR at hr
  have e := dn_mv (f := b 3) (t := b 4) (pace := pcQ b q) (m := b 5) (k := b (74 + q)) (n := n) (by omega) (by omega) (by omega) (by omega) (by omega) (by omega) (by omega) (by omega) hn (by omega) pcB_r
  exact e.trans ⟨fun z => ⟨g, z⟩, fun z => z.2⟩
theorem cI_step {b : Int → Int} {n : Int} (hb : WB b) (hn : 0 ≤ n) (hn2 : b 5 + n < 200000) : mN (cI b n) = cI b (n + 1) := by
  have hh := hb.1
  unfold WH at hh
  have hlt : ∀ x, goQ b x → x < 8 := fun x g => by omega
  have c34 : ∀ x, goQ b x → cI b n (34 + cI b n (122 + x)) = b (34 + b (122 + x)) := fun x g => by
    have ep := WP_of hb g.1 g.2.1
    unfold WP at ep
    rw [cI_8 g.1 (by omega)]
    exact cI_o (by omega) (by omega)
  refine cells_ext (fun z h => ?_) (fun q j u v x y => ?_) (fun q r u v x y => ?_) (fun x y u v k l => ?_)
  · by_cases h5 : z = 5
    · rw [h5, mN_5, cI_5, cI_5]; omega
    · rw [mN_o h h5, cI_o h h5, cI_o h h5]
  · rw [mN_f u v x y, cI_f (n := n + 1) u v x y]
    by_cases g : goQ b q
    · by_cases a : arQ b n q
      · rw [if_neg (fun z => ((AG_c hb u v).mp z).2 a), cI_f u v x y, cF_ar a, cF_ar (ar_up hb hn a)]
      · have e := cI_on v g a
        have e2 := ca_on hb g a
        have e3 := kQ_step (q := q) hb hn
        have a2 : ¬ b (74 + q) ≤ kQ b n q := fun z => a ⟨g, z⟩
        have t := th_c hb hn u v g a
        rw [if_pos ((AG_c hb u v).mpr ⟨g, a⟩)]
        unfold colF
        rw [e.1, e.2.1, e.2.2.1, e.2.2.2.1, e.2.2.2.2] at *
        rw [cI_f u v x y, cF_on g a]
        by_cases w : okP b n q
        · rw [if_pos (e2.mpr w)]
          rw [if_pos w] at e3
          by_cases w2 : b (74 + q) - kQ b n q = 1
          · have ar : arQ b (n + 1) q := ⟨g, by omega⟩
            have d1 := d_c (n := n) hb hn (by omega) g
            have d2 := d_c (n := n + 1) hb (by omega) (by omega) g
            have d3 : dQ b q = n + 1 := by
              have := d2.mpr ar
              have : ¬ dQ b q ≤ n := fun z => a (d1.mp z)
              omega
            rw [if_pos w2, cF_ar ar, d3]
            by_cases j0 : j = 0
            · rw [if_pos j0, if_pos j0]
            · rw [if_neg j0, if_neg j0]
              by_cases j1 : j = 1
              · rw [if_pos j1, if_pos j1]
              · rw [if_neg j1, if_neg j1]
                by_cases j2 : j = 2
                · rw [if_pos j2, if_pos j2]
                · rw [if_neg j2, if_neg j2]
                  by_cases j3 : j = 3
                  · rw [if_pos j3, if_neg j2, if_pos j3]
                  · rw [if_neg j3, if_neg j3, if_neg j2]
                    by_cases j4 : j = 4
                    · rw [if_pos j4, if_pos j4]; omega
                    · rw [if_neg j4, if_neg j4]
          · have ar : ¬ arQ b (n + 1) q := fun z => by
              have := z.2
              omega
            rw [if_neg w2, cF_on g ar]
            by_cases j2 : j = 2
            · rw [if_pos j2, if_pos j2]; omega
            · rw [if_neg j2, if_neg j2, if_neg j2]
              by_cases j4 : j = 4
              · rw [if_pos j4, if_pos j4]; omega
              · rw [if_neg j4, if_neg j4]
        · rw [if_neg (fun z => w (e2.mp z))]
          rw [if_neg w] at e3
          have ar : ¬ arQ b (n + 1) q := fun z => by
            have := z.2
            omega
          rw [cF_on g ar]
          by_cases j4 : j = 4
          · rw [if_pos j4, if_neg (by omega), if_pos j4]; omega
          · rw [if_neg j4]
            by_cases j2 : j = 2
            · rw [if_pos j2, if_pos j2]; omega
            · rw [if_neg j2, if_neg j2, if_neg j4, if_neg j4]
    · rw [if_neg (fun z => g ((AG_c hb u v).mp z).1), cI_f u v x y, cF_g0 g, cF_g0 g]
  · rw [mN_g u v x y, cI_g u v x y, cI_g u v x y]
    have e8 := cI_8 (b := b) (n := n) u v
    have T := T_c hb hn u v
    by_cases a : arQ b n q
    · rw [if_neg (fun z => (T.mp ⟨z.1, z.2.1⟩).1 a)]
      have a2 := ar_up hb hn a
      by_cases w : r = b (122 + q)
      · rw [if_pos ⟨a, w⟩, if_pos ⟨a2, w⟩]
      · rw [if_neg (fun z => w z.2), if_neg (fun z => w z.2)]
    · rw [if_neg (show ¬ (arQ b n q ∧ r = b (122 + q)) from fun z => a z.1)]
      by_cases a2 : arQ b (n + 1) q
      · have t := T.mpr ⟨a, a2⟩
        by_cases w : r = b (122 + q)
        · rw [if_pos ⟨t.1, t.2, w.trans e8.symm⟩, if_pos ⟨a2, w⟩]
        · rw [if_neg (fun z => w (z.2.2.trans e8)), if_neg (fun z => w z.2)]
      · rw [if_neg (fun z => a2 (T.mp ⟨z.1, z.2.1⟩).2), if_neg (fun z => a2 z.1)]
  · have Tx := T_c hb hn u v
    have Ty := T_c hb hn k l
    have lx : ∀ q, 0 ≤ q → q < 8 → (AG (cI b n) q = true ∧ thB (cI b n) q) → goQ b q ∧ cI b n (82 + q) = b (82 + q) := fun q h1 h2 z => by
      have e := (T_c hb hn h1 h2).mp z
      exact ⟨e.2.1, (cI_on h2 e.2.1 e.1).2.2.2.1⟩
    rw [mN_w u v k l, cI_w u v k l, cI_w u v k l]
    by_cases w1 : goQ b x ∧ b (82 + x) = y
    · obtain ⟨-, -, -, -, l1, -⟩ := led_of hb u w1.1.2.1 k w1.2
      have n2 : ∀ m, ¬ (arQ b m y ∧ b (82 + y) = x) := fun m z => by omega
      have n1 : ¬ (AG (cI b n) y = true ∧ thB (cI b n) y ∧ cI b n (82 + y) = x) := fun z => by
        have e := (lx y k l ⟨z.1, z.2.1⟩).2
        omega
      rw [if_neg n1, if_neg (n2 n), if_neg (n2 (n + 1))]
      by_cases a : arQ b n x
      · rw [if_neg (fun z => (Tx.mp ⟨z.1, z.2.1⟩).1 a), if_pos ⟨a, w1.2⟩, if_pos ⟨ar_up hb hn a, w1.2⟩]
      · rw [if_neg (show ¬ (arQ b n x ∧ b (82 + x) = y) from fun z => a z.1)]
        by_cases a2 : arQ b (n + 1) x
        · have t := Tx.mpr ⟨a, a2⟩
          rw [if_pos ⟨t.1, t.2, by rw [(lx x u v t).2]; exact w1.2⟩, if_pos ⟨a2, w1.2⟩, c34 x w1.1]
        · rw [if_neg (fun z => a2 (Tx.mp ⟨z.1, z.2.1⟩).2), if_neg (fun z => a2 z.1)]
    · have m1 : ∀ m, ¬ (arQ b m x ∧ b (82 + x) = y) := fun m z => w1 ⟨z.1.1, z.2⟩
      have m2 : ¬ (AG (cI b n) x = true ∧ thB (cI b n) x ∧ cI b n (82 + x) = y) := fun z => by
        have e := lx x u v ⟨z.1, z.2.1⟩
        exact w1 ⟨e.1, by rw [← e.2]; exact z.2.2⟩
      rw [if_neg m2, if_neg (m1 n), if_neg (m1 (n + 1))]
      by_cases w2 : goQ b y ∧ b (82 + y) = x
      · by_cases a : arQ b n y
        · rw [if_neg (fun z => (Ty.mp ⟨z.1, z.2.1⟩).1 a), if_pos ⟨a, w2.2⟩, if_pos ⟨ar_up hb hn a, w2.2⟩]
        · have m5 : ¬ (arQ b n y ∧ b (82 + y) = x) := fun z => a z.1
          by_cases a2 : arQ b (n + 1) y
          · have t := Ty.mpr ⟨a, a2⟩
            have m6 : cI b n (226 + 8 * y + x) = b (226 + 8 * y + x) := by rw [cI_w k l u v, if_neg m5, if_neg (m1 n)]
            rw [if_pos ⟨t.1, t.2, by rw [(lx y k l t).2]; exact w2.2⟩, if_pos ⟨a2, w2.2⟩, c34 y w2.1, m6]
          · rw [if_neg (fun z => a2 (Ty.mp ⟨z.1, z.2.1⟩).2), if_neg m5, if_neg (fun z => a2 z.1)]
      · have m3 : ∀ m, ¬ (arQ b m y ∧ b (82 + y) = x) := fun m z => w2 ⟨z.1.1, z.2⟩
        have m4 : ¬ (AG (cI b n) y = true ∧ thB (cI b n) y ∧ cI b n (82 + y) = x) := fun z => by
          have e := lx y k l ⟨z.1, z.2.1⟩
          exact w2 ⟨e.1, by rw [← e.2]; exact z.2.2⟩
        rw [if_neg m4, if_neg (m3 n), if_neg (m3 (n + 1))]

