/-! ===== the law says the people; the text is loaded ===== -/
theorem lay314 {h : Int → Int} {M0 : KM} {κ : KM → Option (Int32 × KM)} {p : Int} (hR : RD h 10 0) (p0 : 0 ≤ p) (p4 : p < 4) (hQ : PQ h p 4) : ∀ (m n : Nat) (k : Int) (M : KM) (ts : List Int), SQ h M0 M ts → 0 ≤ k → k + m = h 1 → ts.length + 15 * m ≤ 880 → m + 200 ≤ n → ∃ N, lp_L_lay_314 n 0 227 228 (zI p) (zI k) M κ = κ N ∧ SQ h M0 N (ts ++ knT h p m k) := by
  obtain ⟨hD, h10, h14, hr, -⟩ := hR
  unfold D1 at hD
  intro m
  induction m with
  | zero =>
    intro n k M ts hS k0 hk hl hn
    obtain ⟨n, rfl⟩ : ∃ m, n = m + 1 := ⟨n - 1, by omega⟩
    refine ⟨M, ?_, by rw [knT, List.append_nil]; exact hS⟩
    rw [lp_L_lay_314]
    simp only [zl]
    rw [if_pos (ixP (by omega) (by omega) (by omega)), hS.2.1 1 (by omega) (by omega), if_pos (leP (by omega) (by omega) (by omega))]
  | succ m ih =>
    intro n k M ts hS k0 hk hl hn
    obtain ⟨n, rfl⟩ : ∃ m, n = m + 1 := ⟨n - 1, by omega⟩
    have rr := hr k k0 (by omega)
    have qq := hQ k k0 (by omega)
    rw [lp_L_lay_314]
    simp only [zl]
    rw [if_pos (ixP (by omega) (by omega) (by omega)), hS.2.1 1 (by omega) (by omega), if_neg (leN (by omega) (by omega) (by omega)), zmul, zadd, zadd, if_pos (ixP (by omega) (by omega) (by omega)), hS.2.1 (37 + 4 * p + k) (by omega) (by omega), lt_hd, knT]
    by_cases q : h (37 + 4 * p + k) = 0
    · obtain ⟨N, e7, s7⟩ := ih n (k + 1) M ts hS (by omega) (by omega) (by omega) (by omega)
      refine ⟨N, ?_, SQ_l s7 (by rw [if_pos q, List.nil_append])⟩
      rw [q, if_pos rfl]
      dsimp only
      rw [lt_hd, zadd]
      exact e7
    · have l15 : (sw 15).length = 5 := rfl
      have l6 : (sw 6).length = 1 := rfl
      obtain ⟨N1, e1, s1⟩ := sy (Sy_say (i := 15) (n := n) (by omega) (by omega)) hS (by omega)
      obtain ⟨N2, e2, s2⟩ := sy (Sy_name (s := 112) (k := p) (n := n) (by omega) (by omega) (by omega)) s1 (by rw [List.length_append, nam_l]; omega)
      obtain ⟨N3, e3, s3⟩ := sy (Sy_name (s := 108) (k := h (13 + k)) (n := n) (by omega) (by omega) (by omega)) s2 (by rw [List.length_append, List.length_append, nam_l, nam_l]; omega)
      obtain ⟨N4, e4, s4⟩ := sy (Sy_name (s := 108) (k := h (9 + k)) (n := n) (by omega) (by omega) (by omega)) s3 (by rw [List.length_append, List.length_append, List.length_append, nam_l, nam_l, nam_l]; omega)
      obtain ⟨N5, e5, s5⟩ := sy (Sy_say (i := 6) (n := n) (by omega) (by omega)) s4 (by rw [List.length_append, List.length_append, List.length_append, List.length_append, nam_l, nam_l, nam_l]; omega)
      obtain ⟨N, e7, s7⟩ := ih n (k + 1) N5 _ s5 (by omega) (by omega) (by rw [List.length_append, List.length_append, List.length_append, List.length_append, List.length_append, nam_l, nam_l, nam_l]; omega) (by omega)
      refine ⟨N, ?_, SQ_l s7 (by rw [if_neg q]; simp only [List.append_assoc])⟩
      rw [if_neg (eqN q (by omega) (by omega) (by omega) (by omega)), e1, Option.bind_some, e2, Option.bind_some, zadd, if_pos (ixP (by omega) (by omega) (by omega)), s2.2.1 (13 + k) (by omega) (by omega), e3, Option.bind_some, zadd, if_pos (ixP (by omega) (by omega) (by omega)), s3.2.1 (9 + k) (by omega) (by omega), e4, Option.bind_some, e5, Option.bind_some]
      dsimp only
      rw [lt_hd, zadd]
      exact e7
theorem lay232 {h : Int → Int} {M0 : KM} {κ : KM → Option (Int32 × KM)} (hP : PD h 4) : ∀ (m n : Nat) (k : Int) (M : KM) (ts : List Int), SQ h M0 M ts → 0 ≤ k → k + m = h 2 → ts.length + 90 * m ≤ 880 → m + 300 ≤ n → ∃ N, lp_L_lay_232 n 0 227 228 (zI k) M κ = κ N ∧ SQ h M0 N (ts ++ ppT h m k) := by
  obtain ⟨hR, hp⟩ := hP
  have hR0 := hR
  obtain ⟨hD, h10, h14, hr, -⟩ := hR0
  unfold D1 at hD
  intro m
  induction m with
  | zero =>
    intro n k M ts hS k0 hk hl hn
    obtain ⟨n, rfl⟩ : ∃ m, n = m + 1 := ⟨n - 1, by omega⟩
    refine ⟨M, ?_, by rw [ppT, List.append_nil]; exact hS⟩
    rw [lp_L_lay_232]
    simp only [zl]
    rw [if_pos (ixP (by omega) (by omega) (by omega)), hS.2.1 2 (by omega) (by omega), if_pos (leP (by omega) (by omega) (by omega))]
  | succ m ih =>
    intro n k M ts hS k0 hk hl hn
    obtain ⟨n, rfl⟩ : ∃ m, n = m + 1 := ⟨n - 1, by omega⟩
    obtain ⟨p1, p2, p3, p4, p5, p6, p7, p8⟩ := hp k k0 (by omega)
    have kl := knT_l (h := h) (p := k) (h 1).toNat 0
    have tail : ∀ (i j : Nat) (N0 : KM), (i = 11 ∨ i = 12) → (j = 14 ∨ j = 6) → SQ h M0 N0 (ts ++ sw i) → ∃ N1 N2 N3 N4, f_L_name n 0 227 (zI 112) (zI k) N0 = some N1 ∧ f_L_say n 0 227 13 N1 = some N2 ∧ N2.1 228 (zI (25 + k)).toNatClampNeg = zI (h (25 + k)) ∧ f_L_name n 0 227 (zI 108) (zI (h (25 + k))) N2 = some N3 ∧ N3.1 228 (zI (29 + k)).toNatClampNeg = zI (h (29 + k)) ∧ f_L_say n 0 227 j N3 = some N4 ∧ ∃ N, lp_L_lay_314 n 0 227 228 (zI k) (zI 0) N4 (fun (M84 : KM) => (
              lt (zI k + zI 1) fun (v85 : Int32) =>
              lp_L_lay_232 n 0 227 228 v85 M84 κ
            )) = κ N ∧ SQ h M0 N (ts ++ (sw i ++ (nam 112 k ++ (sw 13 ++ (nam 108 (h (25 + k)) ++ (sw j ++ (knT h k (h 1).toNat 0 ++ ppT h m (k + 1)))))))) := by
      intro i j N0 hi hj s0
      have li : (sw i).length ≤ 9 := sw_l i (by omega)
      have lj : (sw j).length ≤ 9 := sw_l j (by omega)
      have l13 : (sw 13).length = 3 := rfl
      obtain ⟨N1, e1, s1⟩ := sy (Sy_name (s := 112) (k := k) (n := n) (by omega) (by omega) (by omega)) s0 (by rw [List.length_append, nam_l]; omega)
      obtain ⟨N2, e2, s2⟩ := sy (Sy_say (i := 13) (n := n) (by omega) (by omega)) s1 (by rw [List.length_append, List.length_append, nam_l]; omega)
      obtain ⟨N3, e3, s3⟩ := sy (Sy_name (s := 108) (k := h (25 + k)) (n := n) (by omega) (by omega) (by omega)) s2 (by rw [List.length_append, List.length_append, List.length_append, nam_l, nam_l]; omega)
      obtain ⟨N4, e4, s4⟩ := sy (Sy_say (i := j) (n := n) (by omega) (by omega)) s3 (by rw [List.length_append, List.length_append, List.length_append, List.length_append, nam_l, nam_l]; omega)
      obtain ⟨N5, e5, s5⟩ := lay314 (κ := fun (M84 : KM) => (
              lt (zI k + zI 1) fun (v85 : Int32) =>
              lp_L_lay_232 n 0 227 228 v85 M84 κ
            )) hR k0 (by omega) p8 (h 1).toNat n 0 N4 _ s4 (by omega) (by omega) (by rw [List.length_append, List.length_append, List.length_append, List.length_append, List.length_append, nam_l, nam_l]; omega) (by omega)
      obtain ⟨N, e6, s6⟩ := ih n (k + 1) N5 _ s5 (by omega) (by omega) (by rw [List.length_append, List.length_append, List.length_append, List.length_append, List.length_append, List.length_append, nam_l, nam_l]; omega) (by omega)
      refine ⟨N1, N2, N3, N4, e1, e2, s2.2.1 (25 + k) (by omega) (by omega), e3, s3.2.1 (29 + k) (by omega) (by omega), e4, N, ?_, SQ_l s6 (by simp only [List.append_assoc])⟩
      rw [e5, lt_hd, zadd]
      exact e6
    rw [lp_L_lay_232]
    simp only [zl]
    rw [if_pos (ixP (by omega) (by omega) (by omega)), hS.2.1 2 (by omega) (by omega), if_neg (leN (by omega) (by omega) (by omega)), if_pos (by rw [zadd]; exact ixP (by omega) (by omega) (by omega)), show (zI 33 + zI k) = zI (33 + k) from zadd _ _, hS.2.1 (33 + k) (by omega) (by omega), ppT]
    rw [show (zI 25 + zI k) = zI (25 + k) from zadd _ _, show (zI 29 + zI k) = zI (29 + k) from zadd _ _]
    have i25 : ix (zI (25 + k)) 53 := ixP (by omega) (by omega) (by omega)
    have i29 : ix (zI (29 + k)) 53 := ixP (by omega) (by omega) (by omega)
    by_cases q : h (33 + k) = 1
    · obtain ⟨N0, e0, s0⟩ := sy (Sy_say (i := 11) (n := n) (by omega) (by omega)) hS (by rw [show (sw 11).length = 5 from rfl]; omega)
      rw [q, if_pos rfl, if_pos rfl, e0, Option.bind_some]
      by_cases g : h (29 + k) = 1
      · obtain ⟨N1, N2, N3, N4, e1, e2, r2, e3, r3, e4, N, e5, s5⟩ := tail 11 14 N0 (Or.inl rfl) (Or.inl rfl) s0
        refine ⟨N, ?_, by rw [if_pos g]; exact s5⟩
        rw [e1, Option.bind_some, e2, Option.bind_some, if_pos i25, r2, e3, Option.bind_some, if_pos i29, r3, g, if_pos rfl, e4, Option.bind_some]
        exact e5
      · obtain ⟨N1, N2, N3, N4, e1, e2, r2, e3, r3, e4, N, e5, s5⟩ := tail 11 6 N0 (Or.inl rfl) (Or.inr rfl) s0
        refine ⟨N, ?_, by rw [if_neg g]; exact s5⟩
        rw [e1, Option.bind_some, e2, Option.bind_some, if_pos i25, r2, e3, Option.bind_some, if_pos i29, r3, if_neg (eqN g (by omega) (by omega) (by omega) (by omega)), e4, Option.bind_some]
        exact e5
    · obtain ⟨N0, e0, s0⟩ := sy (Sy_say (i := 12) (n := n) (by omega) (by omega)) hS (by rw [show (sw 12).length = 7 from rfl]; omega)
      rw [if_neg (eqN q (by omega) (by omega) (by omega) (by omega)), if_neg q, e0, Option.bind_some]
      by_cases g : h (29 + k) = 1
      · obtain ⟨N1, N2, N3, N4, e1, e2, r2, e3, r3, e4, N, e5, s5⟩ := tail 12 14 N0 (Or.inr rfl) (Or.inl rfl) s0
        refine ⟨N, ?_, by rw [if_pos g]; exact s5⟩
        rw [e1, Option.bind_some, e2, Option.bind_some, if_pos i25, r2, e3, Option.bind_some, if_pos i29, r3, g, if_pos rfl, e4, Option.bind_some]
        exact e5
      · obtain ⟨N1, N2, N3, N4, e1, e2, r2, e3, r3, e4, N, e5, s5⟩ := tail 12 6 N0 (Or.inr rfl) (Or.inr rfl) s0
        refine ⟨N, ?_, by rw [if_neg g]; exact s5⟩
        rw [e1, Option.bind_some, e2, Option.bind_some, if_pos i25, r2, e3, Option.bind_some, if_pos i29, r3, if_neg (eqN g (by omega) (by omega) (by omega) (by omega)), e4, Option.bind_some]
        exact e5
/-- the text lies on the tape -/
def Tape (M : KM) (ts : List Int) : Prop := (∀ c ∈ ts, 0 ≤ c ∧ c < 128) ∧ ts.length ≤ 880 ∧ (∃ tp : Int, ts.length ≤ tp ∧ tp ≤ 900 ∧ M.1 0 13 = zI tp) ∧ (∀ z, z < ts.length → M.1 2 z = zI (ts.getD z 0)) ∧ ∀ z : Nat, z < 900 → ∃ t : Int, -128 ≤ t ∧ t < 128 ∧ M.1 2 z = zI t
theorem c_load {M : KM} {ts : List Int} {n : Nat} (hT : Tp M ts) (h22 : M.1 227 22 = zI 0) (hn : 100 ≤ n) : ∃ N, TF M N ∧ Tape N ts ∧ f_L_load n 0 227 M = (f_X11_land n 0 (zI ts.length) N).bind fun (v9 : (Int32 × KM)) => some (v9.1, v9.2) := by
  obtain ⟨t1, t2, q, f, e1, e2, e3, e4, e5, e6, e7, e8⟩ := hT
  have t22 : (zI 22).toNatClampNeg = 22 := rfl
  have i20 : ix (zI 20) 24 := ixP (by omega) (by omega) (by omega)
  have i21 : ix (zI 21) 24 := ixP (by omega) (by omega) (by omega)
  have i22 : ix (zI 22) 24 := ixP (by omega) (by omega) (by omega)
  have fin : ∀ K : KM, TF M K → K.1 227 22 = zI 0 → Tape K ts → TF M (uI K 227 21 (zI 0)) ∧ (uI K 227 21 (zI 0)).1 227 22 = zI 0 ∧ Tape (uI K 227 21 (zI 0)) ts := fun K k1 k2 k3 => by
    refine ⟨⟨k1.1, fun a k x y z => by rw [uI_o (by omega)]; exact k1.2 a k x y z⟩, by rw [uI_o (by omega)]; exact k2, k3.1, k3.2.1, ?_, fun z hz => ?_, fun z hz => ?_⟩
    · obtain ⟨tp, a, b, c⟩ := k3.2.2.1
      exact ⟨tp, a, b, by rw [uI_o (by omega)]; exact c⟩
    · rw [uI_o (by omega)]; exact k3.2.2.2.1 z hz
    · rw [uI_o (by omega)]; exact k3.2.2.2.2 z hz
  unfold f_L_load
  simp only [zl, t20, t21, t22]
  rw [if_pos i21, lt_hd, if_pos i20, e3, e4, lt_hd]
  by_cases w : q = 0
  · obtain ⟨a1, a2, a3⟩ := fin M TF_r h22 ⟨t1, t2, ⟨f, by omega, by omega, e5⟩, fun z hz => e7 z (by omega), e8⟩
    refine ⟨_, a1, a3, ?_⟩
    rw [if_pos (leP (by omega) (by omega) (by omega))]
    dsimp only
    rw [if_pos i21, lt_hd, if_pos i22, a2, if_pos rfl]
  · obtain ⟨N, g1, g2, g3, g4, g5, g6, g7⟩ := c_feedL (c := fun i => ts.getD (f + i) 0) (n := n) (q := q) (f := f) e5 (by omega) (by omega) e3 (fun i hi => ⟨e6 i hi, gd_r t1 _⟩) (by omega)
    obtain ⟨a1, a2, a3⟩ := fin N g2 (g5.trans h22) ⟨t1, t2, ⟨((f + 20 : Nat) : Int), by omega, by omega, g6⟩, fun z hz => by
      rw [g7 z]
      by_cases y : f ≤ z ∧ z < f + 20
      · rw [if_pos y, if_pos (by omega), show f + (z - f) = z by omega]
      · rw [if_neg y, e7 z (by omega)], fun z hz => by
      rw [g7 z]
      by_cases y : f ≤ z ∧ z < f + 20
      · rw [if_pos y]
        by_cases x : z - f < q
        · rw [if_pos x]
          have := gd_r t1 (f + (z - f))
          exact ⟨_, by omega, this.2, rfl⟩
        · rw [if_neg x]; exact ⟨32, by omega, by omega, rfl⟩
      · rw [if_neg y]; exact e8 z hz⟩
    refine ⟨_, a1, a3, ?_⟩
    rw [if_neg (leN (by omega) (by omega) (by omega)), g1, Option.bind_some]
    dsimp only
    rw [if_pos i21, lt_hd, if_pos i22, a2, if_pos rfl]
theorem c_lay {h : Int → Int} {M : KM} {n : Nat} (hP : PD h 4) (hT : Tp M []) (hH : Hr M h) (hn : 600 ≤ n) : ∃ N, TF M N ∧ Hr N h ∧ Tape N (txT h) ∧ f_L_lay n 0 227 228 M = (f_X11_land n 0 (zI (txT h).length) N).bind fun (v90 : (Int32 × KM)) => if v90.1 = (v90.2.1 228 (zI 2).toNatClampNeg) then some (zI 1, v90.2) else some (zI 0, v90.2) := by
  have hD := hP.1.1
  have h14 := hP.1.2.2.1
  have h10 := hP.1.2.1
  unfold D1 at hD
  have i22 : ix (zI 22) 24 := ixP (by omega) (by omega) (by omega)
  have t22 : (zI 22).toNatClampNeg = 22 := rfl
  have s0 : SQ h (uI M 227 22 (zI 0)) (uI M 227 22 (zI 0)) [] := by
    refine ⟨?_, fun j j1 j2 => by rw [uI_o (by omega)]; exact hH j j1 j2, TF_r, rfl⟩
    obtain ⟨t1, t2, q, f, e1, e2, e3, e4, e5, e6, e7, e8⟩ := hT
    exact ⟨t1, t2, q, f, e1, e2, by rw [uI_o (by omega)]; exact e3, by rw [uI_o (by omega)]; exact e4, by rw [uI_o (by omega)]; exact e5, fun i hi => by rw [uI_o (by omega)]; exact e6 i hi, fun z hz => by rw [uI_o (by omega)]; exact e7 z hz, fun z hz => by rw [uI_o (by omega)]; exact e8 z hz⟩
  have l0 : (sw 0).length = 5 := rfl
  have l1 : (sw 1).length = 3 := rfl
  have l2 : (sw 2).length = 6 := rfl
  have l3 : (sw 3).length = 5 := rfl
  have l4 : (sw 4).length = 6 := rfl
  have l5 : (sw 5).length = 5 := rfl
  have l6 : (sw 6).length = 1 := rfl
  have n3 := nmb_l (v := h 3)
  have n4 := nmb_l (v := h 4)
  have n5 := nmb_l (v := h 5)
  have n6 := nmb_l (v := h 6)
  have n7 := nmb_l (v := h 7)
  have n8 := nmb_l (v := h 8)
  obtain ⟨N1, e1, s1⟩ := sy (Sy_say (i := 0) (n := n) (by omega) (by omega)) s0 (by rw [l0]; decide)
  rw [List.nil_append] at s1
  obtain ⟨N2, e2, s2⟩ := sy (Sy_number (v := h 3) (n := n) (by omega) (by omega)) s1 (by omega)
  obtain ⟨N3, e3, s3⟩ := sy (Sy_say (i := 1) (n := n) (by omega) (by omega)) s2 (by simp only [List.length_append]; omega)
  obtain ⟨N4, e4, s4⟩ := sy (Sy_number (v := h 4) (n := n) (by omega) (by omega)) s3 (by simp only [List.length_append]; omega)
  obtain ⟨N5, e5, s5⟩ := sy (Sy_say (i := 2) (n := n) (by omega) (by omega)) s4 (by simp only [List.length_append]; omega)
  obtain ⟨N6, e6, s6⟩ := sy (Sy_number (v := h 5) (n := n) (by omega) (by omega)) s5 (by simp only [List.length_append]; omega)
  obtain ⟨N7, e7, s7⟩ := sy (Sy_say (i := 3) (n := n) (by omega) (by omega)) s6 (by simp only [List.length_append]; omega)
  obtain ⟨N8, e8, s8⟩ := sy (Sy_number (v := h 6) (n := n) (by omega) (by omega)) s7 (by simp only [List.length_append]; omega)
  obtain ⟨N9, e9, s9⟩ := sy (Sy_say (i := 4) (n := n) (by omega) (by omega)) s8 (by simp only [List.length_append]; omega)
  obtain ⟨P0, f0, r0⟩ := sy (Sy_number (v := h 7) (n := n) (by omega) (by omega)) s9 (by simp only [List.length_append]; omega)
  obtain ⟨P1, f1, r1⟩ := sy (Sy_say (i := 5) (n := n) (by omega) (by omega)) r0 (by simp only [List.length_append]; omega)
  obtain ⟨P2, f2, r2⟩ := sy (Sy_number (v := h 8) (n := n) (by omega) (by omega)) r1 (by simp only [List.length_append]; omega)
  obtain ⟨P3, f3, r3⟩ := sy (Sy_say (i := 6) (n := n) (by omega) (by omega)) r2 (by simp only [List.length_append]; omega)
  obtain ⟨P4, f4, r4⟩ := lay107 (κ := fun (M28 : KM) => (
      lp_L_lay_144 n 0 227 228 (zI 0) M28
        (fun (M45 : KM) => (
          lp_L_lay_232 n 0 227 228 (zI 0) M45
            (fun (M89 : KM) => (
              (f_L_load n 0 227 M89).bind fun (v90 : (Int32 × KM)) =>
              if ix (zI 2) 53 then
              if v90.1 = (v90.2.1 228 (zI 2).toNatClampNeg) then
                some (zI 1, v90.2)
              else
                some (zI 0, v90.2)
              else none
            ))
        ))
    )) hD.2.1 (h 0).toNat n 0 P3 _ r3 (by omega) (by omega) (by simp only [List.length_append, plT_l]; omega) (by omega)
  obtain ⟨P5, f5, r5⟩ := lay144 (κ := fun (M45 : KM) => (
          lp_L_lay_232 n 0 227 228 (zI 0) M45
            (fun (M89 : KM) => (
              (f_L_load n 0 227 M89).bind fun (v90 : (Int32 × KM)) =>
              if ix (zI 2) 53 then
              if v90.1 = (v90.2.1 228 (zI 2).toNatClampNeg) then
                some (zI 1, v90.2)
              else
                some (zI 0, v90.2)
              else none
            ))
        )) hP.1 (h 1).toNat n 0 P4 _ r4 (by omega) (by omega) (by simp only [List.length_append, plT_l]; omega) (by omega)
  have lr := rdT_l (h := h) (h 1).toNat 0
  obtain ⟨P6, f6, r6⟩ := lay232 (κ := fun (M89 : KM) => (
              (f_L_load n 0 227 M89).bind fun (v90 : (Int32 × KM)) =>
              if ix (zI 2) 53 then
              if v90.1 = (v90.2.1 228 (zI 2).toNatClampNeg) then
                some (zI 1, v90.2)
              else
                some (zI 0, v90.2)
              else none
            )) hP (h 2).toNat n 0 P5 _ r5 (by omega) (by omega) (by simp only [List.length_append, plT_l]; omega) (by omega)
  have r7 := SQ_l (us := txT h) r6 (by unfold txT hdT; simp only [List.append_assoc])
  obtain ⟨N, g1, g2, g3⟩ := c_load (n := n) r7.1 (r7.2.2.2.trans uI_s) (by omega)
  have tf := TF_t r7.2.2.1 g1
  refine ⟨N, ⟨tf.1, fun a k x y z => by rw [tf.2 a k x y z, uI_o (by omega)]⟩, fun j j1 j2 => by rw [g1.2 _ _ (by omega) (by omega) (by omega)]; exact r7.2.1 j j1 j2, g2, ?_⟩
  unfold f_L_lay
  simp only [zl]
  rw [if_pos i22, t22, lt_hd, e1, Option.bind_some, if_pos (ixP (by omega) (by omega) (by omega)), s1.2.1 3 (by omega) (by omega), e2, Option.bind_some, e3, Option.bind_some, if_pos (ixP (by omega) (by omega) (by omega)), s3.2.1 4 (by omega) (by omega), e4, Option.bind_some, e5, Option.bind_some, if_pos (ixP (by omega) (by omega) (by omega)), s5.2.1 5 (by omega) (by omega), e6, Option.bind_some, e7, Option.bind_some, if_pos (ixP (by omega) (by omega) (by omega)), s7.2.1 6 (by omega) (by omega), e8, Option.bind_some, e9, Option.bind_some, if_pos (ixP (by omega) (by omega) (by omega)), s9.2.1 7 (by omega) (by omega), f0, Option.bind_some, f1, Option.bind_some, if_pos (ixP (by omega) (by omega) (by omega)), r1.2.1 8 (by omega) (by omega), f2, Option.bind_some, f3, Option.bind_some]
  rw [f4, f5, f6, g3]
  cases f_X11_land n 0 (zI (txT h).length) N with
  | none => rfl
  | some v =>
    show (if ix (zI 2) 53 then (if v.1 = v.2.1 228 (zI 2).toNatClampNeg then some (zI 1, v.2) else some (zI 0, v.2)) else none) = (if v.1 = v.2.1 228 (zI 2).toNatClampNeg then some (zI 1, v.2) else some (zI 0, v.2))
    exact if_pos (ixP (a := 2) (n := 53) (by omega) (by omega) (by omega))
