/-! ===== the text of a land ===== -/
def plT : Nat → Int → List Int
  | 0, _ => []
  | m + 1, k => sw 7 ++ (nam 108 k ++ (sw 6 ++ plT m (k + 1)))
def rdT (h : Int → Int) : Nat → Int → List Int
  | 0, _ => []
  | m + 1, r => sw 8 ++ (nam 108 (h (9 + r)) ++ (nam 108 (h (13 + r)) ++ (sw 9 ++ (nmb (h (17 + r)) ++ ((if h (21 + r) = 1 then sw 10 else sw 6) ++ rdT h m (r + 1))))))
def knT (h : Int → Int) (p : Int) : Nat → Int → List Int
  | 0, _ => []
  | m + 1, r => (if h (37 + 4 * p + r) = 0 then [] else sw 15 ++ (nam 112 p ++ (nam 108 (h (13 + r)) ++ (nam 108 (h (9 + r)) ++ sw 6)))) ++ knT h p m (r + 1)
def ppT (h : Int → Int) : Nat → Int → List Int
  | 0, _ => []
  | m + 1, p => (if h (33 + p) = 1 then sw 11 else sw 12) ++ (nam 112 p ++ (sw 13 ++ (nam 108 (h (25 + p)) ++ ((if h (29 + p) = 1 then sw 14 else sw 6) ++ (knT h p (h 1).toNat 0 ++ ppT h m (p + 1))))))
def hdT (h : Int → Int) (l : List Int) : List Int := sw 0 ++ (nmb (h 3) ++ (sw 1 ++ (nmb (h 4) ++ (sw 2 ++ (nmb (h 5) ++ (sw 3 ++ (nmb (h 6) ++ (sw 4 ++ (nmb (h 7) ++ (sw 5 ++ (nmb (h 8) ++ (sw 6 ++ l))))))))))))
def txT (h : Int → Int) : List Int := hdT h (plT (h 0).toNat 0 ++ (rdT h (h 1).toNat 0 ++ ppT h (h 2).toNat 0))
theorem nam_l {s k : Int} : (nam s k).length = 3 := rfl
theorem it_l {c : Prop} [Decidable c] {x : Int} : (if c then [x] else []).length ≤ 1 := by
  by_cases w : c
  · rw [if_pos w]; exact Nat.le_refl _
  · rw [if_neg w]; exact Nat.zero_le _
theorem dg_l {v : Int} : (dg v).length ≤ 4 := by
  have a1 := it_l (c := 999 < v) (x := 48 + v / 1000)
  have a2 := it_l (c := 99 < v) (x := 48 + v / 100 % 10)
  have a3 := it_l (c := 9 < v) (x := 48 + v / 10 % 10)
  have a4 : [48 + v % 10].length = 1 := rfl
  unfold dg
  rw [List.length_append, List.length_append, List.length_append]
  omega
theorem nmb_l {v : Int} : (nmb v).length ≤ 5 := Nat.succ_le_succ dg_l
theorem sw_l : ∀ i, i < 16 → (sw i).length ≤ 9 := by decide +kernel
theorem plT_l : ∀ (m : Nat) (k : Int), (plT m k).length = 9 * m := by
  intro m
  induction m with
  | zero => intro k; rfl
  | succ m ih =>
    intro k
    show (sw 7 ++ (nam 108 k ++ (sw 6 ++ plT m (k + 1)))).length = _
    rw [List.length_append, List.length_append, List.length_append, ih, nam_l, show (sw 7).length = 5 from rfl, show (sw 6).length = 1 from rfl]
    omega
theorem rdT_l {h : Int → Int} : ∀ (m : Nat) (k : Int), (rdT h m k).length ≤ 32 * m := by
  intro m
  induction m with
  | zero => intro k; exact Nat.le_refl _
  | succ m ih =>
    intro k
    show (sw 8 ++ (nam 108 (h (9 + k)) ++ (nam 108 (h (13 + k)) ++ (sw 9 ++ (nmb (h (17 + k)) ++ ((if h (21 + k) = 1 then sw 10 else sw 6) ++ rdT h m (k + 1))))))).length ≤ _
    have e : (if h (21 + k) = 1 then sw 10 else sw 6).length ≤ 9 := by
      by_cases q : h (21 + k) = 1
      · rw [if_pos q]; exact sw_l 10 (by omega)
      · rw [if_neg q]; exact sw_l 6 (by omega)
    have i := ih (k + 1)
    have j := nmb_l (v := h (17 + k))
    rw [List.length_append, List.length_append, List.length_append, List.length_append, List.length_append, List.length_append, nam_l, nam_l, show (sw 8).length = 4 from rfl, show (sw 9).length = 8 from rfl]
    omega
theorem knT_l {h : Int → Int} {p : Int} : ∀ (m : Nat) (k : Int), (knT h p m k).length ≤ 15 * m := by
  intro m
  induction m with
  | zero => intro k; exact Nat.le_refl _
  | succ m ih =>
    intro k
    show ((if h (37 + 4 * p + k) = 0 then [] else sw 15 ++ (nam 112 p ++ (nam 108 (h (13 + k)) ++ (nam 108 (h (9 + k)) ++ sw 6)))) ++ knT h p m (k + 1)).length ≤ _
    have i := ih (k + 1)
    have e : (if h (37 + 4 * p + k) = 0 then [] else sw 15 ++ (nam 112 p ++ (nam 108 (h (13 + k)) ++ (nam 108 (h (9 + k)) ++ sw 6)))).length ≤ 15 := by
      by_cases q : h (37 + 4 * p + k) = 0
      · rw [if_pos q]; exact Nat.zero_le _
      · rw [if_neg q, List.length_append, List.length_append, List.length_append, List.length_append, nam_l, nam_l, nam_l, show (sw 15).length = 5 from rfl, show (sw 6).length = 1 from rfl]
        decide
    rw [List.length_append]
    omega
theorem ppT_l {h : Int → Int} (h14 : h 1 ≤ 4) : ∀ (m : Nat) (k : Int), (ppT h m k).length ≤ 90 * m := by
  intro m
  induction m with
  | zero => intro k; exact Nat.le_refl _
  | succ m ih =>
    intro k
    show ((if h (33 + k) = 1 then sw 11 else sw 12) ++ (nam 112 k ++ (sw 13 ++ (nam 108 (h (25 + k)) ++ ((if h (29 + k) = 1 then sw 14 else sw 6) ++ (knT h k (h 1).toNat 0 ++ ppT h m (k + 1))))))).length ≤ _
    have i := ih (k + 1)
    have j := knT_l (h := h) (p := k) (h 1).toNat 0
    have e1 : (if h (33 + k) = 1 then sw 11 else sw 12).length ≤ 9 := by
      by_cases q : h (33 + k) = 1
      · rw [if_pos q]; exact sw_l 11 (by omega)
      · rw [if_neg q]; exact sw_l 12 (by omega)
    have e2 : (if h (29 + k) = 1 then sw 14 else sw 6).length ≤ 9 := by
      by_cases q : h (29 + k) = 1
      · rw [if_pos q]; exact sw_l 14 (by omega)
      · rw [if_neg q]; exact sw_l 6 (by omega)
    rw [List.length_append, List.length_append, List.length_append, List.length_append, List.length_append, List.length_append, nam_l, nam_l, show (sw 13).length = 3 from rfl]
    omega
theorem hdT_l {h : Int → Int} {l : List Int} : (hdT h l).length ≤ 61 + l.length := by
  have a3 := nmb_l (v := h 3)
  have a4 := nmb_l (v := h 4)
  have a5 := nmb_l (v := h 5)
  have a6 := nmb_l (v := h 6)
  have a7 := nmb_l (v := h 7)
  have a8 := nmb_l (v := h 8)
  unfold hdT
  rw [List.length_append, List.length_append, List.length_append, List.length_append, List.length_append, List.length_append, List.length_append, List.length_append, List.length_append, List.length_append, List.length_append, List.length_append, List.length_append, show (sw 0).length = 5 from rfl, show (sw 1).length = 3 from rfl, show (sw 2).length = 6 from rfl, show (sw 3).length = 5 from rfl, show (sw 4).length = 6 from rfl, show (sw 5).length = 5 from rfl, show (sw 6).length = 1 from rfl]
  omega
theorem txT_l {h : Int → Int} (h04 : h 0 ≤ 4) (h14 : h 1 ≤ 4) (h24 : h 2 ≤ 4) : (txT h).length ≤ 600 := by
  have a := hdT_l (h := h) (l := plT (h 0).toNat 0 ++ (rdT h (h 1).toNat 0 ++ ppT h (h 2).toNat 0))
  have e1 := plT_l (h 0).toNat 0
  have e2 := rdT_l (h := h) (h 1).toNat 0
  have e3 := ppT_l (h := h) h14 (h 2).toNat 0
  rw [List.length_append, List.length_append] at a
  unfold txT
  omega
/-! ===== the law says it ===== -/
def Hr (M : KM) (h : Int → Int) : Prop := ∀ j : Int, 0 ≤ j → j < 53 → M.1 228 (zI j).toNatClampNeg = zI (h j)
def SQ (h : Int → Int) (M0 M : KM) (ts : List Int) : Prop := Tp M ts ∧ Hr M h ∧ TF M0 M ∧ M.1 227 22 = M0.1 227 22
theorem sy {g : KM → Option KM} {us ts : List Int} {h : Int → Int} {M0 M : KM} (h1 : Sy g us) (hS : SQ h M0 M ts) (hl : ts.length + us.length ≤ 880) : ∃ N, g M = some N ∧ SQ h M0 N (ts ++ us) := by
  obtain ⟨a1, a2, a3, a4⟩ := hS
  obtain ⟨N, b1, b2, b3, b4⟩ := h1 M ts a1 hl
  exact ⟨N, b1, b4, fun j j1 j2 => by rw [b2.2 _ _ (by omega) (by omega) (by omega)]; exact a2 j j1 j2, TF_t a3 b2, b3.trans a4⟩
theorem SQ_l {h : Int → Int} {M0 M : KM} {ts us : List Int} (hS : SQ h M0 M ts) (e : ts = us) : SQ h M0 M us := by rw [← e]; exact hS
theorem lay107 {h : Int → Int} {M0 : KM} {κ : KM → Option (Int32 × KM)} (h04 : h 0 ≤ 4) : ∀ (m n : Nat) (k : Int) (M : KM) (ts : List Int), SQ h M0 M ts → 0 ≤ k → k + m = h 0 → ts.length + (plT m k).length ≤ 880 → m + 200 ≤ n → ∃ N, lp_L_lay_107 n 0 227 228 (zI k) M κ = κ N ∧ SQ h M0 N (ts ++ plT m k) := by
  intro m
  induction m with
  | zero =>
    intro n k M ts hS k0 hk hl hn
    obtain ⟨n, rfl⟩ : ∃ m, n = m + 1 := ⟨n - 1, by omega⟩
    refine ⟨M, ?_, by rw [plT, List.append_nil]; exact hS⟩
    rw [lp_L_lay_107]
    simp only [zl]
    rw [if_pos (ixP (by omega) (by omega) (by omega)), hS.2.1 0 (by omega) (by omega), if_pos (leP (by omega) (by omega) (by omega))]
  | succ m ih =>
    intro n k M ts hS k0 hk hl hn
    obtain ⟨n, rfl⟩ : ∃ m, n = m + 1 := ⟨n - 1, by omega⟩
    rw [plT_l] at hl
    obtain ⟨N1, e1, s1⟩ := sy (Sy_say (i := 7) (n := n) (by omega) (by omega)) hS (by rw [show (sw 7).length = 5 from rfl]; omega)
    obtain ⟨N2, e2, s2⟩ := sy (Sy_name (s := 108) (k := k) (n := n) (by omega) (by omega) (by omega)) s1 (by rw [List.length_append, nam_l, show (sw 7).length = 5 from rfl]; omega)
    obtain ⟨N3, e3, s3⟩ := sy (Sy_say (i := 6) (n := n) (by omega) (by omega)) s2 (by rw [List.length_append, List.length_append, nam_l, show (sw 7).length = 5 from rfl, show (sw 6).length = 1 from rfl]; omega)
    obtain ⟨N, e4, s4⟩ := ih n (k + 1) N3 _ s3 (by omega) (by omega) (by rw [List.length_append, List.length_append, List.length_append, nam_l, plT_l, show (sw 7).length = 5 from rfl, show (sw 6).length = 1 from rfl]; omega) (by omega)
    refine ⟨N, ?_, SQ_l s4 (by rw [plT]; simp only [List.append_assoc])⟩
    rw [lp_L_lay_107]
    simp only [zl]
    rw [if_pos (ixP (by omega) (by omega) (by omega)), hS.2.1 0 (by omega) (by omega), if_neg (leN (by omega) (by omega) (by omega)), e1, Option.bind_some, e2, Option.bind_some, e3, Option.bind_some, lt_hd, zadd]
    exact e4
theorem lay144 {h : Int → Int} {M0 : KM} {κ : KM → Option (Int32 × KM)} (hR : RD h 10 0) : ∀ (m n : Nat) (k : Int) (M : KM) (ts : List Int), SQ h M0 M ts → 0 ≤ k → k + m = h 1 → ts.length + 32 * m ≤ 880 → m + 200 ≤ n → ∃ N, lp_L_lay_144 n 0 227 228 (zI k) M κ = κ N ∧ SQ h M0 N (ts ++ rdT h m k) := by
  obtain ⟨hD, h10, h14, hr, -⟩ := hR
  unfold D1 at hD
  intro m
  induction m with
  | zero =>
    intro n k M ts hS k0 hk hl hn
    obtain ⟨n, rfl⟩ : ∃ m, n = m + 1 := ⟨n - 1, by omega⟩
    refine ⟨M, ?_, by rw [rdT, List.append_nil]; exact hS⟩
    rw [lp_L_lay_144]
    simp only [zl]
    rw [if_pos (ixP (by omega) (by omega) (by omega)), hS.2.1 1 (by omega) (by omega), if_pos (leP (by omega) (by omega) (by omega))]
  | succ m ih =>
    intro n k M ts hS k0 hk hl hn
    obtain ⟨n, rfl⟩ : ∃ m, n = m + 1 := ⟨n - 1, by omega⟩
    have rr := hr k k0 (by omega)
    have l8 : (sw 8).length = 4 := rfl
    have l9 : (sw 9).length = 8 := rfl
    have ln := nmb_l (v := h (17 + k))
    obtain ⟨N1, e1, s1⟩ := sy (Sy_say (i := 8) (n := n) (by omega) (by omega)) hS (by omega)
    obtain ⟨N2, e2, s2⟩ := sy (Sy_name (s := 108) (k := h (9 + k)) (n := n) (by omega) (by omega) (by omega)) s1 (by rw [List.length_append, nam_l]; omega)
    obtain ⟨N3, e3, s3⟩ := sy (Sy_name (s := 108) (k := h (13 + k)) (n := n) (by omega) (by omega) (by omega)) s2 (by rw [List.length_append, List.length_append, nam_l, nam_l]; omega)
    obtain ⟨N4, e4, s4⟩ := sy (Sy_say (i := 9) (n := n) (by omega) (by omega)) s3 (by rw [List.length_append, List.length_append, List.length_append, nam_l, nam_l]; omega)
    obtain ⟨N5, e5, s5⟩ := sy (Sy_number (v := h (17 + k)) (n := n) (by omega) (by omega)) s4 (by rw [List.length_append, List.length_append, List.length_append, List.length_append, nam_l, nam_l]; omega)
    rw [lp_L_lay_144]
    simp only [zl]
    rw [if_pos (ixP (by omega) (by omega) (by omega)), hS.2.1 1 (by omega) (by omega), if_neg (leN (by omega) (by omega) (by omega)), e1, Option.bind_some, zadd, if_pos (ixP (by omega) (by omega) (by omega)), s1.2.1 (9 + k) (by omega) (by omega), e2, Option.bind_some, zadd, if_pos (ixP (by omega) (by omega) (by omega)), s2.2.1 (13 + k) (by omega) (by omega), e3, Option.bind_some, e4, Option.bind_some, zadd, if_pos (ixP (by omega) (by omega) (by omega)), s4.2.1 (17 + k) (by omega) (by omega), e5, Option.bind_some, zadd, if_pos (ixP (by omega) (by omega) (by omega)), s5.2.1 (21 + k) (by omega) (by omega), rdT]
    by_cases q : h (21 + k) = 1
    · obtain ⟨N6, e6, s6⟩ := sy (Sy_say (i := 10) (n := n) (by omega) (by omega)) s5 (by rw [List.length_append, List.length_append, List.length_append, List.length_append, List.length_append, nam_l, nam_l, show (sw 10).length = 8 from rfl]; omega)
      obtain ⟨N, e7, s7⟩ := ih n (k + 1) N6 _ s6 (by omega) (by omega) (by rw [List.length_append, List.length_append, List.length_append, List.length_append, List.length_append, List.length_append, nam_l, nam_l, show (sw 10).length = 8 from rfl]; omega) (by omega)
      refine ⟨N, ?_, SQ_l s7 (by rw [if_pos q]; simp only [List.append_assoc])⟩
      rw [q, if_pos rfl, e6, Option.bind_some, lt_hd, zadd]
      exact e7
    · obtain ⟨N6, e6, s6⟩ := sy (Sy_say (i := 6) (n := n) (by omega) (by omega)) s5 (by rw [List.length_append, List.length_append, List.length_append, List.length_append, List.length_append, nam_l, nam_l, show (sw 6).length = 1 from rfl]; omega)
      obtain ⟨N, e7, s7⟩ := ih n (k + 1) N6 _ s6 (by omega) (by omega) (by rw [List.length_append, List.length_append, List.length_append, List.length_append, List.length_append, List.length_append, nam_l, nam_l, show (sw 6).length = 1 from rfl]; omega) (by omega)
      refine ⟨N, ?_, SQ_l s7 (by rw [if_neg q]; simp only [List.append_assoc])⟩
      rw [if_neg (eqN q (by omega) (by omega) (by omega) (by omega)), e6, Option.bind_some, lt_hd, zadd]
      exact e7
