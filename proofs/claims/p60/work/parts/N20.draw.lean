/-! ===== the law's draws ===== -/
/-- row 228 holds h -/
def hs (M : KM) (h : Int → Int) : KM := (fun a k => if a = 228 then zI (h k) else M.1 a k, M.2)
theorem hs_h {M : KM} {h : Int → Int} {j : Int} (h1 : 0 ≤ j) (h2 : j < 2147483648) : (hs M h).1 228 (zI j).toNatClampNeg = zI (h j) := by
  rw [zidx (by omega) h2]
  show (if (228 : Nat) = 228 then zI (h (j.toNat : Int)) else M.1 228 j.toNat) = _
  rw [if_pos rfl, Int.toNat_of_nonneg h1]
theorem hs_o {M : KM} {h : Int → Int} {a k : Nat} (e : ¬ a = 228) : (hs M h).1 a k = M.1 a k := if_neg e
theorem hs_u {M : KM} {h : Int → Int} {j v : Int} (h1 : 0 ≤ j) (h2 : j < 2147483648) : uI (hs M h) 228 (zI j).toNatClampNeg (zI v) = hs M (bu h j v) := by
  rw [zidx (by omega) h2]
  refine Prod.ext ?_ rfl
  funext a k
  by_cases e : a = 228 ∧ k = j.toNat
  · obtain ⟨rfl, rfl⟩ := e
    rw [uI_s]
    show zI v = (if (228 : Nat) = 228 then zI (bu h j v (j.toNat : Int)) else M.1 228 j.toNat)
    rw [if_pos rfl, Int.toNat_of_nonneg h1, bu_s]
  · rw [uI_o e]
    show (if a = 228 then _ else _) = (if a = 228 then _ else _)
    by_cases e2 : a = 228
    · rw [if_pos e2, if_pos e2, bu_o (by omega)]
    · rw [if_neg e2, if_neg e2]
theorem hs_ex (M : KM) : M = hs M (fun z => (M.1 228 z.toNat).toInt) := by
  refine Prod.ext ?_ rfl
  funext a k
  show _ = (if a = 228 then zI (M.1 228 ((k : Int)).toNat).toInt else _)
  by_cases e : a = 228
  · rw [if_pos e, e, Int.toNat_natCast, ← z_of]
  · rw [if_neg e]
def D1 (h : Int → Int) : Prop := 1 ≤ h 0 ∧ h 0 ≤ 4 ∧ 0 ≤ h 2 ∧ h 2 ≤ 4 ∧ 0 ≤ h 3 ∧ h 3 ≤ 23 ∧ h 3 < h 4 ∧ h 4 ≤ 24 ∧ 0 ≤ h 5 ∧ h 5 ≤ 1439 ∧ 1 ≤ h 6 ∧ h 6 ≤ 4 ∧ 1 ≤ h 7 ∧ h 7 ≤ 4 ∧ 0 ≤ h 8 ∧ h 8 ≤ 16
def key (h : Int → Int) (r : Int) : Int := if h (9 + r) < h (13 + r) then 8 * h (9 + r) + h (13 + r) else 8 * h (13 + r) + h (9 + r)
def RD (h : Int → Int) (a w : Int) : Prop := D1 h ∧ 0 ≤ h 1 ∧ h 1 ≤ 4 ∧ (∀ r, 0 ≤ r → r < h 1 → 0 ≤ h (9 + r) ∧ h (9 + r) < h 0 ∧ 0 ≤ h (13 + r) ∧ h (13 + r) < h 0 ∧ ¬ h (9 + r) = h (13 + r) ∧ key h r < 8 * a + w ∧ 1 ≤ h (17 + r) ∧ h (17 + r) ≤ 32 ∧ 0 ≤ h (21 + r) ∧ h (21 + r) ≤ 1) ∧ ∀ r q, 0 ≤ r → r < q → q < h 1 → key h r < key h q
theorem RD_up {h : Int → Int} {a w a' w' : Int} (hr : RD h a w) (e : 8 * a + w ≤ 8 * a' + w') : RD h a' w' := by
  obtain ⟨h1, h2, h3, h4, h5⟩ := hr
  refine ⟨h1, h2, h3, fun r r1 r2 => ?_, h5⟩
  have := h4 r r1 r2
  omega
def adR (h : Int → Int) (x y m s : Int) : Int → Int := bu (bu (bu (bu (bu h (9 + h 1) x) (13 + h 1) y) (17 + h 1) m) (21 + h 1) s) 1 (h 1 + 1)
theorem adR_o {h : Int → Int} {x y m s z : Int} (h0 : 0 ≤ h 1) (h1 : h 1 < 4) (e1 : ¬ z = 1) (e : ¬ (9 ≤ z ∧ z < 25)) : adR h x y m s z = h z := by
  unfold adR
  rw [bu_o (by omega), bu_o (by omega), bu_o (by omega), bu_o (by omega), bu_o (by omega)]
theorem adR_r {h : Int → Int} {x y m s r : Int} (h0 : 0 ≤ h 1) (h1 : h 1 < 4) (r0 : 0 ≤ r) (r1 : r < 4) (e : ¬ r = h 1) : adR h x y m s (9 + r) = h (9 + r) ∧ adR h x y m s (13 + r) = h (13 + r) ∧ adR h x y m s (17 + r) = h (17 + r) ∧ adR h x y m s (21 + r) = h (21 + r) := by
  unfold adR
  refine ⟨?_, ?_, ?_, ?_⟩
  · rw [bu_o (by omega), bu_o (by omega), bu_o (by omega), bu_o (by omega), bu_o (by omega)]
  · rw [bu_o (by omega), bu_o (by omega), bu_o (by omega), bu_o (by omega), bu_o (by omega)]
  · rw [bu_o (by omega), bu_o (by omega), bu_o (by omega), bu_o (by omega), bu_o (by omega)]
  · rw [bu_o (by omega), bu_o (by omega), bu_o (by omega), bu_o (by omega), bu_o (by omega)]
theorem adR_n {h : Int → Int} {x y m s : Int} (h0 : 0 ≤ h 1) (h1 : h 1 < 4) : adR h x y m s (9 + h 1) = x ∧ adR h x y m s (13 + h 1) = y ∧ adR h x y m s (17 + h 1) = m ∧ adR h x y m s (21 + h 1) = s ∧ adR h x y m s 1 = h 1 + 1 := by
  unfold adR
  refine ⟨?_, ?_, ?_, ?_, bu_s⟩
  · rw [bu_o (by omega), bu_o (by omega), bu_o (by omega), bu_o (by omega), bu_s]
  · rw [bu_o (by omega), bu_o (by omega), bu_o (by omega), bu_s]
  · rw [bu_o (by omega), bu_o (by omega), bu_s]
  · rw [bu_o (by omega), bu_s]
theorem RD_ad {h : Int → Int} {a w x y m s : Int} (hr : RD h a w) (h14 : h 1 < 4) (a0 : 0 ≤ a) (aw : a < w) (w4 : w < h 0) (hxy : (x = a ∧ y = w) ∨ (x = w ∧ y = a)) (hm : 1 ≤ m ∧ m ≤ 32) (hs' : 0 ≤ s ∧ s ≤ 1) : RD (adR h x y m s) a (w + 1) := by
  obtain ⟨h1, h2, h3, h4, h5⟩ := hr
  obtain ⟨n1, n2, n3, n4, n5⟩ := adR_n (x := x) (y := y) (m := m) (s := s) h2 h14
  have o := fun z e1 e => adR_o (x := x) (y := y) (m := m) (s := s) (z := z) h2 h14 e1 e
  have kn : key (adR h x y m s) (h 1) = 8 * a + w := by
    unfold key
    rw [n1, n2]
    rcases hxy with ⟨rfl, rfl⟩ | ⟨rfl, rfl⟩
    · rw [if_pos aw]
    · rw [if_neg (by omega)]
  have ko : ∀ r, 0 ≤ r → r < h 1 → key (adR h x y m s) r = key h r := fun r r1 r2 => by
    obtain ⟨e1, e2, -, -⟩ := adR_r (x := x) (y := y) (m := m) (s := s) h2 h14 r1 (by omega) (by omega : ¬ r = h 1)
    unfold key
    rw [e1, e2]
  have o0 := o 0 (by omega) (by omega)
  refine ⟨?_, by omega, by omega, fun r r1 r2 => ?_, fun r q r1 r2 q2 => ?_⟩
  · unfold D1 at h1 ⊢
    rw [o0, o 2 (by omega) (by omega), o 3 (by omega) (by omega), o 4 (by omega) (by omega), o 5 (by omega) (by omega), o 6 (by omega) (by omega), o 7 (by omega) (by omega), o 8 (by omega) (by omega)]
    exact h1
  · rw [n5] at r2
    by_cases e : r = h 1
    · subst e
      rw [n1, n2, n3, n4, kn, o0]
      omega
    · obtain ⟨e1, e2, e3, e4⟩ := adR_r (x := x) (y := y) (m := m) (s := s) h2 h14 r1 (by omega) e
      rw [e1, e2, e3, e4, ko r r1 (by omega), o0]
      have := h4 r r1 (by omega)
      omega
  · rw [n5] at q2
    by_cases e : q = h 1
    · subst e
      rw [kn, ko r r1 r2]
      have := h4 r r1 r2
      omega
    · rw [ko r r1 (by omega), ko q (by omega) (by omega)]
      exact h5 r q r1 r2 (by omega)
theorem ex_h {P : (Int → Int) → Prop} {M : KM} {κ : KM → Option KM} {K : Int32 → Option KM} {B : (Int32 → Option KM) → Option KM} (h1 : ∀ D, ∃ h', P h' ∧ K D = κ (hs M h')) (h2 : ∀ K' : Int32 → Option KM, (∀ D, ∃ h', P h' ∧ K' D = κ (hs M h')) → ∃ h', P h' ∧ B K' = κ (hs M h')) : ∃ h', P h' ∧ lt K B = κ (hs M h') := h2 K h1
theorem dr161 {M : KM} {c2 : Int32} {a : Int} {Ln : Nat} {xs : Nat → Int32} {κ : KM → Option KM} (hLn : Ln ≤ 260) (a0 : 0 ≤ a) : ∀ (k n : Nat) (w : Int) (h : Int → Int), RD h a w → a < w → w + k = h 0 → k < n → ∃ h', (RD h' a (h 0) ∧ h' 0 = h 0) ∧ lp_L_draw_161 n Ln xs 228 c2 (zI a) (zI w) (hs M h) κ = κ (hs M h') := by
  intro k
  induction k with
  | zero =>
    intro n w h hr aw hk hn
    obtain ⟨m, rfl⟩ : ∃ m, n = m + 1 := ⟨n - 1, by omega⟩
    have h01 := hr.1
    unfold D1 at h01
    have : w = h 0 := by omega
    subst this
    refine ⟨h, ⟨hr, rfl⟩, ?_⟩
    rw [lp_L_draw_161]
    simp only [zl]
    rw [if_pos (ixP (by omega) (by omega) (by omega)), hs_h (by omega) (by omega), if_pos (leP (by omega) (by omega) (by omega))]
  | succ k ih =>
    intro n w h hr aw hk hn
    obtain ⟨m, rfl⟩ : ∃ m, n = m + 1 := ⟨n - 1, by omega⟩
    have h01 := hr.1
    unfold D1 at h01
    have h11 := hr.2.1
    have h14 := hr.2.2.1
    rw [lp_L_draw_161]
    simp only [zl]
    rw [if_pos (ixP (by omega) (by omega) (by omega)), hs_h (j := 0) (by omega) (by omega), if_neg (leN (by omega) (by omega) (by omega))]
    have skip : ∃ h', (RD h' a (h 0) ∧ h' 0 = h 0) ∧ lp_L_draw_161 m Ln xs 228 c2 (zI a) (zI (w + 1)) (hs M h) κ = κ (hs M h') := ih m (w + 1) h (RD_up hr (by omega)) (by omega) (by omega) (by omega)
    refine ex_h (fun D => ?_) (fun K hK => ?_)
    · by_cases e4 : h 1 = 4
      · simp (disch := first | omega | assumption) only [↓lt, ↓reduceIte, ixT, hs_h, hs_u, bu_o, bu_s, zadd, if_true, if_false, zeqF, zeqT, e4]
        exact skip
      · by_cases d3 : D &&& zI 3 = zI 0
        · simp (disch := first | omega | assumption) only [↓lt, ↓reduceIte, ixT, hs_h, hs_u, bu_o, bu_s, zadd, if_true, if_false, zeqF, zeqT, d3]
          exact skip
        · obtain ⟨v, v0, v1, ev⟩ := and_lo (D >>> (zI 2 &&& zI 31)) (m := zI 31) 5 rfl
          have add : ∀ x y s, ((x = a ∧ y = w) ∨ (x = w ∧ y = a)) → 0 ≤ s ∧ s ≤ 1 → ∃ h', (RD h' a (h 0) ∧ h' 0 = h 0) ∧ lp_L_draw_161 m Ln xs 228 c2 (zI a) (zI (w + 1)) (hs M (adR h x y (1 + v) s)) κ = κ (hs M h') := fun x y s hxy hs1 => by
            have e0 : adR h x y (1 + v) s 0 = h 0 := adR_o h11 (by omega) (by omega) (by omega)
            obtain ⟨h', ⟨q1, q2⟩, q3⟩ := ih m (w + 1) (adR h x y (1 + v) s) (RD_ad hr (by omega) a0 aw (by omega) hxy (by omega) hs1) (by omega) (by omega) (by omega)
            rw [e0] at q1 q2
            exact ⟨h', ⟨q1, q2⟩, q3⟩
          by_cases d1 : D &&& zI 1 = zI 0
          · by_cases d4 : (D >>> (zI 4 &&& zI 31)) &&& zI 3 = zI 1
            · simp (disch := first | omega | assumption) only [↓lt, ↓reduceIte, ixT, hs_h, hs_u, bu_o, bu_s, zadd, if_true, if_false, zeqF, zeqT, d3, d1, d4, ev]
              exact add a w 1 (Or.inl ⟨rfl, rfl⟩) (by omega)
            · simp (disch := first | omega | assumption) only [↓lt, ↓reduceIte, ixT, hs_h, hs_u, bu_o, bu_s, zadd, if_true, if_false, zeqF, zeqT, d3, d1, d4, ev]
              exact add a w 0 (Or.inl ⟨rfl, rfl⟩) (by omega)
          · by_cases d4 : (D >>> (zI 4 &&& zI 31)) &&& zI 3 = zI 1
            · simp (disch := first | omega | assumption) only [↓lt, ↓reduceIte, ixT, hs_h, hs_u, bu_o, bu_s, zadd, if_true, if_false, zeqF, zeqT, d3, d1, d4, ev]
              exact add w a 1 (Or.inr ⟨rfl, rfl⟩) (by omega)
            · simp (disch := first | omega | assumption) only [↓lt, ↓reduceIte, ixT, hs_h, hs_u, bu_o, bu_s, zadd, if_true, if_false, zeqF, zeqT, d3, d1, d4, ev]
              exact add w a 0 (Or.inr ⟨rfl, rfl⟩) (by omega)
    · rw [zadd, nI_z]
      by_cases q : (Ln : Int) ≤ a + w
      · rw [if_pos (leP q (by omega) (by omega))]; exact hK _
      · rw [if_neg (leN (by omega) (by omega) (by omega)), if_pos (ixP (by omega) (by omega) (by omega))]; exact hK _
