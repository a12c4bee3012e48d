/-! ===== mean: the runs, in both ===== -/
/-- a state between the runs -/
def SpM (M N : KM) (S PS : Nat) : Prop := N.2.2 = M.2.2 ∧ (∀ a k, ¬ (a = 12 ∨ a = 13) → ¬ (S ≤ a ∧ a < S + 8) → ¬ (S + 14 ≤ a ∧ a < S + 38) → ¬ (PS ≤ a ∧ a < PS + 6) → N.1 a k = M.1 a k) ∧ (∀ a k, ¬ a = S + 1 → ¬ (S + 14 ≤ a ∧ a < S + 38) → N.2.1 a k = M.2.1 a k) ∧ (∀ p, p < 8 → (N.1 (S + 14 + 3 * p) 3 = zI 0 ∨ N.1 (S + 14 + 3 * p) 3 = zI 1) ∧ (N.1 (S + 14 + 3 * p) 4 = zI 0 ∨ N.1 (S + 14 + 3 * p) 4 = zI 1))
/-- where country, spare land and their plans lie -/
def SpP (M : KM) (L S PL PS : Nat) : Prop := M.2.2 0 10 = L ∧ M.2.2 0 11 = S ∧ ((L = 23 ∧ S = 61) ∨ (L = 61 ∧ S = 23)) ∧ M.2.2 L 7 = PL ∧ M.2.2 S 7 = PS ∧ (PL = 31 ∨ PL = 69 ∨ PL = 99) ∧ (PS = 31 ∨ PS = 69 ∨ PS = 99) ∧ ¬ PL = PS
theorem z01 {v : Int} (h1 : 0 ≤ v) (h2 : v ≤ 1) : zI v = zI 0 ∨ zI v = zI 1 := by
  have : v = 0 ∨ v = 1 := by omega
  rcases this with e | e
  · exact Or.inl (by rw [e])
  · exact Or.inr (by rw [e])
theorem one_mean {M N : KM} {L S PL PS n : Nat} {b : Int → Int} {x : Int} (hP : SpP M L S PL PS) (hL : LOK M L b) (hR : PR M PL b) (hN : SpM M N S PS) (hx : 0 ≤ x ∧ x < 65536) (hn : 41100 ≤ n) : ∃ N1 R l, f_X2_copyFrom n S L N = some N1 ∧ N1.2.2 = M.2.2 ∧ f_X4_run n 12 S (zI x) N1 = some R ∧ SpM M R S PS ∧ f_X2_lostOfAll n S R = some (zI l) ∧ (0 ≤ l ∧ l ≤ 800000) ∧ ∀ X, ∃ b' X', f_X12_runsDays n 227 (zI x) (cs X b) = some (cs X' b') ∧ f_X12_allLost n 227 (cs X' b') = some (zI l) ∧ (∀ z, 290 ≤ z → b' z = b z) ∧ X'.2 = X.2 ∧ (∀ a k, ¬ (a = 227 ∧ (k = 28 ∨ k = 29 ∨ (39 ≤ k ∧ k ≤ 46))) → X'.1 a k = X.1 a k) := by
  obtain ⟨p1, p2, p3, p4, p5, p6, p7, p8⟩ := hP
  obtain ⟨n1, n2, n3, n4⟩ := hN
  have hLN : LOK N L b := LOK_of (M := M) (fun a k u v => n2 a k (by omega) (by omega) (by omega) (by omega)) (fun a k u v => n2 a k (by omega) (by omega) (by omega) (by omega)) hL
  have hRN : PR N PL b := PR_of (M := M) (fun a k u v => n2 a k (by omega) (by omega) (by omega) (by omega)) (fun _ _ _ => rfl) rfl rfl hR
  have hap : apt S L PS PL := by unfold apt; omega
  have hh := hLN.2.2.1.1
  unfold WH at hh
  have i9 : 0 ≤ b 9 ∧ b 9 ≤ 1 := by omega
  clear hh
  have h7 : N.1 PL 7 = zI 0 ∨ N.1 PL 7 = zI 1 := by
    obtain ⟨j, q1, q2, q3, q4, q5, q6, q7, q8, q9, q10⟩ := hRN
    rw [q9]; exact z01 q5 q6
  have h15 : N.1 L 15 = zI 0 ∨ N.1 L 15 = zI 1 := by
    rw [show N.1 L 15 = zI (b 9) from hLN.1.2.2.2.2.2.2.2.1]; exact z01 i9.1 i9.2
  obtain ⟨N1, e1, hc⟩ := c_landCopy (M := N) (n := n) hap (by rw [n1]; exact p5) (by rw [n1]; exact p4) h15 h7 (LOK_01 hLN) (by omega)
  have hL1 := LCo_LOK hc hLN
  have hR1 := LCo_PR hc hRN
  obtain ⟨R, l, e2, r1, r2, r3, r4, r5, r6⟩ := run_all (M := N1) (L := S) (P := PS) (n := n) (by omega) (by omega) (by rw [hc.1, n1]; exact p5) hL1.1 hL1.2.1 hL1.2.2.1 hL1.2.2.2 hR1 hx hn
  rw [← ps_ex] at e2
  refine ⟨N1, R, l, e1, by rw [hc.1, n1], e2, ⟨by rw [r1, hc.1, n1], fun a k u1 u2 u3 u4 => ?_, fun a k u1 u2 => ?_, r3⟩, r4, r5, r6⟩
  · rw [r2 a k u1 (by omega) u3, hc.2.1 a k u2 u3 u4, n2 a k u1 u2 u3 u4]
  · rw [r1, hc.2.2.1 a k u1 u2, n3 a k u1 u2]
theorem mean_loop {M : KM} {L S PL PS : Nat} {b : Int → Int} {x y : Int} {κ κ' : Int64 → KM → Option (Int32 × KM)} (hP : SpP M L S PL PS) (hL : LOK M L b) (hR : PR M PL b) (hx : 0 ≤ x ∧ x ≤ 10000) (hy : 1 ≤ y ∧ y ≤ 20) : ∀ (k : Nat) (i w : Int) (n : Nat) (N : KM), 0 ≤ i → i + k = y → 41200 + k ≤ n → 0 ≤ w → w ≤ 800000 * i → SpM M N S PS → ∃ V Me, lp_X11_mean_57 n 0 (zI x) (zI y) (lI w) (zI i) N κ = κ (lI V) Me ∧ SpM M Me S PS ∧ (0 ≤ V ∧ V ≤ 800000 * y) ∧ ∀ X, (∀ z, 0 ≤ z → z < 290 → X.1 234 z.toNat = zI (b z)) → ∃ X', lp_X12_mean_93 n 227 (zI x) (zI y) (lI w) (zI i) (cs X b) κ' = κ' (lI V) (cs X' b) ∧ X'.2 = X.2 ∧ (∀ a k, ¬ (a = 227 ∧ (k = 28 ∨ k = 29 ∨ (39 ≤ k ∧ k ≤ 46))) → X'.1 a k = X.1 a k) := by
  intro k
  induction k with
  | zero =>
    intro i w n N h1 h2 hn w0 w1 hN
    obtain ⟨n, rfl⟩ : ∃ m, n = m + 1 := ⟨n - 1, by omega⟩
    refine ⟨w, N, ?_, hN, ⟨w0, by omega⟩, fun X _ => ⟨X, ?_, rfl, fun _ _ _ => rfl⟩⟩
    · rw [lp_X11_mean_57]
      simp (disch := first | omega | assumption) only [↓lt, ↓reduceIte, Option.bind_some, zl, zneg, zadd, zsub, zmul, Int.reduceNeg, Int.reduceMul, ixT, zidx, if_true, if_false, zeqT, zeqF, zltT, zltF, zleT, zleF, ps_2, pu_o, uI_o, uI_s, uI_j, uI_j2, ps_o, Nat.reduceAdd, cs_o, cu_o, ladd, zwide]
    · rw [lp_X12_mean_93]
      simp (disch := first | omega | assumption) only [↓lt, ↓reduceIte, Option.bind_some, zl, zneg, zadd, zsub, zmul, Int.reduceNeg, Int.reduceMul, ixT, zidx, if_true, if_false, zeqT, zeqF, zltT, zltF, zleT, zleF, ps_2, pu_o, uI_o, uI_s, uI_j, uI_j2, ps_o, Nat.reduceAdd, cs_o, cu_o, ladd, zwide]
  | succ k ih =>
    intro i w n N h1 h2 hn w0 w1 hN
    obtain ⟨n, rfl⟩ : ∃ m, n = m + 1 := ⟨n - 1, by omega⟩
    obtain ⟨N1, R, l, e1, e2, e3, e4, e5, e6, e7⟩ := one_mean (n := n) (x := x + i) hP hL hR hN ⟨by omega, by omega⟩ (by omega)
    obtain ⟨V, Me, f1, f2, f3, f4⟩ := ih (i + 1) (w + l) n R (by omega) (by omega) (by omega) (by omega) (by omega) e4
    have pN : N.2.2 0 11 = S ∧ N.2.2 0 10 = L := by rw [hN.1]; exact ⟨hP.2.1, hP.1⟩
    have pN1 : N1.2.2 0 11 = S := by rw [e2]; exact hP.2.1
    have pR : R.2.2 0 11 = S := by rw [e4.1]; exact hP.2.1
    refine ⟨V, Me, ?_, f2, f3, fun X hX => ?_⟩
    · rw [lp_X11_mean_57]
      simp (disch := first | omega | assumption) only [↓lt, ↓reduceIte, Option.bind_some, zl, zneg, zadd, zsub, zmul, Int.reduceNeg, Int.reduceMul, ixT, zidx, if_true, if_false, zeqT, zeqF, zltT, zltF, zleT, zleF, ps_2, pu_o, uI_o, uI_s, uI_j, uI_j2, ps_o, Nat.reduceAdd, cs_o, cu_o, ladd, zwide, pN.1, pN.2, e1, pN1, Nat.zero_add, e3, pR, e5]
      exact f1
    · obtain ⟨b', X1, g1, g2, g3, g4, g5⟩ := e7 X
      obtain ⟨X', k1, k2, k3⟩ := f4 X1 (fun z u v => by rw [g5 234 z.toNat (by omega)]; exact hX z u v)
      refine ⟨X', ?_, by rw [k2, g4], fun a j u => by rw [k3 a j u, g5 a j u]⟩
      have c := fun (c3 : Int64) (c5 : Int32) (κ : KM → Option (Int32 × KM)) => lp118 (b := b) (c1 := zI x) (c2 := zI y) (c5 := c5) (c3 := c3) (κ := κ) (X := X1) (fun z u v => by rw [g5 234 z.toNat (by omega)]; exact hX z u v) 290 0 b' n (by omega) (by omega) (by omega) (fun z u v => by omega) g3
      rw [lp_X12_mean_93]
      simp (disch := first | omega | assumption) only [↓lt, ↓reduceIte, Option.bind_some, zl, zneg, zadd, zsub, zmul, Int.reduceNeg, Int.reduceMul, ixT, zidx, if_true, if_false, zeqT, zeqF, zltT, zltF, zleT, zleF, ps_2, pu_o, uI_o, uI_s, uI_j, uI_j2, ps_o, Nat.reduceAdd, cs_o, cu_o, ladd, zwide, g1, g2, c]
      exact k1
