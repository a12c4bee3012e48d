/-! ===== mean: a run for all states of the reference; its copies ===== -/
theorem run_all {M : KM} {L P n : Nat} {b : Int → Int} {g : Int → Int → Int → Int} {x : Int} (hl : 23 ≤ L) (hPL : P = L + 8 ∨ (31 ≤ P ∧ P + 6 ≤ L) ∨ L + 38 ≤ P) (hP : M.2.2 L 7 = P) (hL : HL M L b) (hg : GR g b) (hb : WB b) (hm : b 5 ≤ 99999) (hR : PR M P b) (hx : 0 ≤ x ∧ x < 65536) (hn : 41100 ≤ n) : ∃ R l, f_X4_run n 12 L (zI x) (ps M L g) = some R ∧ R.2 = M.2 ∧ (∀ a k, ¬ (a = 12 ∨ a = 13) → ¬ (a = L ∧ (k = 11 ∨ k = 15)) → ¬ (L + 14 ≤ a ∧ a < L + 38) → R.1 a k = M.1 a k) ∧ (∀ p, p < 8 → (R.1 (L + 14 + 3 * p) 3 = zI 0 ∨ R.1 (L + 14 + 3 * p) 3 = zI 1) ∧ (R.1 (L + 14 + 3 * p) 4 = zI 0 ∨ R.1 (L + 14 + 3 * p) 4 = zI 1)) ∧ f_X2_lostOfAll n L R = some (zI l) ∧ (0 ≤ l ∧ l ≤ 800000) ∧ ∀ X, ∃ b' X', f_X12_runsDays n 227 (zI x) (cs X b) = some (cs X' b') ∧ f_X12_allLost n 227 (cs X' b') = some (zI l) ∧ (∀ z, 290 ≤ z → b' z = b z) ∧ X'.2 = X.2 ∧ (∀ a k, ¬ (a = 227 ∧ (k = 28 ∨ k = 29 ∨ (39 ≤ k ∧ k ≤ 46))) → X'.1 a k = X.1 a k) := by
  obtain ⟨b1, g1, W1, X1, dn1, ms1, ar1, lf1, e1, f1, k1, x1⟩ := run_both (X := M) (n := n) hl hPL hP hL hg hb hm hR hx hn
  obtain ⟨a1, a2, a3, a4, a5, a6, a7, a8, a9, a10, a11, a12, a13, a14, a15, a16⟩ := k1
  have lo := c_lostOfAll (n := n) (M := W1) a9 a10 a11 (by omega)
  have lo' : f_X2_lostOfAll n L (ps W1 L g1) = some (zI (sL b1)) := lo
  refine ⟨ps W1 L g1, sL b1, e1, a1, fun a k u v w => by rw [ps_o w]; exact a2 a k u v, fun p hp => ?_, lo', sL_r a11 a12, fun X => ?_⟩
  · have q := a10.2.2.2 p (by omega) (by omega)
    rw [ps_at (p := p) (j := 0) (by omega) (by omega) (by omega), ps_at (p := p) (j := 0) (by omega) (by omega) (by omega)]
    refine ⟨?_, ?_⟩
    · rcases q.1 with e | e
      · exact Or.inl (congrArg zI e)
      · exact Or.inr (congrArg zI e)
    · rcases q.2 with e | e
      · exact Or.inl (congrArg zI e)
      · exact Or.inr (congrArg zI e)
  · obtain ⟨b2, g2, W2, X2, dn2, ms2, ar2, lf2, e2, f2, k2, x2⟩ := run_both (X := X) (n := n) hl hPL hP hL hg hb hm hR hx hn
    have hRW : ps W1 L g1 = ps W2 L g2 := by
      have := e1.symm.trans e2
      injection this
    have l2 := c_lostOfAll (n := n) (M := W2) k2.2.2.2.2.2.2.2.2.1 k2.2.2.2.2.2.2.2.2.2.1 k2.2.2.2.2.2.2.2.2.2.2.1 (by omega)
    rw [← hRW, lo'] at l2
    have m2 := m_allLost (n := n) (M := X2) k2.2.2.2.2.2.2.2.2.2.2.1 (by omega)
    refine ⟨b2, X2, f2, ?_, k2.2.2.2.2.2.2.2.2.2.2.2.2.2.1, x2.1, x2.2.1⟩
    rw [m2]
    exact l2.symm
theorem cs_eq {X : KM} {b d : Int → Int} (h : ∀ z, 0 ≤ z → d z = b z) : cs X d = cs X b := by
  refine Prod.ext ?_ rfl
  funext a
  by_cases e : a = 232
  · subst e
    simp only [cs, if_true]
    funext k
    rw [h k (by omega)]
  · simp only [cs, if_neg e]
theorem lp63 {b : Int → Int} {c1 c2 : Int32} {κ : KM → Option (Int32 × KM)} : ∀ (k : Nat) (i : Int) (X : KM) (n : Nat), 0 ≤ i → i + k = 290 → k < n → ∃ X', lp_X12_mean_63 n 227 c1 c2 (zI i) (cs X b) κ = κ (cs X' b) ∧ X'.2 = X.2 ∧ (∀ a j, ¬ a = 234 → X'.1 a j = X.1 a j) ∧ (∀ z, 0 ≤ z → z < i → X'.1 234 z.toNat = X.1 234 z.toNat) ∧ (∀ z, i ≤ z → z < 290 → X'.1 234 z.toNat = zI (b z)) := by
  intro k
  induction k with
  | zero =>
    intro i X n h1 h2 hn
    obtain ⟨n, rfl⟩ : ∃ m, n = m + 1 := ⟨n - 1, by omega⟩
    refine ⟨X, ?_, rfl, fun _ _ _ => rfl, fun _ _ _ => rfl, fun z u v => by omega⟩
    rw [lp_X12_mean_63]
    simp (disch := first | omega | assumption) only [↓lt, ↓reduceIte, Option.bind_some, zl, zneg, zadd, zsub, zmul, Int.reduceNeg, Int.reduceMul, ixT, zidx, if_true, if_false, zeqT, zeqF, zltT, zltF, zleT, zleF, ps_2, pu_o, uI_o, uI_s, uI_j, uI_j2, ps_o, Nat.reduceAdd, cs_o, cu_o]
  | succ k ih =>
    intro i X n h1 h2 hn
    obtain ⟨n, rfl⟩ : ∃ m, n = m + 1 := ⟨n - 1, by omega⟩
    obtain ⟨X', e1, e2, e3, e4, e5⟩ := ih (i + 1) (uI X 234 i.toNat (zI (b i))) n (by omega) (by omega) (by omega)
    refine ⟨X', ?_, e2, fun a j u => by rw [e3 a j u, uI_o (by omega)], fun z u v => by rw [e4 z u (by omega), uI_o (by omega)], fun z u v => ?_⟩
    · have ci : ∀ X : KM, (cs X b).1 232 i.toNat = zI (b i) := fun X => cs_c h1
      rw [lp_X12_mean_63]
      simp (disch := first | omega | assumption) only [↓lt, ↓reduceIte, Option.bind_some, zl, zneg, zadd, zsub, zmul, Int.reduceNeg, Int.reduceMul, ixT, zidx, if_true, if_false, zeqT, zeqF, zltT, zltF, zleT, zleF, ps_2, pu_o, uI_o, uI_s, uI_j, uI_j2, ps_o, Nat.reduceAdd, cs_o, cu_o, ci]
      exact e1
    · by_cases w : z = i
      · subst w
        rw [e4 z h1 (by omega), uI_s]
      · exact e5 z (by omega) v
theorem lp118 {b : Int → Int} {c1 c2 c5 : Int32} {c3 : Int64} {κ : KM → Option (Int32 × KM)} {X : KM} (hX : ∀ z, 0 ≤ z → z < 290 → X.1 234 z.toNat = zI (b z)) : ∀ (k : Nat) (i : Int) (d : Int → Int) (n : Nat), 0 ≤ i → i + k = 290 → k < n → (∀ z, 0 ≤ z → z < i → d z = b z) → (∀ z, 290 ≤ z → d z = b z) → lp_X12_mean_118 n 227 c1 c2 c3 c5 (zI i) (cs X d) κ = κ (cs X b) := by
  intro k
  induction k with
  | zero =>
    intro i d n h1 h2 hn hd hz
    obtain ⟨n, rfl⟩ : ∃ m, n = m + 1 := ⟨n - 1, by omega⟩
    rw [← cs_eq (X := X) (b := b) (d := d) (fun z u => by
      by_cases w : z < i
      · exact hd z u w
      · exact hz z (by omega))]
    rw [lp_X12_mean_118]
    simp (disch := first | omega | assumption) only [↓lt, ↓reduceIte, Option.bind_some, zl, zneg, zadd, zsub, zmul, Int.reduceNeg, Int.reduceMul, ixT, zidx, if_true, if_false, zeqT, zeqF, zltT, zltF, zleT, zleF, ps_2, pu_o, uI_o, uI_s, uI_j, uI_j2, ps_o, Nat.reduceAdd, cs_o, cu_o]
  | succ k ih =>
    intro i d n h1 h2 hn hd hz
    obtain ⟨n, rfl⟩ : ∃ m, n = m + 1 := ⟨n - 1, by omega⟩
    have e := ih (i + 1) (bu d i (b i)) n (by omega) (by omega) (by omega) (fun z u v => by
      by_cases w : z = i
      · rw [w, bu_s]
      · rw [bu_o w]; exact hd z u (by omega)) (fun z u => by rw [bu_o (by omega)]; exact hz z u)
    have xi := hX i h1 (by omega)
    rw [lp_X12_mean_118]
    simp (disch := first | omega | assumption) only [↓lt, ↓reduceIte, Option.bind_some, zl, zneg, zadd, zsub, zmul, Int.reduceNeg, Int.reduceMul, ixT, zidx, if_true, if_false, zeqT, zeqF, zltT, zltF, zleT, zleF, ps_2, pu_o, uI_o, uI_s, uI_j, uI_j2, ps_o, Nat.reduceAdd, cs_o, cu_o, xi, cu_c]
    exact e
