/-! ===== land, days: letters, in the reference's loop ===== -/
theorem uJI {M : KM} {r i j : Nat} {v w : Int64} {a c : Int32} : uI (uJ (uI (uJ M r i v) r j a) r i w) r j c = uI (uJ M r i w) r j c := by
  refine Prod.ext ?_ (Prod.ext ?_ rfl)
  · funext d l
    by_cases e : d = r ∧ l = j
    · rw [e.1, e.2, uI_s, uI_s]
    · rw [uI_o e, uI_o e]
      show (uI (uJ M r i v) r j a).1 d l = M.1 d l
      rw [uI_o e]; rfl
  · funext d l
    show (uJ (uI (uJ M r i v) r j a) r i w).2.1 d l = (uJ M r i w).2.1 d l
    by_cases e : d = r ∧ l = i
    · rw [e.1, e.2, uJ_s, uJ_s]
    · rw [uJ_o e, uJ_o e]
      show (uJ M r i v).2.1 d l = _
      rw [uJ_o e]
theorem m_letters {T : Int → Int} {E s : Int} {κ : KM → Option KM} (h1 : 0 ≤ E) (h2 : E ≤ 900) (hs : 0 ≤ s) : ∀ (k : Nat) (p v : Int) (X : KM) (n : Nat), X.1 227 9 = zI E → (∀ z, 0 ≤ z → z < 900 → X.1 231 z.toNat = zI (T z) ∧ -128 ≤ T z ∧ T z < 128) → X.1 227 15 = zI s → X.1 227 16 = zI p → X.2.1 227 19 = lI v → s ≤ p → p ≤ E → E - p ≤ k → k < n → ∃ X', lp_X12_advance_109 n 227 X κ = κ X' ∧ X' = uI (uJ X 227 19 (lI (wmB T E s k p v).2)) 227 16 (zI (wmB T E s k p v).1) := by
  intro k
  induction k with
  | zero =>
    intro p v X n h9 hT h15 h16 h19 p1 p2 hk hn
    obtain ⟨n, rfl⟩ : ∃ m, n = m + 1 := ⟨n - 1, by omega⟩
    have lk := m_look2 (n := n) h9 hT h1 h2 (show 0 ≤ p by omega) (by omega)
    rw [show byB T E p = 0 from if_neg (by omega)] at lk
    have dg : f_X12_isLetter (zI 0) X = zI 0 := by rw [m_isLetter (by decide) (by decide), bIF (by decide)]
    refine ⟨X, ?_, ?_⟩
    · rw [lp_X12_advance_109]
      simp (disch := first | omega | assumption) only [↓lt, zl, h16, lk, Option.bind_some, dg, zeqT, if_true]
    · simp only [wmB]
      rw [← h19, ← h16]
      refine Prod.ext ?_ (Prod.ext ?_ rfl)
      · funext d l
        by_cases e : d = 227 ∧ l = 16
        · rw [e.1, e.2, uI_s]
        · rw [uI_o e]; rfl
      · funext d l
        show _ = (uJ X 227 19 (X.2.1 227 19)).2.1 d l
        by_cases e : d = 227 ∧ l = 19
        · rw [e.1, e.2, uJ_s]
        · rw [uJ_o e]
  | succ k ih =>
    intro p v X n h9 hT h15 h16 h19 p1 p2 hk hn
    obtain ⟨n, rfl⟩ : ∃ m, n = m + 1 := ⟨n - 1, by omega⟩
    have e : X = uI (uJ X 227 19 (lI v)) 227 16 (zI p) := by
      rw [← h19, ← h16]
      refine Prod.ext ?_ (Prod.ext ?_ rfl)
      · funext d l
        by_cases e : d = 227 ∧ l = 16
        · rw [e.1, e.2, uI_s]
        · rw [uI_o e]; rfl
      · funext d l
        show _ = (uJ X 227 19 (X.2.1 227 19)).2.1 d l
        by_cases e : d = 227 ∧ l = 19
        · rw [e.1, e.2, uJ_s]
        · rw [uJ_o e]
    have lk := m_look2 (n := n) h9 hT h1 h2 (show 0 ≤ p by omega) (by omega)
    have br := byB_r (T := T) (E := E) (p := p)
    have dg := m_isLetter (M := X) br.1 br.2
    by_cases w : p < E ∧ 97 ≤ T p ∧ T p ≤ 122
    · have bp : byB T E p = T p := by
        rw [show byB T E p = T p % 256 from if_pos w.1]; omega
      rw [bp] at lk dg
      rw [bIT w.2] at dg
      have st : ∀ v1 : Int, (wmB T E s (k + 1) p v = wmB T E s k (p + 1) v1) → ∃ X', lp_X12_advance_109 n 227 (uI (uJ X 227 19 (lI v1)) 227 16 (zI (p + 1))) κ = κ X' ∧ X' = uI (uJ X 227 19 (lI (wmB T E s (k + 1) p v).2)) 227 16 (zI (wmB T E s (k + 1) p v).1) := fun v1 hv => by
        obtain ⟨X', i1, i2⟩ := ih (p + 1) v1 (uI (uJ X 227 19 (lI v1)) 227 16 (zI (p + 1))) n (by rw [uI_o (by omega)]; exact h9) (fun z u v => by rw [uI_o (by omega)]; exact hT z u v) (by rw [uI_o (by omega)]; exact h15) uI_s uJ_s (by omega) (by omega) (by omega) (by omega)
        exact ⟨X', i1, by rw [i2, uJI, hv]⟩
      have h16' : ∀ c, (uJ X 227 19 c).1 227 16 = zI p := fun _ => h16
      by_cases q : 8 ≤ p - s
      · obtain ⟨X', s1, s2⟩ := st (-1) (by simp only [wmB]; rw [if_pos w, if_pos q])
        refine ⟨X', ?_, s2⟩
        rw [lp_X12_advance_109]
        simp (disch := first | omega | assumption) only [↓lt, zl, ll, lneg, Int.reduceNeg, h16, h16', h15, lk, Option.bind_some, dg, zeqF, if_false, zsub, zleT, if_true, zadd]
        exact s1
      · obtain ⟨X', s1, s2⟩ := st (v * 32 + T p - 96) (by simp only [wmB]; rw [if_pos w, if_neg q])
        refine ⟨X', ?_, s2⟩
        rw [lp_X12_advance_109]
        simp (disch := first | omega | assumption) only [↓lt, zl, ll, h16, h16', h15, h19, lk, Option.bind_some, dg, zeqF, if_false, zsub, zleF, zadd, zwide, lmul, ladd, lsub]
        exact s1
    · have w2 : ¬ (97 ≤ byB T E p ∧ byB T E p ≤ 122) := by
        unfold byB
        by_cases q : p < E
        · rw [if_pos q]
          have t := (hT p (by omega) (by omega)).2
          omega
        · rw [if_neg q]; omega
      rw [bIF w2] at dg
      refine ⟨X, ?_, ?_⟩
      · rw [lp_X12_advance_109]
        simp (disch := first | omega | assumption) only [↓lt, zl, h16, lk, Option.bind_some, dg, zeqT, if_true]
      · rw [show wmB T E s (k + 1) p v = (p, v) from if_neg w]; exact e
