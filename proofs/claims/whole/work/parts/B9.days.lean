/-! ===== days: the class's loop, and an end ===== -/
def kF (P : Nat) (M14 : KM) : Option (Int32 × KM) :=
  if (M14.1 8 13) ≤ 0 then
    lt (uI M14 P 7 (1 : Int32)) fun (M15 : KM) =>
    some ((1 : Int32), M15)
  else
    lt (f_X9_failOrder 8 M14) fun (v16 : (Int32 × KM)) =>
    some (v16.1, v16.2)
theorem c_iter0 {P L n : Nat} {M : KM} {w : Int} {κ : KM → Option (Int32 × KM)} (h : M.1 8 6 = zI 0) : lp_X0_readInto_19 (n + 1) 8 P L (zI w) M κ = κ M := by
  rw [lp_X0_readInto_19]
  by_cases c : (300 : Int32) ≤ zI w
  · rw [if_pos c]
  · rw [if_neg c, lt, c_isAtEnd h (by omega) (by omega), bIT rfl, if_neg (by decide)]
theorem c_iter {P L n : Nat} {M M1 : KM} {w k j : Int} {r : Int32} {κ : KM → Option (Int32 × KM)} (h6 : M.1 8 6 = zI k) (k0 : 0 ≤ k) (k4 : k ≤ 4) (hk : ¬ k = 0) (h7 : M.1 8 7 = zI j) (j0 : -1 ≤ j) (j1 : j < 26) (hj : ¬ j = 24) (w0 : 0 ≤ w) (w1 : w < 300) (hr : f_X0_readStep n 8 P L M = some (r, M1)) : lp_X0_readInto_19 (n + 1) 8 P L (zI w) M κ = if r = 0 then some (zI 0, M1) else lp_X0_readInto_19 n 8 P L (zI (w + 1)) M1 κ := by
  rw [lp_X0_readInto_19, if_neg (by rw [show (300 : Int32) = zI 300 from rfl, zleF (by omega) (by omega) (by omega)]; exact id), lt, c_isAtEnd h6 k0 k4, bIF hk, if_pos (by decide), lt, h7, if_neg (by rw [show (24 : Int32) = zI 24 from rfl, zeqF hj (by omega) (by omega) (by omega) (by omega)]; exact id), hr, Option.bind_some]
  simp only [lt]
  rw [show (1 : Int32) = zI 1 from rfl, zadd]
  rfl
theorem c_iterE {P L n : Nat} {M M1 : KM} {w k : Int} {r : Int32} {κ : KM → Option (Int32 × KM)} (h6 : M.1 8 6 = zI k) (k0 : 0 ≤ k) (k4 : k ≤ 4) (hk : ¬ k = 0) (h7 : M.1 8 7 = zI 24) (w0 : 0 ≤ w) (w1 : w < 300) (hr : f_X0_readEnd n 8 P M = some (r, M1)) : lp_X0_readInto_19 (n + 1) 8 P L (zI w) M κ = if r = 0 then some (zI 0, M1) else lp_X0_readInto_19 n 8 P L (zI (w + 1)) M1 κ := by
  rw [lp_X0_readInto_19, if_neg (by rw [show (300 : Int32) = zI 300 from rfl, zleF (by omega) (by omega) (by omega)]; exact id), lt, c_isAtEnd h6 k0 k4, bIF hk, if_pos (by decide), lt, h7, if_pos (by rfl), hr, Option.bind_some]
  simp only [lt]
  rw [show (1 : Int32) = zI 1 from rfl, zadd]
  rfl
theorem c_close {M : KM} {P n : Nat} {i j : Int} (h5 : M.1 P 5 = zI (j + 1)) (i0 : 0 ≤ i) (ij : i < j) (j60 : j < 60) : f_X8_close n P (zI i) M = some (uI (uI M (P + 5) i.toNat (zI j)) (P + 5) j.toNat (zI i)) := by
  unfold f_X8_close
  rw [lt, h5, show (1 : Int32) = zI 1 from rfl, zsub, show j + 1 - 1 = j by omega]
  simp (disch := first | omega | assumption) only [↓lt, ↓reduceIte, zl, zltF, zleF, if_false, ixT, zidx, if_true]
/-- an end, both -/
theorem j_end {T : Int → Int} {E s k v : Int} {M X : KM} {P n m : Nat} {d e j i : Int} (hE : 0 ≤ E ∧ E ≤ 900) (hP : 11 < P) (g : GD T E 8 s k 24 v M X) (h5 : M.1 P 5 = zI j) (h13 : M.1 8 13 = zI d) (h11 : M.1 11 (d - 1).toNat = zI i) (d1 : 1 ≤ d) (d3 : d ≤ 3) (i0 : 0 ≤ i) (ij : i < j) (j60 : j < 60) (hn : 1000 < n) (hm : 1000 < m) :
    ∃ X1 M' X', f_X12_must m 227 (zI 1) X = some X1 ∧ f_X12_must m 227 (f_X12_isSign 227 (zI 59) X1) X1 = some X' ∧ (∀ c l, ¬ c = 8 → ¬ (P ≤ c ∧ c < P + 6) → M'.1 c l = M.1 c l) ∧ (∀ c l : Nat, P + 1 ≤ c → c < P + 6 → (l : Int) < j → ¬ (c = P + 5 ∧ (l : Int) = i) → M'.1 c l = M.1 c l) ∧ (∀ l, l ≤ 2 → M'.1 8 l = M.1 8 l) ∧ (∀ l, ¬ l = 5 → M'.1 P l = M.1 P l) ∧ (∀ c l, ¬ (c = 8 ∧ l = 9) → M'.2.1 c l = M.2.1 c l) ∧ M'.2.2 = M.2.2 ∧ GC X X' ∧
      ((f_X0_readEnd n 8 P M = some (zI 1, M') ∧ ∃ s' k' j' v', GD T E 8 s' k' j' v' M' X' ∧ s + 1 < s' ∧ M'.1 8 13 = zI (d - 1) ∧ M'.1 P 5 = zI (j + 1) ∧ M'.1 (P + 1) j.toNat = zI 10 ∧ M'.1 (P + 5) i.toNat = zI j ∧ M'.1 (P + 5) j.toNat = zI i) ∨ (f_X0_readEnd n 8 P M = some (zI 0, M') ∧ BD 8 M' X')) := by
  have hk : k = 1 := (SG_s g.2.1).2.2.2.2.2.2.2.2.2.2 (by omega)
  have g0 : GD T E 8 s k 24 v (uI M 8 13 (zI (d - 1))) X := GD_of (M := M) (X := X) (fun c l w => uI_o (by omega)) (fun _ _ _ => rfl) rfl (fun _ _ _ => rfl) rfl g
  obtain ⟨M1, X1, s1, k1, j1, v1, e1, e2, g1, -, l1, -, fm1, fx1⟩ := gd_adv2 (Or.inr rfl) hE g0 hn hm
  have l1 := l1 (by omega)
  have a5 : M1.1 P 5 = zI j := by rw [fm1.1 _ _ (by omega), uI_o (by omega)]; exact h5
  have a13 : M1.1 8 13 = zI (d - 1) := by rw [fm1.1 _ _ (by omega), uI_s]
  have a11 : M1.1 11 (d - 1).toNat = zI i := by rw [fm1.1 _ _ (by omega), uI_o (by omega)]; exact h11
  -- add and close
  have ad : f_X8_add n P (10 : Int32) (0 : Int32) (0 : Int32) (0 : Int32) M1 = some (zI 1, adR M1 P j 10 0 0 0) := by
    have := c_add (n := n) (M := M1) (P := P) (j := j) (e := (M1.1 P 6).toInt) (q := 10) (x := 0) (y := 0) (z := 0) a5 (z_of _) (by omega) j60 (by omega) (by omega)
    rw [if_pos rfl] at this
    exact this
  obtain ⟨r1, r2, r3, r4, r5, r6, r7⟩ := adR_v (M := M1) (P := P) (j := j) (q := 10) (x := 0) (y := 0) (z := 0)
  have ro := fun c l w1 w2 => @adR_o M1 P c l j 10 0 0 0 w1 w2
  generalize adR M1 P j 10 0 0 0 = N at *
  have n13 : N.1 8 13 = zI (d - 1) := by rw [ro _ _ (by omega) (by omega)]; exact a13
  have n11 : N.1 11 (d - 1).toNat = zI i := by rw [ro _ _ (by omega) (by omega)]; exact a11
  have cc := c_close (n := n) r6 i0 ij j60
  have g2 : GD T E 8 s1 k1 j1 v1 (uI (uI N (P + 5) i.toNat (zI j)) (P + 5) j.toNat (zI i)) X1 := GD_of (M := M1) (X := X1) (fun c l w => by rw [uI_o (by omega), uI_o (by omega), ro _ _ (by omega) (by omega)]) (fun c l w => by rw [uI_j1, uI_j1, r7]) (by rw [uI_j2, uI_j2, r7]) (fun _ _ _ => rfl) rfl g1
  have Ko : ∀ c l, ¬ (c = P + 5 ∧ (l = i.toNat ∨ l = j.toNat)) → (uI (uI N (P + 5) i.toNat (zI j)) (P + 5) j.toNat (zI i)).1 c l = N.1 c l := fun c l w => by rw [uI_o (by omega), uI_o (by omega)]
  have K1 : (uI (uI N (P + 5) i.toNat (zI j)) (P + 5) j.toNat (zI i)).1 (P + 5) i.toNat = zI j := by rw [uI_o (by omega), uI_s]
  have K2 : (uI (uI N (P + 5) i.toNat (zI j)) (P + 5) j.toNat (zI i)).1 (P + 5) j.toNat = zI i := uI_s
  have KJ2 : (uI (uI N (P + 5) i.toNat (zI j)) (P + 5) j.toNat (zI i)).2 = N.2 := rfl
  have cl : ∀ r M', f_X9_takeSemicolon n 8 (uI (uI N (P + 5) i.toNat (zI j)) (P + 5) j.toNat (zI i)) = some (r, M') → f_X0_readEnd n 8 P M = some (r, M') := fun r M' h => by
    unfold f_X0_readEnd f_X9_skip
    simp (disch := first | omega | assumption) only [↓lt, ↓reduceIte, zl, h13, zleF, zleT, zsub]
    rw [e1, Option.bind_some, Option.bind_some, show f_X8_add n P (zI 10) (zI 0) (zI 0) (zI 0) M1 = _ from ad, Option.bind_some]
    simp only
    rw [n13]
    simp (disch := first | omega | assumption) only [↓reduceIte, ixT, zidx, n11, cc, Option.bind_some, h]
  generalize (uI (uI N (P + 5) i.toNat (zI j)) (P + 5) j.toNat (zI i)) = K at *
  have mm : f_X12_must m 227 (zI 1) X = some X1 := m_must1 g.2.2.1 e2
  have F : ∀ M' : KM, FC 8 K M' → (∀ c l, ¬ c = 8 → ¬ (P ≤ c ∧ c < P + 6) → M'.1 c l = M.1 c l) ∧ (∀ c l : Nat, P + 1 ≤ c → c < P + 6 → (l : Int) < j → ¬ (c = P + 5 ∧ (l : Int) = i) → M'.1 c l = M.1 c l) ∧ (∀ l, l ≤ 2 → M'.1 8 l = M.1 8 l) ∧ (∀ l, ¬ l = 5 → M'.1 P l = M.1 P l) ∧ (∀ c l, ¬ (c = 8 ∧ l = 9) → M'.2.1 c l = M.2.1 c l) ∧ M'.2.2 = M.2.2 := fun M' f => by
    refine ⟨fun c l w1 w2 => ?_, fun c l w1 w2 w3 w4 => ?_, fun l w => ?_, fun l w => ?_, fun c l w => ?_, ?_⟩
    · rw [f.1 _ _ (by omega), Ko _ _ (by omega), ro _ _ (by omega) (by omega), fm1.1 _ _ (by omega), uI_o (by omega)]
    · rw [f.1 _ _ (by omega), Ko _ _ (by omega), ro _ _ (by omega) (by omega), fm1.1 _ _ (by omega), uI_o (by omega)]
    · rw [f.1 _ _ (by omega), Ko _ _ (by omega), ro _ _ (by omega) (by omega), fm1.1 _ _ (by omega), uI_o (by omega)]
    · rw [f.1 _ _ (by omega), Ko _ _ (by omega), ro _ _ (by omega) (by omega), fm1.1 _ _ (by omega), uI_o (by omega)]
    · rw [f.2.1 _ _ w, KJ2, r7, fm1.2.1 _ _ w]; rfl
    · rw [f.2.2, KJ2, r7, fm1.2.2]; rfl
  rcases j_semi2 (Or.inr rfl) hE g2 hn hm with ⟨M', X', f1, f2, s', k', j', v', g3, l3, -, fm3, fx3⟩ | ⟨M', X', f1, f2, f3⟩
  · obtain ⟨q1, q2, q3, q4, q5, q6⟩ := F M' fm3
    refine ⟨X1, M', X', mm, f2, q1, q2, q3, q4, q5, q6, GC_t fx1 fx3, Or.inl ⟨cl _ _ f1, s', k', j', v', g3, by omega, ?_, ?_, ?_, ?_, ?_⟩⟩
    · rw [fm3.1 _ _ (by omega), Ko _ _ (by omega)]; exact n13
    · rw [fm3.1 _ _ (by omega), Ko _ _ (by omega)]; exact r6
    · rw [fm3.1 _ _ (by omega), Ko _ _ (by omega)]; exact r1
    · rw [fm3.1 _ _ (by omega)]; exact K1
    · rw [fm3.1 _ _ (by omega)]; exact K2
  · obtain ⟨q1, q2, q3, q4, q5, q6⟩ := F M' f3.2.1
    exact ⟨X1, M', X', mm, f2, q1, q2, q3, q4, q5, q6, GC_t fx1 f3.2.2, Or.inr ⟨cl _ _ f1, f3.1⟩⟩
