/-! ===== days: the head of a step ===== -/
/-- the reference from the word of a step on, to its mark -/
def sgB (n : Nat) (q : Int32) (M5 : KM) : Option KM :=
  (f_X12_advance n 227 (uI M5 227 27 ((M5.1 227 27) + (1 : Int32)))).bind fun (v8 : KM) =>
    if ix (((2540 : Int32) + ((9 : Int32) * (M5.1 227 27)))) 2810 then
      (f_X12_readRest n 227 (((2540 : Int32) + ((9 : Int32) * (M5.1 227 27)))) (uI v8 232 ((((2540 : Int32) + ((9 : Int32) * (M5.1 227 27))))).toNatClampNeg q)).bind fun (v11 : KM) =>
      f_X12_must n 227 (f_X12_isSign 227 (59 : Int32) v11) v11
    else none
/-- both answers to the head of a step: k 1 where a block begins -/
def HR (T : Int → Int) (E : Int) (P L : Nat) (d e j : Int) (b : Int → Int) (s : Int) (M X : KM) (k : Int) (cl : Option (Int32 × KM)) (mo : Option KM) : Prop :=
  ∃ r M' X', cl = some (r, M') ∧ mo = some X' ∧ FD P j d M M' ∧ GX e X X' ∧ ((r = zI 1 ∧ ∃ b' s' k' j' v', GD T E 8 s' k' j' v' M' X' ∧ s < s' ∧ DS P L (d + k) (e + 1) (j + 1) b' M' X' ∧ (∀ z, z < 2540 + 9 * e → b' z = b z) ∧ M'.1 (P + 5) j.toNat = zI j ∧ ((k = 0 ∧ PSt M' P (dcB b') (292 + 9 * e) j) ∨ (k = 1 ∧ PBl M' P (dcB b') (292 + 9 * e) j ∧ M'.1 11 d.toNat = zI j))) ∨ (r = zI 0 ∧ BD 8 M' X'))
theorem dc_at {b : Int → Int} {z : Int} (h : 290 ≤ z) : dcB b z = b (2248 + z) := if_neg (by omega)
theorem dc_lo {b : Int → Int} {z : Int} (h : z < 290) : dcB b z = b z := if_pos h
/-- up to the mark all went well -/
theorem hd_fin {T : Int → Int} {E s s3 k3 j3 v3 : Int} {M X M3 X3 : KM} {P L n m : Nat} {d e j k q x y z : Int} {b b3 : Int → Int} (hE : 0 ≤ E ∧ E ≤ 900) (hP : 11 < P) (hL : 23 ≤ L) (hPL : P + 6 ≤ L ∨ L + 8 ≤ P) (hd : 0 ≤ d ∧ d + k ≤ 3 ∧ 0 ≤ k ∧ k ≤ 1) (he : 0 ≤ e ∧ e < 30) (hj : 0 ≤ j ∧ j + d ≤ 2 * e) (g : GD T E 8 s3 k3 j3 v3 M3 X3) (hs : s < s3) (hr : ∀ i : Nat, X3.1 232 i = zI (b3 i)) (hb : ∀ z, z < 2540 + 9 * e → b3 z = b z) (h5 : M3.1 P 5 = zI j) (h6 : M3.1 P 6 = zI e) (h27 : X3.1 227 27 = zI (e + 1)) (h13 : M3.1 8 13 = zI (d + k)) (hN : NA L 0 (b 0) (b 2) M3 X3) (ho : k = 1 → M3.1 11 d.toNat = zI j) (hF : FD P j d M M3) (hG : GX e X X3) (q0 : 0 ≤ q) (q9 : q < 10 ∨ q = 11)
    (F : ∀ M' : KM, M'.1 (P + 1) j.toNat = zI q → M'.1 (P + 2) j.toNat = zI x → M'.1 (P + 3) j.toNat = zI y → M'.1 (P + 4) j.toNat = zI z → (k = 0 ∧ PSt M' P (dcB b3) (292 + 9 * e) j) ∨ (k = 1 ∧ PBl M' P (dcB b3) (292 + 9 * e) j)) (hn : 1000 < n) (hm : 1000 < m) :
    ∃ r M', f_X0_addStep n 8 P (zI q) (zI x) (zI y) (zI z) M3 = some (r, M') ∧ (r = zI 1 ∨ r = zI 0) ∧ HR T E P L d e j b s M X k (some (r, M')) (f_X12_must m 227 (f_X12_isSign 227 (59 : Int32) X3) X3) := by
  rcases st_end (n := n) (m := m) (d := d) (q := q) (x := x) (y := y) (z := z) hE hP g h5 h6 hj.1 (by omega) q0 q9 hn hm with ⟨M', X', s', k', j', v', a1, a2, a3, a4, a5, a6, a7, a8, a9, a10, a11, a12, a13, a14, a15⟩ | ⟨M', X', a1, a2, a3⟩
  · refine ⟨_, M', a1, Or.inl rfl, _, M', X', rfl, a2, FD_t (Int.le_refl _) (Int.le_refl _) hF a5, GX_C hG a6, Or.inl ⟨rfl, b3, s', k', j', v', a3, by omega, ⟨fun i => by rw [a6.1 _ _ (by omega)]; exact hr i, by rw [a7]; exact h13, a10, by rw [a6.1 _ _ (by omega)]; exact h27, a9, by omega, by omega, by omega, by omega, by omega, by omega, ?_⟩, hb, a15, ?_⟩⟩
    · rw [hb 0 (by omega), hb 2 (by omega)]
      exact NA_of (by omega) (fun i => a5.1 _ _ (by omega) (by omega) (by omega)) (fun c i u w => a5.2.2.2.2.1 c i (by omega)) (fun i u w => a6.1 _ _ (by omega)) (fun i => a6.2.1 _ _ (by omega)) hN
    · rcases F M' a11 a12 a13 a14 with f | f
      · exact Or.inl f
      · exact Or.inr ⟨f.1, f.2, by rw [a8]; exact ho f.1⟩
  · exact ⟨_, M', a1, Or.inr rfl, _, M', X', rfl, a2, FD_C hP hF a3.2.1, GX_C hG a3.2.2, Or.inr ⟨rfl, a3.1⟩⟩
/-- a fault on the way -/
theorem hd_bad {T : Int → Int} {E s : Int} {P L : Nat} {d e j k : Int} {b : Int → Int} {M X M' Y : KM} (f : BD 8 M' Y) (hF : FD P j d M M') (hG : GX e X Y) : HR T E P L d e j b s M X k (some (zI 0, M')) (some Y) :=
  ⟨_, M', Y, rfl, rfl, hF, hG, Or.inr ⟨rfl, f⟩⟩
/-- the word of a step, and its kind -/
theorem head0 {T : Int → Int} {E s k jj v : Int} {M X : KM} {P L n m : Nat} {d e j q : Int} {b : Int → Int} (hE : 0 ≤ E ∧ E ≤ 900) (hP : 11 < P) (hL : 23 ≤ L) (g : GD T E 8 s k jj v M X) (hk : ¬ k = 0) (hD : DS P L d e j b M X) (he : e < 30) (hn : 1000 < n) (hm : 1000 < m) :
    ∃ M1 X1 s1 k1 j1 v1, f_X9_advance n 8 M = some M1 ∧ GD T E 8 s1 k1 j1 v1 M1 X1 ∧ s < s1 ∧ FC 8 M M1 ∧ GX e X X1 ∧ (∀ i : Nat, X1.1 232 i = zI (bu b (2540 + 9 * e) q i)) ∧ X1.1 227 27 = zI (e + 1) ∧ NA L 0 (b 0) (b 2) M1 X1 ∧ sgB m (zI q) X = (f_X12_readRest m 227 (zI (2540 + 9 * e)) X1).bind fun (v11 : KM) => f_X12_must m 227 (f_X12_isSign 227 (59 : Int32) v11) v11 := by
  obtain ⟨d1, d2, d3, d4, d5, d6, d7, d8, d9, d10, d11, d12⟩ := hD
  have g' : GD T E 8 s k jj v M (uI X 227 27 (zI (e + 1))) := GD_of (M := M) (X := X) (fun _ _ _ => rfl) (fun _ _ _ => rfl) rfl (fun c i w => uI_o (by omega)) rfl g
  obtain ⟨M1, X1, s1, k1, j1, v1, e1, e2, e3, e4, e5, e6, e7, e8⟩ := gd_adv2 (Or.inr rfl) hE g' hn hm
  refine ⟨M1, uI X1 232 (2540 + 9 * e).toNat (zI q), s1, k1, j1, v1, e1, GD_of (M := M1) (X := X1) (fun _ _ _ => rfl) (fun _ _ _ => rfl) rfl (fun c i w => uI_o (by omega)) rfl e3, e5 hk, e7, ⟨fun c i w1 w2 => ?_, fun c i w => e8.2.1 c i w, e8.2.2⟩, row_bu (by omega) (fun i => ?_), ?_, ?_, ?_⟩
  · rw [uI_o (by omega), e8.1 c i (by omega), uI_o (by omega)]
  · rw [e8.1 _ _ (by omega), uI_o (by omega)]; exact d1 i
  · rw [uI_o (by omega), e8.1 _ _ (by omega), uI_s]
  · exact NA_of (by omega) (fun i => e7.1 _ _ (by omega)) (fun c i u w => e7.2.1 _ _ (by omega)) (fun i u w => by rw [uI_o (by omega), e8.1 _ _ (by omega), uI_o (by omega)]) (fun i => e8.2.1 _ _ (by omega)) d12
  · unfold sgB
    simp (disch := first | omega | assumption) only [↓lt, ↓reduceIte, zl, d4, zadd, zmul, ixT, zidx, e2, Option.bind_some]
theorem c_dstart {M M1 : KM} {P n : Nat} {e : Int} (h6 : M.1 P 6 = zI e) (e0 : 0 ≤ e) (e30 : e < 30) (ha : f_X9_advance n 8 M = some M1) : f_X0_start n 8 P M = some (zI 1, M1) := by
  unfold f_X0_start f_X9_skip
  simp (disch := first | omega | assumption) only [↓lt, ↓reduceIte, zl, h6, zltT, if_true, ha, Option.bind_some]
/-- a step of its word alone -/
theorem hd_word {T : Int → Int} {E s k jj v : Int} {M X : KM} {P L n m : Nat} {d e j q c : Int} {b : Int → Int} (hE : 0 ≤ E ∧ E ≤ 900) (hP : 11 < P) (hL : 23 ≤ L) (hPL : P + 6 ≤ L ∨ L + 8 ≤ P) (g : GD T E 8 s k jj v M X) (hk : ¬ k = 0) (hD : DS P L d e j b M X) (he : e < 30) (hq : (q = 3 ∧ c = 3) ∨ (q = 4 ∧ c = 4) ∨ (q = 5 ∧ c = 5) ∨ (q = 8 ∧ c = 11)) (hn : 1000 < n) (hm : 1000 < m) :
    HR T E P L d e j b s M X 0 (sq (f_X0_start n 8 P) (f_X0_addStep n 8 P (zI c) (zI 0) (zI 0) (zI 0)) M) (sgB m (zI q) X) := by
  have hD2 := hD
  obtain ⟨d1, d2, d3, d4, d5, d6, d7, d8, d9, d10, d11, d12⟩ := hD2
  obtain ⟨M1, X1, s1, k1, j1, v1, e1, g1, l1, fm1, fx1, r1, t1, n1, mo⟩ := head0 (q := q) hE hP hL g hk hD he hn hm
  have hw : f_X12_readRest m 227 (zI (2540 + 9 * e)) X1 = some X1 := by
    have x1 : X1.1 232 (2540 + 9 * e).toNat = zI q := by
      have := r1 (2540 + 9 * e).toNat
      rw [Int.toNat_of_nonneg (by omega), bu_s] at this
      exact this
    unfold f_X12_readRest
    simp (disch := first | omega | assumption) only [↓lt, ↓reduceIte, zl, ixT, zidx, x1, zeqF, zleT]
  rw [mo, hw, Option.bind_some]
  obtain ⟨r, M', a1, a2, a3⟩ := hd_fin (d := d) (e := e) (j := j) (P := P) (L := L) (M := M) (X := X) (s := s) (k := 0) (q := c) (x := 0) (y := 0) (z := 0) (n := n) (m := m) (b := b) hE hP hL hPL (by omega) (by omega) ⟨d10, by omega⟩ g1 l1 r1 (fun z hz => bu_o (by omega)) (by rw [fm1.1 _ _ (by omega)]; exact d5) (by rw [fm1.1 _ _ (by omega)]; exact d3) t1 (by rw [fm1.1 _ _ (by omega), d2]; congr 1; omega) n1 (fun h => by omega) (FC_D hP fm1) fx1 (by omega) (by omega) (fun M' f1 f2 f3 f4 => Or.inl ⟨rfl, by
    unfold PSt
    rw [dc_at (by omega), show 2248 + (292 + 9 * e) = 2540 + 9 * e by omega, bu_s, f1]
    rcases hq with ⟨h1, h2⟩ | ⟨h1, h2⟩ | ⟨h1, h2⟩ | ⟨h1, h2⟩
    · subst h1; subst h2; exact Or.inr (Or.inr (Or.inr (Or.inl ⟨rfl, rfl⟩)))
    · subst h1; subst h2; exact Or.inr (Or.inr (Or.inr (Or.inr (Or.inl ⟨rfl, rfl⟩))))
    · subst h1; subst h2; exact Or.inr (Or.inr (Or.inr (Or.inr (Or.inr (Or.inl ⟨rfl, rfl⟩)))))
    · subst h1; subst h2; exact Or.inr (Or.inr (Or.inr (Or.inr (Or.inr (Or.inr ⟨rfl, rfl⟩)))))⟩) hn hm
  rw [sq_1 (c_dstart d3 d8 he e1) a1 a2]
  exact a3
/-- a step with a number -/
theorem c_numStep {M M' : KM} {P n : Nat} {q hi x : Int} {r : Int32} {M1 : KM} (h1 : f_X9_takeNumber n 8 (zI 1) (zI hi) M = some (zI x, M1)) (x0 : 1 ≤ x) (x1 : x ≤ 10000) (h2 : f_X0_addStep n 8 P (zI q) (zI x) (zI 0) (zI 0) M1 = some (r, M')) (hr : r = zI 1 ∨ r = zI 0) : f_X0_readNumberStep n 8 P (zI q) (zI hi) M = some (r, M') := by
  unfold f_X0_readNumberStep
  rw [show f_X9_takeNumber n 8 (1 : Int32) (zI hi) M = _ from h1, Option.bind_some]
  simp only
  rw [if_neg (by rw [show (-1 : Int32) = zI (-1) from rfl, zeqF (by omega) (by omega) (by omega) (by omega) (by omega)]; exact id), show f_X0_addStep n 8 P (zI q) (zI x) (0 : Int32) (0 : Int32) M1 = _ from h2, Option.bind_some]
  rcases hr with hr | hr
  · rw [hr, if_neg (show ¬ zI 1 = 0 by decide)]; rfl
  · rw [hr, if_pos (show zI 0 = 0 by decide)]; rfl
theorem c_numStep0 {M M1 : KM} {P n : Nat} {q hi : Int} (h1 : f_X9_takeNumber n 8 (zI 1) (zI hi) M = some (zI (-1), M1)) : f_X0_readNumberStep n 8 P (zI q) (zI hi) M = some (zI 0, M1) := by
  unfold f_X0_readNumberStep
  rw [show f_X9_takeNumber n 8 (1 : Int32) (zI hi) M = _ from h1, Option.bind_some, if_pos (show zI (-1) = (-1 : Int32) by decide)]
  rfl
theorem m_restNum {X X' : KM} {n : Nat} {w q hi x : Int} (w0 : 0 ≤ w) (w1 : w + 8 < 2810) (hq : (q = 0 ∧ hi = 600) ∨ (q = 7 ∧ hi = 99)) (hX : X.1 232 w.toNat = zI q) (hc : f_X12_count n 227 (zI 1) (zI hi) X = some (zI x, X')) : f_X12_readRest n 227 (zI w) X = some (uI X' 232 (w + 1).toNat (zI x)) := by
  unfold f_X12_readRest
  rcases hq with ⟨h1, h2⟩ | ⟨h1, h2⟩
  · subst h1; subst h2
    simp (disch := first | omega | assumption) only [↓lt, ↓reduceIte, zl, ixT, zidx, hX, zeqT, zeqF, hc, Option.bind_some, zadd]
  · subst h1; subst h2
    simp (disch := first | omega | assumption) only [↓lt, ↓reduceIte, zl, ixT, zidx, hX, zeqT, zeqF, hc, Option.bind_some, zadd]
theorem hd_wait {T : Int → Int} {E s k jj v : Int} {M X : KM} {P L n m : Nat} {d e j : Int} {b : Int → Int} (hE : 0 ≤ E ∧ E ≤ 900) (hP : 11 < P) (hL : 23 ≤ L) (hPL : P + 6 ≤ L ∨ L + 8 ≤ P) (g : GD T E 8 s k jj v M X) (hk : ¬ k = 0) (hD : DS P L d e j b M X) (he : e < 30) (hn : 1000 < n) (hm : 1000 < m) :
    HR T E P L d e j b s M X 0 (sq (f_X0_start n 8 P) (f_X0_readNumberStep n 8 P (zI 0) (zI 600)) M) (sgB m (zI 0) X) := by
  have hD2 := hD
  obtain ⟨d1, d2, d3, d4, d5, d6, d7, d8, d9, d10, d11, d12⟩ := hD2
  obtain ⟨M1, X1, s1, k1, j1, v1, e1, g1, l1, fm1, fx1, r1, t1, n1, mo⟩ := head0 (q := 0) hE hP hL g hk hD he hn hm
  have x1 : X1.1 232 (2540 + 9 * e).toNat = zI 0 := by
    have := r1 (2540 + 9 * e).toNat
    rw [Int.toNat_of_nonneg (by omega), bu_s] at this
    exact this
  rw [mo]
  rcases j_num2 (lo := 1) (hi := 600) (Or.inr rfl) hE g1 (by omega) (by omega) (by omega) (by omega) hn hm with ⟨M2, X2, x, c1, m1, x0, x9, s2, k2, j2, v2, g2, l2, -, fm2, fx2⟩ | ⟨M2, X2, c1, m1, b1⟩
  · rw [m_restNum (by omega) (by omega) (Or.inl ⟨rfl, rfl⟩) x1 m1, Option.bind_some]
    have fm2' := FC_t fm1 fm2
    have g3 : GD T E 8 s2 k2 j2 v2 M2 (uI X2 232 (2540 + 9 * e + 1).toNat (zI x)) := GD_of (M := M2) (X := X2) (fun _ _ _ => rfl) (fun _ _ _ => rfl) rfl (fun c i w => uI_o (by omega)) rfl g2
    obtain ⟨r, M', a1, a2, a3⟩ := hd_fin (d := d) (e := e) (j := j) (P := P) (L := L) (M := M) (X := X) (s := s) (k := 0) (q := 0) (x := x) (y := 0) (z := 0) (n := n) (m := m) (b := b) (b3 := bu (bu b (2540 + 9 * e) 0) (2540 + 9 * e + 1) x) hE hP hL hPL (by omega) (by omega) ⟨d10, by omega⟩ g3 (by omega) (row_bu (by omega) (fun i => by rw [fx2.1 _ _ (by omega)]; exact r1 i)) (fun z hz => by rw [bu_o (by omega), bu_o (by omega)]) (by rw [fm2'.1 _ _ (by omega)]; exact d5) (by rw [fm2'.1 _ _ (by omega)]; exact d3) (by rw [uI_o (by omega), fx2.1 _ _ (by omega)]; exact t1) (by rw [fm2'.1 _ _ (by omega), d2]; congr 1; omega) (NA_of (by omega) (fun i => fm2.1 _ _ (by omega)) (fun c i u w => fm2.2.1 _ _ (by omega)) (fun i u w => by rw [uI_o (by omega), fx2.1 _ _ (by omega)]) (fun i => fx2.2.1 _ _ (by omega)) n1) (fun h => by omega) (FC_D hP fm2') (GX_w (by omega) (GX_C fx1 fx2)) (by omega) (by omega) (fun M' f1 f2 f3 f4 => Or.inl ⟨rfl, by
      unfold PSt
      rw [dc_at (by omega), show 2248 + (292 + 9 * e) = 2540 + 9 * e by omega, dc_at (show 290 ≤ 292 + 9 * e + 1 by omega), show 2248 + (292 + 9 * e + 1) = 2540 + 9 * e + 1 by omega, bu_o (by omega), bu_s, bu_s]
      exact Or.inl ⟨rfl, f1, f2, x0, x9⟩⟩) hn hm
    rw [sq_1 (c_dstart d3 d8 he e1) (c_numStep c1 (by omega) (by omega) a1 a2) a2]
    exact a3
  · rw [m_restNum (by omega) (by omega) (Or.inl ⟨rfl, rfl⟩) x1 m1, Option.bind_some]
    have h2 : BD 8 M2 (uI X2 232 (2540 + 9 * e + 1).toNat (zI 0)) := BD_w b1.1
    rw [xb_must (BD_X h2), sq_1 (c_dstart d3 d8 he e1) (c_numStep0 c1) (Or.inr rfl)]
    exact hd_bad h2 (FC_D hP (FC_t fm1 b1.2.1)) (GX_w (by omega) (GX_C fx1 b1.2.2))
