/-! ===== land: a place ===== -/
/-- a new name laid behind those that are there -/
theorem LB_n {S : Nat} {b : Int → Int} {M M' X X' : KM} {o cnt : Int} (hS : Sp S M) (ho : (o = 0 ∧ cnt = sh b 2248 0) ∨ (o = 1 ∧ cnt = sh b 2248 2)) (c8 : cnt < 8) (h1 : FC 5 M M') (h2 : ∀ c i, ¬ (c = 227 ∧ 12 ≤ i ∧ i ≤ 18) → X'.1 c i = X.1 c i) (h3 : ∀ c i, ¬ (c = 227 ∧ i = 19) → ¬ (c = 235 ∧ i = (64 + 8 * o + cnt).toNat) → X'.2.1 c i = X.2.1 c i) (h : LB S b M X) : LB S b M' X' := by
  obtain ⟨a1, a2, a3, a4, a5, a6, a7, a8, a9, a10⟩ := h
  have hh := a2.1
  have S2 := hS.2
  have hP := hS.1
  refine ⟨fun k => by rw [h2 _ _ (by omega)]; exact a1 k, a2, HL_of (fun a k u v => h1.1 a k (by omega)) a3, PB_of (fun a k u v => h1.1 a k (by omega)) (fun _ _ _ => rfl) rfl (by omega) a4, P01_of (fun a k u v => h1.1 a k (by omega)) a5, fun k u v => ?_, fun k u v => ?_, ?_, ?_, ?_⟩
  · rw [h1.2.1 _ _ (by omega), h3 _ _ (by omega) (by omega)]; exact a6 k u v
  · rw [h1.2.1 _ _ (by omega), h3 _ _ (by omega) (by omega)]; exact a7 k u v
  · rw [h1.2.2, h1.1 _ _ (by omega)]; exact a8
  · rw [h1.2.2, h1.1 _ _ (by omega)]; exact a9
  · rw [h1.2.2, h1.1 _ _ (by omega)]; exact a10
theorem TO_of {M M' X X' : KM} (h1 : ∀ i, 12 ≤ i → M'.1 5 i = M.1 5 i) (h2 : ∀ i, 25 ≤ i → X'.1 227 i = X.1 227 i) (h : TO M X) : TO M' X' := by
  obtain ⟨t, u, a1, a2, a3, a4, a5, a6, a7, a8⟩ := h
  exact ⟨t, u, a1, a2, a3, a4, by rw [h1 _ (by omega)]; exact a5, by rw [h2 _ (by omega)]; exact a6, by rw [h1 _ (by omega)]; exact a7, by rw [h2 _ (by omega)]; exact a8⟩
theorem LB_place {S : Nat} {b : Int → Int} {M X : KM} {w : Int64} {c : Int} (hS : Sp S M) (h : LB S b M X) (hc : c = sh b 2248 0) (c8 : c < 8) (hw : X.2.1 235 (64 + c).toNat = w) : LB S (bu b 2248 (c + 1)) (uI (uJ M (S + 1) c.toNat w) S 8 (zI (c + 1))) (uI X 232 2248 (zI (c + 1))) := by
  obtain ⟨a1, a2, a3, a4, a5, a6, a7, a8, a9, a10⟩ := h
  have hh := a2.1
  have S2 := hS.2
  have hP := hS.1
  have s0 : sh (bu b 2248 (c + 1)) 2248 0 = c + 1 := by rw [sh_at (by omega) (by omega)]; exact bu_s
  have sb : ∀ z, 1 ≤ z → z < 562 → sh (bu b 2248 (c + 1)) 2248 z = sh b 2248 z := fun z u v => by
    rw [sh_at (by omega) v, sh_at (by omega) v, bu_o (by omega)]
  have mo : ∀ a k, ¬ (a = S ∧ k = 8) → (uI (uJ M (S + 1) c.toNat w) S 8 (zI (c + 1))).1 a k = M.1 a k := fun a k q => by rw [uI_o q]; rfl
  have mj : ∀ a k, ¬ (a = S + 1 ∧ k = c.toNat) → (uI (uJ M (S + 1) c.toNat w) S 8 (zI (c + 1))).2.1 a k = M.2.1 a k := fun a k q => by
    show (uJ M (S + 1) c.toNat w).2.1 a k = _
    rw [uJ_o q]
  have b1 := sb 1 (by omega) (by omega)
  have b2 := sb 2 (by omega) (by omega)
  have b3 := sb 3 (by omega) (by omega)
  have b4 := sb 4 (by omega) (by omega)
  have b5 := sb 5 (by omega) (by omega)
  have b6 := sb 6 (by omega) (by omega)
  have b7 := sb 7 (by omega) (by omega)
  have b8 := sb 8 (by omega) (by omega)
  have b9 := sb 9 (by omega) (by omega)
  obtain ⟨c0, c1, c2, c5, c6, c7, cc8, c9, c3, c4, cd, ca, cb, cc, cs⟩ := a3
  refine ⟨row_bu (e := 2248) (by omega) a1, CB_h a2 (fun z u v => sb z (by omega) v) b1 b2 b9 (by omega), ⟨?_, ?_, ?_, ?_, ?_, ?_, ?_, ?_, ?_, ?_, ?_, fun r u v => ?_, fun r u v => ?_, fun r u v => ?_, fun r u v => ?_⟩, PB_of (fun a k u v => mo a k (by omega)) (fun z u v => sb z (by omega) (by omega)) b2 (by omega) a4, P01_of (fun a k u v => mo a k (by omega)) a5, fun k u v => ?_, fun k u v => ?_, ?_, ?_, ?_⟩
  · rw [s0]; exact uI_s
  · rw [b1, mo _ _ (by omega)]; exact c1
  · rw [b2, mo _ _ (by omega)]; exact c2
  · rw [b5, mo _ _ (by omega)]; exact c5
  · rw [b6, mo _ _ (by omega)]; exact c6
  · rw [b7, mo _ _ (by omega)]; exact c7
  · rw [b8, mo _ _ (by omega)]; exact cc8
  · rw [b9, mo _ _ (by omega)]; exact c9
  · rw [b3, mo _ _ (by omega)]; exact c3
  · rw [b4, mo _ _ (by omega)]; exact c4
  · rw [b3, b4, mo _ _ (by omega)]; exact cd
  · rw [b1] at v; rw [sb _ (by omega) (by omega), mo _ _ (by omega)]; exact ca r u v
  · rw [b1] at v; rw [sb _ (by omega) (by omega), mo _ _ (by omega)]; exact cb r u v
  · rw [b1] at v; rw [sb _ (by omega) (by omega), mo _ _ (by omega)]; exact cc r u v
  · rw [b1] at v; rw [sb _ (by omega) (by omega), mo _ _ (by omega)]; exact cs r u v
  · rw [s0] at v
    show (uJ M (S + 1) c.toNat w).2.1 (S + 1) k.toNat = X.2.1 235 (64 + k).toNat
    by_cases q : k = c
    · rw [q, uJ_s, hw]
    · rw [uJ_o (by omega)]; exact a6 k u (by omega)
  · rw [b2] at v
    rw [mj _ _ (by omega)]; exact a7 k u v
  · show (uI (uJ M (S + 1) c.toNat w) S 8 (zI (c + 1))).1 (M.2.2 S 7) 5 = _
    rw [mo _ _ (by omega)]; exact a8
  · show (uI (uJ M (S + 1) c.toNat w) S 8 (zI (c + 1))).1 (M.2.2 S 7) 6 = _
    rw [mo _ _ (by omega)]; exact a9
  · show (uI (uJ M (S + 1) c.toNat w) S 8 (zI (c + 1))).1 (M.2.2 S 7) 7 = _
    rw [mo _ _ (by omega)]; exact a10
theorem c_addPlace {M : KM} {S n : Nat} {w : Int64} {c : Int} (h : M.1 S 8 = zI c) (c0 : 0 ≤ c) (c8 : c < 8) : f_X2_addPlace n S w M = some (uI (uJ M (S + 1) c.toNat w) S 8 (zI (c + 1))) := by
  have e : (uJ M (S + 1) c.toNat w).1 S 8 = zI c := h
  unfold f_X2_addPlace
  simp (disch := first | omega | assumption) only [↓lt, ↓reduceIte, zl, h, e, zleF, if_false, ixT, zidx, if_true, zadd]
theorem j_placePart {T : Int → Int} {E s k v : Int} {M X : KM} {n S : Nat} {b : Int → Int} (hE : 0 ≤ E ∧ E ≤ 900) (hS : Sp S M) (h : GD T E 5 s k 6 v M X) (hL : LB S b M X) (hT : TO M X) (hn : 1000 < n) : PcR T E S s n M X (sq (fun M => f_X3_start n 5 (M.1 S 8) (8 : Int32) M) (f_X3_readPlace n 5 S) M) (f_X12_readPlace n 227 X) := by
  have S2 := hS.2
  have hp1 : P01 M S := hL.2.2.2.2.1
  have hN := LB_NA hL
  have hk : k = 1 := (SG_s h.2.1).2.2.2.2.2.2.2.2.2.2 (by omega)
  have m8 : M.1 S 8 = zI (sh b 2248 0) := hL.2.2.1.1
  rcases j_new (o := 0) (cnt := sh b 2248 0) (Or.inl rfl) hE h (by omega) (by omega) hN (Or.inl ⟨rfl, rfl⟩) hn with ⟨M', X', e1, e2, e3⟩ | ⟨M1, e1, ⟨M', X', e2, e3, e4⟩ | ⟨M', X', w, s', k', j', v', w0, c8, e2, e3, g, l, fm, f1, f2, f3, f4⟩⟩
  · have cl : sq (fun M => f_X3_start n 5 (M.1 S 8) (8 : Int32) M) (f_X3_readPlace n 5 S) M = some (zI 0, M') := by
      refine sq_0 ?_
      rw [m8]; exact e1
    obtain ⟨f, d1, d2, d3⟩ := BD_X e3.1
    have mo : f_X12_readPlace n 227 X = some X' := by
      unfold f_X12_readPlace
      simp (disch := first | omega | assumption) only [↓reduceIte, zl, e2, Option.bind_some, d3, zeqF, if_false]
    rw [cl, mo]
    exact pc_bad e3.1 (P01_C (Or.inl rfl) (by omega) e3.2.1 hp1) (FC_M e3.2.1) (GC_X e3.2.2)
  · have cl : sq (fun M => f_X3_start n 5 (M.1 S 8) (8 : Int32) M) (f_X3_readPlace n 5 S) M = some (zI 0, M') := by
      refine sq_1 (M1 := M1) ?_ ?_ (Or.inr rfl)
      · rw [m8]; exact e1
      · unfold f_X3_readPlace
        rw [e2]
        simp only [Option.bind_some]
        rw [if_pos (lgT (show lI 0 = (0 : Int64) from rfl))]
        rfl
    obtain ⟨f, d1, d2, d3⟩ := BD_X e4.1
    have mo : f_X12_readPlace n 227 X = some X' := by
      unfold f_X12_readPlace
      simp (disch := first | omega | assumption) only [↓reduceIte, zl, e3, Option.bind_some, d3, zeqF, if_false]
    rw [cl, mo]
    exact pc_bad e4.1 (P01_C (Or.inl rfl) (by omega) e4.2.1 hp1) (FC_M e4.2.1) (GC_X e4.2.2)
  · have hS' : Sp S M' := ⟨by rw [fm.2.2]; exact hS.1, S2⟩
    have L1 := LB_n hS (Or.inl ⟨rfl, rfl⟩) c8 fm f1 f2 hL
    have L2 := LB_place (w := w) hS' L1 rfl c8 (show X'.2.1 235 (64 + sh b 2248 0).toNat = w by rw [show 64 + sh b 2248 0 = 64 + 8 * 0 + sh b 2248 0 by omega]; exact f3)
    have hh := hL.2.1.1
    have a1 := c_addPlace (n := n) (w := w) (M := M') L1.2.2.1.1 (by omega) c8
    have x0 := g.2.2.1
    have xc : X'.1 232 2248 = zI (sh b 2248 0) := by rw [sh_at (by omega) (by omega)]; exact L1.1 2248
    generalize sh b 2248 0 = c at *
    have g2 : GD T E 5 s' k' j' v' (uI (uJ M' (S + 1) c.toNat w) S 8 (zI (c + 1))) (uI X' 232 2248 (zI (c + 1))) :=
      GD_of (M := M') (X := X') (fun a i q => by rw [uI_o (by omega)]; rfl) (fun a i q => uJ_o (by omega)) rfl (fun a i q => uI_o (by omega)) rfl g
    have T1 : TO M' X' := TO_of (fun i q => fm.1 _ _ (by omega)) (fun i q => f1 _ _ (by omega)) hT
    have T2 : TO (uI (uJ M' (S + 1) c.toNat w) S 8 (zI (c + 1))) (uI X' 232 2248 (zI (c + 1))) := TO_of (fun i q => by rw [uI_o (by omega)]; rfl) (fun i q => uI_o (by omega)) T1
    have F1 : FM S M (uI (uJ M' (S + 1) c.toNat w) S 8 (zI (c + 1))) := FM_t (FC_M fm) ⟨fun a i q p => by rw [uI_o (by omega)]; rfl, fun i q => by rw [uI_o (by omega)]; rfl, fun a i q p => uJ_o (by omega), rfl⟩
    have F2 : FX X (uI X' 232 2248 (zI (c + 1))) := FX_w (by omega) ⟨fun a i q p => f1 a i (by omega), fun a i q p => f2 a i q (by omega), f4⟩
    obtain ⟨r, Mf, p1, p2, p3⟩ := pc_end hE hS g2 (s := s) (by omega) L2 T2 F1 F2 hn
    have cl : sq (fun M => f_X3_start n 5 (M.1 S 8) (8 : Int32) M) (f_X3_readPlace n 5 S) M = some (r, Mf) := by
      refine sq_1 (M1 := M1) ?_ ?_ p2
      · rw [m8]; exact e1
      · unfold f_X3_readPlace
        rw [e2]
        simp only [Option.bind_some]
        rw [if_neg (lgF (show ¬ w = (0 : Int64) from w0)), a1, Option.bind_some, p1]
        rfl
    have mo : f_X12_readPlace n 227 X = some (uI X' 232 2248 (zI (c + 1))) := by
      unfold f_X12_readPlace
      have xn : ((2248 : Int32)).toNatClampNeg = 2248 := by decide
      rw [show f_X12_readNew n 227 (0 : Int32) X = some (zI c, X') from e3]
      simp only [Option.bind_some]
      rw [x0, if_pos (by decide), if_pos (by decide), if_pos (by decide), lt, xn, xc, show (1 : Int32) = zI 1 from rfl, zadd]
    rw [cl, mo]
    exact p3
