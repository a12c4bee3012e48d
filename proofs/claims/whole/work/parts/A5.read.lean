/-! ===== land: hours, and what is told once ===== -/
/-- one after the other, as the class does -/
def sq (f g : KM → Option (Int32 × KM)) (M : KM) : Option (Int32 × KM) :=
  (f M).bind fun (v2 : (Int32 × KM)) =>
    if v2.1 = 0 then
      some ((0 : Int32), v2.2)
    else
      (g v2.2).bind fun (v3 : (Int32 × KM)) =>
      if v3.1 = 0 then
        some ((0 : Int32), v3.2)
      else
        some ((1 : Int32), v3.2)
theorem sq_0 {f g : KM → Option (Int32 × KM)} {M M' : KM} (h : f M = some (zI 0, M')) : sq f g M = some (zI 0, M') := by
  unfold sq
  rw [h]; rfl
theorem sq_1 {f g : KM → Option (Int32 × KM)} {M M1 M' : KM} {r : Int32} (h : f M = some (zI 1, M1)) (h2 : g M1 = some (r, M')) (hr : r = zI 1 ∨ r = zI 0) : sq f g M = some (r, M') := by
  unfold sq
  rw [h]
  simp only [Option.bind_some]
  rw [if_neg (by decide), h2]
  simp only [Option.bind_some]
  rcases hr with hr | hr
  · rw [hr, if_neg (by decide)]; rfl
  · rw [hr, if_pos (by decide)]; rfl
theorem BD_w {a : Nat} {M X : KM} {k : Nat} {v : Int32} (h : BD a M X) : BD a M (uI X 232 k v) := BD_of rfl rfl (uI_o (by omega)) (uI_o (by omega)) h
theorem FX_w {X X' : KM} {k : Nat} {v : Int32} (hk : 2248 ≤ k) (h : FX X X') : FX X (uI X' 232 k v) := ⟨fun c i w u => by rw [uI_o (by omega)]; exact h.1 c i w u, h.2.1, h.2.2⟩
theorem LB_hd {S : Nat} {b b' : Int → Int} {M M' X X' : KM} (hS : Sp S M) (h : LB S b M X) (hr : ∀ k : Nat, X'.1 232 k = zI (b' k)) (hb : ∀ z, 2258 ≤ z → z < 2810 → b' z = b z) (hC : CB (sh b' 2248)) (e0 : b' 2248 = b 2248) (e1 : b' 2249 = b 2249) (e2 : b' 2250 = b 2250) (e9 : b' 2257 = b 2257) (hM : ∀ a k, 23 ≤ a → a < 105 → ¬ a = S → ¬ a = S + 7 → M'.1 a k = M.1 a k) (hM2 : ∀ k, k = 8 ∨ k = 9 ∨ k = 10 ∨ k = 15 → M'.1 S k = M.1 S k) (q5 : M'.1 S 11 = zI (b' 2253)) (q6 : M'.1 S 12 = zI (b' 2254)) (q7 : M'.1 S 13 = zI (b' 2255)) (q8 : M'.1 S 14 = zI (b' 2256)) (q3 : M'.1 (S + 7) 0 = zI (b' 2251)) (q4 : M'.1 (S + 7) 1 = zI (b' 2252)) (qd : M'.1 (S + 7) 2 = zI ((b' 2252 - b' 2251) * 60)) (hJ : ∀ a k, 23 ≤ a → a < 105 → M'.2.1 a k = M.2.1 a k) (hR : M'.2.2 S 7 = M.2.2 S 7) (hW : ∀ k, X'.2.1 235 k = X.2.1 235 k) : LB S b' M' X' := by
  obtain ⟨a1, a2, a3, a4, a5, a6, a7, a8, a9, a10⟩ := h
  have hh := a2.1
  obtain ⟨hP, hS⟩ := hS
  have sb : ∀ z, 10 ≤ z → z < 562 → sh b' 2248 z = sh b 2248 z := fun z u v => by
    rw [sh_at (by omega) v, sh_at (by omega) v]; exact hb _ (by omega) (by omega)
  have s0 : sh b' 2248 0 = sh b 2248 0 := by rw [sh_at (by omega) (by omega), sh_at (by omega) (by omega)]; exact e0
  have s1 : sh b' 2248 1 = sh b 2248 1 := by rw [sh_at (by omega) (by omega), sh_at (by omega) (by omega)]; exact e1
  have s2 : sh b' 2248 2 = sh b 2248 2 := by rw [sh_at (by omega) (by omega), sh_at (by omega) (by omega)]; exact e2
  have s9 : sh b' 2248 9 = sh b 2248 9 := by rw [sh_at (by omega) (by omega), sh_at (by omega) (by omega)]; exact e9
  have s3 : sh b' 2248 3 = b' 2251 := sh_at (by omega) (by omega)
  have s4 : sh b' 2248 4 = b' 2252 := sh_at (by omega) (by omega)
  have s5 : sh b' 2248 5 = b' 2253 := sh_at (by omega) (by omega)
  have s6 : sh b' 2248 6 = b' 2254 := sh_at (by omega) (by omega)
  have s7 : sh b' 2248 7 = b' 2255 := sh_at (by omega) (by omega)
  have s8 : sh b' 2248 8 = b' 2256 := sh_at (by omega) (by omega)
  obtain ⟨c0, c1, c2, c5, c6, c7, c8, c9, c3, c4, cd, ca, cb, cc, cs⟩ := a3
  refine ⟨hr, hC, ⟨?_, ?_, ?_, ?_, ?_, ?_, ?_, ?_, ?_, ?_, ?_, fun r u v => ?_, fun r u v => ?_, fun r u v => ?_, fun r u v => ?_⟩, PB_of (fun a k u v => hM a k (by omega) (by omega) (by omega) (by omega)) (fun z u v => sb z (by omega) (by omega)) s2 (by omega) a4, P01_of (fun a k u v => hM a k (by omega) (by omega) (by omega) (by omega)) a5, fun k u v => ?_, fun k u v => ?_, ?_, ?_, ?_⟩
  · rw [s0, hM2 _ (by omega)]; exact c0
  · rw [s1, hM2 _ (by omega)]; exact c1
  · rw [s2, hM2 _ (by omega)]; exact c2
  · rw [s5]; exact q5
  · rw [s6]; exact q6
  · rw [s7]; exact q7
  · rw [s8]; exact q8
  · rw [s9, hM2 _ (by omega)]; exact c9
  · rw [s3]; exact q3
  · rw [s4]; exact q4
  · rw [s3, s4]; exact qd
  · rw [s1] at v; rw [sb _ (by omega) (by omega), hM _ _ (by omega) (by omega) (by omega) (by omega)]; exact ca r u v
  · rw [s1] at v; rw [sb _ (by omega) (by omega), hM _ _ (by omega) (by omega) (by omega) (by omega)]; exact cb r u v
  · rw [s1] at v; rw [sb _ (by omega) (by omega), hM _ _ (by omega) (by omega) (by omega) (by omega)]; exact cc r u v
  · rw [s1] at v; rw [sb _ (by omega) (by omega), hM _ _ (by omega) (by omega) (by omega) (by omega)]; exact cs r u v
  · rw [s0] at v; rw [hJ _ _ (by omega) (by omega), hW]; exact a6 k u v
  · rw [s2] at v; rw [hJ _ _ (by omega) (by omega), hW]; exact a7 k u v
  · rw [hR, hM _ _ (by omega) (by omega) (by omega) (by omega)]; exact a8
  · rw [hR, hM _ _ (by omega) (by omega) (by omega) (by omega)]; exact a9
  · rw [hR, hM _ _ (by omega) (by omega) (by omega) (by omega)]; exact a10
/-- the heads of the block, as the reference has them -/
theorem LB_head {S : Nat} {b : Int → Int} {M X : KM} (h : LB S b M X) : M.1 S 11 = zI (b 2253) ∧ M.1 S 12 = zI (b 2254) ∧ M.1 S 13 = zI (b 2255) ∧ M.1 S 14 = zI (b 2256) ∧ M.1 (S + 7) 0 = zI (b 2251) ∧ M.1 (S + 7) 1 = zI (b 2252) ∧ M.1 (S + 7) 2 = zI ((b 2252 - b 2251) * 60) ∧ 0 ≤ b 2248 ∧ b 2248 ≤ 8 ∧ 0 ≤ b 2251 ∧ b 2251 < b 2252 ∧ b 2252 ≤ 24 ∧ 0 ≤ b 2253 ∧ b 2253 ≤ 1439 ∧ 1 ≤ b 2254 ∧ b 2254 ≤ 9 ∧ 1 ≤ b 2255 ∧ b 2255 ≤ 9 ∧ 0 ≤ b 2256 ∧ b 2256 ≤ 16 := by
  obtain ⟨a1, a2, a3, -⟩ := h
  have hh := a2.1
  obtain ⟨c0, c1, c2, c5, c6, c7, c8, c9, c3, c4, cd, -⟩ := a3
  have s0 : sh b 2248 0 = b 2248 := sh_at (by omega) (by omega)
  have s3 : sh b 2248 3 = b 2251 := sh_at (by omega) (by omega)
  have s4 : sh b 2248 4 = b 2252 := sh_at (by omega) (by omega)
  have s5 : sh b 2248 5 = b 2253 := sh_at (by omega) (by omega)
  have s6 : sh b 2248 6 = b 2254 := sh_at (by omega) (by omega)
  have s7 : sh b 2248 7 = b 2255 := sh_at (by omega) (by omega)
  have s8 : sh b 2248 8 = b 2256 := sh_at (by omega) (by omega)
  rw [s0, s3, s4, s5, s6, s7, s8] at hh
  rw [s5] at c5
  rw [s6] at c6
  rw [s7] at c7
  rw [s8] at c8
  rw [s3] at c3
  rw [s4] at c4
  rw [s3, s4] at cd
  exact ⟨c5, c6, c7, c8, c3, c4, cd, by omega⟩
theorem row_bu {X : KM} {b : Int → Int} {e v : Int} (he : 0 ≤ e) (h : ∀ k : Nat, X.1 232 k = zI (b k)) : ∀ k : Nat, (uI X 232 e.toNat (zI v)).1 232 k = zI (bu b e v k) := fun k => by
  by_cases q : k = e.toNat
  · rw [q, uI_s, Int.toNat_of_nonneg he, bu_s]
  · rw [uI_o (by omega), bu_o (by omega)]; exact h k
theorem j_glare {T : Int → Int} {E s k v : Int} {M X : KM} {n S : Nat} {b : Int → Int} (hE : 0 ≤ E ∧ E ≤ 900) (hS : Sp S M) (h : GD T E 5 s k 0 v M X) (hL : LB S b M X) (hT : TO M X) (hn : 1000 < n) : PcR T E S s n M X (sq (f_X3_startOnce n 5) (f_X3_readGlare n 5 S) M) (f_X12_readGlare n 227 X) := by
  obtain ⟨t, u, t0, t1, u0, u1, h12, h25, h13, h26⟩ := hT
  have S2 := hS.2
  have hp1 : P01 M S := hL.2.2.2.2.1
  rcases j_once (i := 0) (t := t) (u := u) hE h (by omega) (by decide) t0 t1 (by omega) ⟨u0, u1⟩ h12 h25 h13 h26 hn with ⟨M1, X1, e1, e2, ⟨s1, k1, j1, v1, g1, l1⟩, T1, fm1, fx1⟩ | ⟨M1, X1, e1, e2, e3⟩
  · have e2 : f_X12_isOnce n 227 (zI 0) X = some (zI 1, X1) := e2
    have L1 := LB_O hS.1 (by omega) fm1 fx1 hL
    have hP1 : Sp S M1 := ⟨by rw [fm1.2.2.2]; exact hS.1, S2⟩
    rcases j_num (lo := 0) (hi := 23) (Or.inl rfl) hE g1 (by omega) (by omega) (by omega) (by omega) hn with ⟨M2, X2, x, c1, m1, x0, x1, s2, k2, j2, v2, g2, l2, -, fm2, fx2⟩ | ⟨M2, X2, c1, m1, b1⟩
    · have ht := m_isTo g2.2.1
      rcases j_word (i := 1) (Or.inl rfl) hE g2 (by omega) (by omega) hn with ⟨w1, M3, X3, c2, m2, s3, k3, j3, v3, g3, l3, -, fm3, fx3⟩ | ⟨w1, M3, X3, c2, m2, b2⟩
      · rcases j_num (lo := x + 1) (hi := 24) (Or.inl rfl) hE g3 (by omega) (by omega) (by omega) (by omega) hn with ⟨M4, X4, y, c3, m3, y0, y1, s4, k4, j4, v4, g4, l4, -, fm4, fx4⟩ | ⟨M4, X4, c3, m3, b3⟩
        · have L4 := LB_C (Or.inl rfl) (by rw [fm3.2.2, fm2.2.2]; exact hP1.1) (by omega) fm4 fx4 (LB_C (Or.inl rfl) (by rw [fm2.2.2]; exact hP1.1) (by omega) fm3 fx3 (LB_C (Or.inl rfl) hP1.1 (by omega) fm2 fx2 L1))
          have T4 := TO_C fm4 fx4 (TO_C fm3 fx3 (TO_C fm2 fx2 T1))
          have fo := FO_t fm1 (FO_t (FC_O fm2) (FO_t (FC_O fm3) (FC_O fm4)))
          have go := GO_t fx1 (GO_t (GC_O fx2) (GO_t (GC_O fx3) (GC_O fx4)))
          have hP4 : Sp S M4 := ⟨by rw [fo.2.2.2]; exact hS.1, S2⟩
          have hd := LB_head L4
          have hr := row_bu (e := 2252) (v := y) (by omega) (row_bu (e := 2251) (v := x) (by omega) L4.1)
          have g5 : GD T E 5 s4 k4 j4 v4 (f_X1_set (S + 7) (zI x) (zI y) M4) (uI (uI X4 232 2251 (zI x)) 232 2252 (zI y)) := by
            rw [set_eq]
            exact GD_of (M := M4) (X := X4) (fun c i w => by rw [uI_o (by omega), uI_o (by omega), uI_o (by omega)]) (fun _ _ _ => rfl) rfl (fun c i w => by rw [uI_o (by omega), uI_o (by omega)]) rfl g4
          have L5 : LB S (bu (bu b 2251 x) 2252 y) (f_X1_set (S + 7) (zI x) (zI y) M4) (uI (uI X4 232 2251 (zI x)) 232 2252 (zI y)) := by
            rw [set_eq]
            refine LB_hd hP4 L4 hr (fun z a c => by rw [bu_o (by omega), bu_o (by omega)]) ?_ (by rw [bu_o (by omega), bu_o (by omega)]) (by rw [bu_o (by omega), bu_o (by omega)]) (by rw [bu_o (by omega), bu_o (by omega)]) (by rw [bu_o (by omega), bu_o (by omega)]) (fun a k p q r1 r2 => by rw [uI_o (by omega), uI_o (by omega), uI_o (by omega)]) (fun k p => by rw [uI_o (by omega), uI_o (by omega), uI_o (by omega)]) ?_ ?_ ?_ ?_ ?_ ?_ ?_ (fun _ _ _ _ => rfl) rfl (fun _ => rfl)
            · refine CB_h L4.2.1 (fun z a c => ?_) ?_ ?_ ?_ ?_
              · rw [sh_at (by omega) (by omega), sh_at (by omega) (by omega), bu_o (by omega), bu_o (by omega)]
              · rw [sh_at (by omega) (by omega), sh_at (by omega) (by omega), bu_o (by omega), bu_o (by omega)]
              · rw [sh_at (by omega) (by omega), sh_at (by omega) (by omega), bu_o (by omega), bu_o (by omega)]
              · rw [sh_at (by omega) (by omega), sh_at (by omega) (by omega), bu_o (by omega), bu_o (by omega)]
              · simp (disch := omega) only [sh_at, bu_s, bu_o, Int.reduceAdd]
                omega
            · rw [uI_o (by omega), uI_o (by omega), uI_o (by omega), bu_o (by omega), bu_o (by omega)]; exact hd.1
            · rw [uI_o (by omega), uI_o (by omega), uI_o (by omega), bu_o (by omega), bu_o (by omega)]; exact hd.2.1
            · rw [uI_o (by omega), uI_o (by omega), uI_o (by omega), bu_o (by omega), bu_o (by omega)]; exact hd.2.2.1
            · rw [uI_o (by omega), uI_o (by omega), uI_o (by omega), bu_o (by omega), bu_o (by omega)]; exact hd.2.2.2.1
            · rw [uI_o (by omega), uI_o (by omega), uI_s, bu_o (by omega), bu_s]
            · rw [uI_o (by omega), uI_s, bu_s]
            · rw [uI_s, bu_s, bu_o (by omega), bu_s, zsub, zmul]
          have T5 : TO (f_X1_set (S + 7) (zI x) (zI y) M4) (uI (uI X4 232 2251 (zI x)) 232 2252 (zI y)) := by
            rw [set_eq]
            obtain ⟨t, u, a1, a2, a3, a4, a5, a6, a7, a8⟩ := T4
            refine ⟨t, u, a1, a2, a3, a4, ?_, ?_, ?_, ?_⟩
            · rw [uI_o (by omega), uI_o (by omega), uI_o (by omega)]; exact a5
            · rw [uI_o (by omega), uI_o (by omega)]; exact a6
            · rw [uI_o (by omega), uI_o (by omega), uI_o (by omega)]; exact a7
            · rw [uI_o (by omega), uI_o (by omega)]; exact a8
          have FM5 : FM S M (f_X1_set (S + 7) (zI x) (zI y) M4) := by
            rw [set_eq]
            exact FM_t (FO_M fo) ⟨fun c i w p => by rw [uI_o (by omega), uI_o (by omega), uI_o (by omega)], fun i w => by rw [uI_o (by omega), uI_o (by omega), uI_o (by omega)], fun _ _ _ _ => rfl, rfl⟩
          obtain ⟨r, M', p1, p2, p3⟩ := pc_end hE hS g5 (s := s) (by omega) L5 T5 FM5 (FX_w (by omega) (FX_w (by omega) (GO_X go))) hn
          have cl : sq (f_X3_startOnce n 5) (f_X3_readGlare n 5 S) M = some (r, M') := by
            refine sq_1 e1 ?_ p2
            unfold f_X3_readGlare
            simp (disch := first | omega | assumption) only [↓lt, ↓reduceIte, zl, zneg, Int.reduceNeg, c1, c2, c3, Option.bind_some, zeqF, if_false, zadd, p1]
          have mo : f_X12_readGlare n 227 X = some (uI (uI X4 232 2251 (zI x)) 232 2252 (zI y)) := by
            unfold f_X12_readGlare
            simp (disch := first | omega | assumption) only [↓lt, ↓reduceIte, zl, e2, Option.bind_some, zeqF, if_false, m1, ht, m2, zadd, m3, ixT, zidx, if_true]
            rfl
          rw [cl, mo]
          exact p3
        · have cl : sq (f_X3_startOnce n 5) (f_X3_readGlare n 5 S) M = some (zI 0, M4) := by
            refine sq_1 e1 ?_ (Or.inr rfl)
            unfold f_X3_readGlare
            simp (disch := first | omega | assumption) only [↓lt, ↓reduceIte, zl, zneg, Int.reduceNeg, c1, c2, c3, Option.bind_some, zeqF, zeqT, if_false, if_true, zadd]
          have mo : f_X12_readGlare n 227 X = some (uI (uI X4 232 2251 (zI x)) 232 2252 (zI 0)) := by
            unfold f_X12_readGlare
            simp (disch := first | omega | assumption) only [↓lt, ↓reduceIte, zl, e2, Option.bind_some, zeqF, if_false, m1, ht, m2, zadd, m3, ixT, zidx, if_true]
            rfl
          rw [cl, mo]
          have fo := FO_t fm1 (FO_t (FC_O fm2) (FO_t (FC_O fm3) (FC_O b3.2.1)))
          have go := GO_t fx1 (GO_t (GC_O fx2) (GO_t (GC_O fx3) (GC_O b3.2.2)))
          exact pc_bad (BD_w (BD_w b3.1)) (P01_O (by omega) fo hp1) (FO_M fo) (FX_w (by omega) (FX_w (by omega) (GO_X go)))
      · have cl : sq (f_X3_startOnce n 5) (f_X3_readGlare n 5 S) M = some (zI 0, M3) := by
          refine sq_1 e1 ?_ (Or.inr rfl)
          unfold f_X3_readGlare
          simp (disch := first | omega | assumption) only [↓lt, ↓reduceIte, zl, zneg, Int.reduceNeg, c1, c2, Option.bind_some, zeqF, zeqT, if_false, if_true, zadd]
        have mo : f_X12_readGlare n 227 X = some (uI (uI X3 232 2251 (zI x)) 232 2252 (zI 0)) := by
          unfold f_X12_readGlare
          simp (disch := first | omega | assumption) only [↓lt, ↓reduceIte, zl, e2, Option.bind_some, zeqF, if_false, m1, ht, m2, zadd, xb_count (BD_X b2.1), ixT, zidx, if_true]
          rfl
        rw [cl, mo]
        have fo := FO_t fm1 (FO_t (FC_O fm2) (FC_O b2.2.1))
        have go := GO_t fx1 (GO_t (GC_O fx2) (GC_O b2.2.2))
        exact pc_bad (BD_w (BD_w b2.1)) (P01_O (by omega) fo hp1) (FO_M fo) (FX_w (by omega) (FX_w (by omega) (GO_X go)))
    · have cl : sq (f_X3_startOnce n 5) (f_X3_readGlare n 5 S) M = some (zI 0, M2) := by
        refine sq_1 e1 ?_ (Or.inr rfl)
        unfold f_X3_readGlare
        simp (disch := first | omega | assumption) only [↓lt, ↓reduceIte, zl, zneg, Int.reduceNeg, c1, Option.bind_some, zeqT, if_true]
      have mo : f_X12_readGlare n 227 X = some (uI (uI X2 232 2251 (zI 0)) 232 2252 (zI 0)) := by
        unfold f_X12_readGlare
        simp (disch := first | omega | assumption) only [↓lt, ↓reduceIte, zl, e2, Option.bind_some, zeqF, if_false, m1, xb_must (BD_X b1.1), zadd, xb_count (BD_X b1.1), ixT, zidx, if_true]
        rfl
      rw [cl, mo]
      have fo := FO_t fm1 (FC_O b1.2.1)
      have go := GO_t fx1 (GC_O b1.2.2)
      exact pc_bad (BD_w (BD_w b1.1)) (P01_O (by omega) fo hp1) (FO_M fo) (FX_w (by omega) (FX_w (by omega) (GO_X go)))
  · have e2 : f_X12_isOnce n 227 (zI 0) X = some (zI 0, X1) := e2
    have mo : f_X12_readGlare n 227 X = some X1 := by
      unfold f_X12_readGlare
      simp (disch := first | omega | assumption) only [↓lt, ↓reduceIte, zl, e2, Option.bind_some, zeqT, if_true]
    rw [sq_0 e1, mo]
    exact pc_bad e3.1 (P01_C (Or.inl rfl) (by omega) e3.2.1 hp1) (FC_M e3.2.1) (GC_X e3.2.2)
