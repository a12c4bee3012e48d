/-! ===== land: a road, both ===== -/
theorem FX_g {X X' : KM} (h : GC X X') : FX X X' := GC_X h
theorem c_addRoad {M : KM} {S n : Nat} {c x y m q : Int} (h : M.1 S 9 = zI c) (c0 : 0 ≤ c) (c12 : c < 12) (q0 : q = 0 ∨ q = 1) : f_X2_addRoad n S (zI x) (zI y) (zI m) (zI q) M = some (uI (uI (uI (uI (uI M (S + 2) c.toNat (zI x)) (S + 3) c.toNat (zI y)) (S + 4) c.toNat (zI m)) (S + 5) c.toNat (zI q)) S 9 (zI (c + 1))) := by
  have e1 : (uI M (S + 2) c.toNat (zI x)).1 S 9 = zI c := by rw [uI_o (by omega)]; exact h
  have e2 : (uI (uI M (S + 2) c.toNat (zI x)) (S + 3) c.toNat (zI y)).1 S 9 = zI c := by rw [uI_o (by omega)]; exact e1
  have e3 : (uI (uI (uI M (S + 2) c.toNat (zI x)) (S + 3) c.toNat (zI y)) (S + 4) c.toNat (zI m)).1 S 9 = zI c := by rw [uI_o (by omega)]; exact e2
  have e4 : (uI (uI (uI (uI M (S + 2) c.toNat (zI x)) (S + 3) c.toNat (zI y)) (S + 4) c.toNat (zI m)) (S + 5) c.toNat (zI q)).1 S 9 = zI c := by rw [uI_o (by omega)]; exact e3
  have nq : vp_nar .boolean (zI q) = zI q := by
    rcases q0 with q0 | q0
    · rw [q0]; exact nar0
    · rw [q0]; exact nar1
  unfold f_X2_addRoad
  simp (disch := first | omega | assumption) only [↓lt, ↓reduceIte, zl, h, e1, e2, e3, e4, nq, zleF, if_false, ixT, zidx, if_true, zadd]
/-- the class behind the second place of a road -/
theorem j_roadEnd {T : Int → Int} {E s s1 k j v : Int} {M X M3 X3 : KM} {n S : Nat} {b : Int → Int} {c x y : Int} (hE : 0 ≤ E ∧ E ≤ 900) (hS : Sp S M) (hL : LB S b M X) (hc : c = sh b 2248 1) (c12 : c < 12) (hx : 0 ≤ x ∧ x < sh b 2248 0 ∧ 0 ≤ y ∧ y < sh b 2248 0 ∧ ¬ x = y) (g : GD T E 5 s1 k j v M3 X3) (hs : s ≤ s1) (hT : TO M3 X3) (fm : FC 5 M M3) (fx : GC X X3) (hn : 1000 < n) :
    PcR T E S s n M X ((f_X9_takeWord n 5 (8 : Int32) M3).bind fun (v6 : (Int32 × KM)) =>
          lt (fun (x7 : Int32) (M8 : KM) => (
            if x7 = (-1 : Int32) then
              some ((0 : Int32), M8)
            else
              (f_X9_skipWord n 5 (9 : Int32) M8).bind fun (v9 : (Int32 × KM)) =>
              (f_X2_addRoad n S (zI x) (zI y) x7 v9.1 v9.2).bind fun (v10 : KM) =>
              (f_X9_takeSemicolon n 5 v10).bind fun (v11 : (Int32 × KM)) =>
              some (v11.1, v11.2)
          ) : Int32 → KM → Option (Int32 × KM)) fun j69 =>
          if v6.1 = 0 then
            j69 (-1 : Int32) v6.2
          else
            (f_X9_takeNumber n 5 (1 : Int32) (99 : Int32) v6.2).bind fun (v13 : (Int32 × KM)) =>
            j69 v13.1 v13.2)
      ((f_X12_must n 227 (f_X12_isMinutes 227 X3) X3).bind fun (v10 : KM) => mR2 n (zI c) (zI x) (zI y) v10) := by
  have S2 := hS.2
  have hp1 : P01 M S := hL.2.2.2.2.1
  have hh := hL.2.1.1
  have z46 := hL.2.1.2.2.1
  have c0 : 0 ≤ c := by omega
  rw [m_isMinutes g.2.1]
  rcases j_word (i := 8) (Or.inl rfl) hE g (by omega) (by omega) hn with ⟨w1, M4, X4, c2, m2, s4, k4, j4, v4, g4, l4, -, fm4, fx4⟩ | ⟨w1, M4, X4, c2, m2, b2⟩
  · -- minutes
    have fm4' := FC_t fm fm4
    have fx4' := GC_t fx fx4
    have g4w : GD T E 5 s4 k4 j4 v4 M4 (uI (uI X4 232 (2258 + c).toNat (zI x)) 232 (2270 + c).toNat (zI y)) :=
      GD_of (M := M4) (X := X4) (fun _ _ _ => rfl) (fun _ _ _ => rfl) rfl (fun a i w => by rw [uI_o (by omega), uI_o (by omega)]) rfl g4
    rcases j_num (lo := 1) (hi := 99) (Or.inl rfl) hE g4w (by omega) (by omega) (by omega) (by omega) hn with ⟨M5, X5, m, c3, m3, m0, m9, s5, k5, j5, v5, g5, l5, -, fm5, fx5⟩ | ⟨M5, X5, c3, m3, b3⟩
    · have fm5' := FC_t fm4' fm5
      have g5w : GD T E 5 s5 k5 j5 v5 M5 (uI X5 232 (2282 + c).toNat (zI m)) :=
        GD_of (M := M5) (X := X5) (fun _ _ _ => rfl) (fun _ _ _ => rfl) rfl (fun a i w => by rw [uI_o (by omega)]) rfl g5
      have r5 : ∀ k : Nat, (uI X5 232 (2282 + c).toNat (zI m)).1 232 k = zI (bu (bu (bu b (2258 + c) x) (2270 + c) y) (2282 + c) m k) := by
        refine row_bu (by omega) (fun k => ?_)
        rw [fx5.1 232 k (by omega)]
        exact row_bu (by omega) (row_bu (by omega) (fun k => by rw [fx4'.1 232 k (by omega)]; exact hL.1 k)) k
      have ms := m_isSmells g5w.2.1
      -- what remains, once the smell is known
      have fin : ∀ (M6 X6 : KM) (q : Int) (s6 k6 j6 v6 : Int) (b6 : Int → Int), q = 0 ∨ q = 1 → GD T E 5 s6 k6 j6 v6 M6 X6 → s5 ≤ s6 → FC 5 M5 M6 → (∀ k : Nat, X6.1 232 k = zI (b6 k)) → (∀ z, 2248 ≤ z → z < 2810 → ¬ z = 2258 + c → ¬ z = 2270 + c → ¬ z = 2282 + c → ¬ z = 2294 + c → b6 z = b z) → b6 (2258 + c) = x → b6 (2270 + c) = y → b6 (2282 + c) = m → b6 (2294 + c) = q → (∀ a i, ¬ (a = 227 ∧ 12 ≤ i ∧ i ≤ 18) → ¬ (a = 232 ∧ 2248 ≤ i) → X6.1 a i = X.1 a i) → (∀ a i, ¬ (a = 227 ∧ i = 19) → X6.2.1 a i = X.2.1 a i) → X6.2.2 = X.2.2 →
          ∃ r M', (f_X2_addRoad n S (zI x) (zI y) (zI m) (zI q) M6).bind (fun (v10 : KM) => f_X9_takeSemicolon n 5 v10) = some (r, M') ∧ X6.1 227 12 = zI 0 ∧ X6.1 232 2249 = zI c ∧ PcR T E S s n M X (some (r, M')) (some (uI X6 232 2249 (zI (c + 1)))) := by
        intro M6 X6 q s6 k6 j6 v6 b6 q0 g6 l6 fm6 r6 o6 ox oy om oq fx6 fj6 fr6
        have fm6' := FC_t fm5' fm6
        have h9 : M6.1 S 9 = zI c := by rw [fm6'.1 _ _ (by omega), hc]; exact hL.2.2.1.2.1
        have ar := c_addRoad (n := n) (x := x) (y := y) (m := m) (q := q) h9 c0 c12 q0
        have x49 : X6.1 232 2249 = zI c := by
          have := r6 2249
          rw [show ((2249 : Nat) : Int) = 2249 from rfl, o6 2249 (by omega) (by omega) (by omega) (by omega) (by omega) (by omega)] at this
          rw [this, hc, sh_at (by omega) (by omega)]
          rfl
        have L7 : LB S (bu b6 2249 (c + 1)) (uI (uI (uI (uI (uI M6 (S + 2) c.toNat (zI x)) (S + 3) c.toNat (zI y)) (S + 4) c.toNat (zI m)) (S + 5) c.toNat (zI q)) S 9 (zI (c + 1))) (uI X6 232 2249 (zI (c + 1))) := by
          refine LB_road (M := M) (X := X) (c := c) (x := x) (y := y) (m := m) (q := q) hS hL hc c12 (by omega) (row_bu (e := 2249) (by omega) r6) (fun z u v p1 p2 p3 p4 p5 => ?_) bu_s ?_ ?_ ?_ ?_ (fun a k u v p1 p2 => ?_) uI_s ?_ ?_ ?_ ?_ (fun a k u v => fm6'.2.1 a k (by omega)) ?_ (fun k => fj6 _ _ (by omega))
          · rw [bu_o (by omega)]; exact o6 z u v p2 p3 p4 p5
          · rw [bu_o (by omega)]; exact ox
          · rw [bu_o (by omega)]; exact oy
          · rw [bu_o (by omega)]; exact om
          · rw [bu_o (by omega)]; exact oq
          · rw [uI_o (by omega), uI_o (by omega), uI_o (by omega), uI_o (by omega), uI_o (by omega)]; exact fm6'.1 a k (by omega)
          · rw [uI_o (by omega), uI_o (by omega), uI_o (by omega), uI_o (by omega), uI_s]
          · rw [uI_o (by omega), uI_o (by omega), uI_o (by omega), uI_s]
          · rw [uI_o (by omega), uI_o (by omega), uI_s]
          · rw [uI_o (by omega), uI_s]
          · exact congrFun (congrFun fm6'.2.2 S) 7
        have g7 : GD T E 5 s6 k6 j6 v6 (uI (uI (uI (uI (uI M6 (S + 2) c.toNat (zI x)) (S + 3) c.toNat (zI y)) (S + 4) c.toNat (zI m)) (S + 5) c.toNat (zI q)) S 9 (zI (c + 1))) (uI X6 232 2249 (zI (c + 1))) :=
          GD_of (M := M6) (X := X6) (fun a i w => by rw [uI_o (by omega), uI_o (by omega), uI_o (by omega), uI_o (by omega), uI_o (by omega)]) (fun _ _ _ => rfl) rfl (fun a i w => uI_o (by omega)) rfl g6
        have T7 : TO (uI (uI (uI (uI (uI M6 (S + 2) c.toNat (zI x)) (S + 3) c.toNat (zI y)) (S + 4) c.toNat (zI m)) (S + 5) c.toNat (zI q)) S 9 (zI (c + 1))) (uI X6 232 2249 (zI (c + 1))) :=
          TO_of (M := M3) (X := X3) (fun i w => by rw [uI_o (by omega), uI_o (by omega), uI_o (by omega), uI_o (by omega), uI_o (by omega), fm6.1 _ _ (by omega), fm5.1 _ _ (by omega), fm4.1 _ _ (by omega)]) (fun i w => by rw [uI_o (by omega), fx6 _ _ (by omega) (by omega), fx.1 _ _ (by omega)]) hT
        have F7 : FM S M (uI (uI (uI (uI (uI M6 (S + 2) c.toNat (zI x)) (S + 3) c.toNat (zI y)) (S + 4) c.toNat (zI m)) (S + 5) c.toNat (zI q)) S 9 (zI (c + 1))) :=
          FM_t (FC_M fm6') ⟨fun a i w p => by rw [uI_o (by omega), uI_o (by omega), uI_o (by omega), uI_o (by omega), uI_o (by omega)], fun i w => by rw [uI_o (by omega), uI_o (by omega), uI_o (by omega), uI_o (by omega), uI_o (by omega)], fun _ _ _ _ => rfl, rfl⟩
        have G7 : FX X (uI X6 232 2249 (zI (c + 1))) := FX_w (by omega) ⟨fun a i w p => fx6 a i (by omega) p, fun a i w p => fj6 a i w, fr6⟩
        obtain ⟨r, M', p1, p2, p3⟩ := pc_end hE hS g7 (s := s) (by omega) L7 T7 F7 G7 hn
        exact ⟨r, M', by rw [ar]; exact p1, g6.2.2.1, x49, p3⟩
      rcases j_skipw (i := 9) (Or.inl rfl) hE g5w (by omega) (by omega) hn with ⟨w2, M6, X6, c4, -, m4, s6, k6, j6, v6, g6, l6, -, fm6, fx6⟩ | ⟨w2, c4, m4⟩
      · -- it smells
        have g6w : GD T E 5 s6 k6 j6 v6 M6 (uI X6 232 (2294 + c).toNat (zI 1)) :=
          GD_of (M := M6) (X := X6) (fun _ _ _ => rfl) (fun _ _ _ => rfl) rfl (fun a i w => by rw [uI_o (by omega)]) rfl g6
        obtain ⟨r, M', p1, p2, p3, p4⟩ := fin M6 (uI X6 232 (2294 + c).toNat (zI 1)) 1 s6 k6 j6 v6 (bu (bu (bu (bu b (2258 + c) x) (2270 + c) y) (2282 + c) m) (2294 + c) 1) (Or.inr rfl) g6w (by omega) fm6 (row_bu (by omega) (fun k => by rw [fx6.1 232 k (by omega)]; exact r5 k)) (fun z u v q1 q2 q3 q4 => by rw [bu_o q4, bu_o q3, bu_o q2, bu_o q1]) (by rw [bu_o (by omega), bu_o (by omega), bu_o (by omega), bu_s]) (by rw [bu_o (by omega), bu_o (by omega), bu_s]) (by rw [bu_o (by omega), bu_s]) bu_s (fun a i w p => by rw [uI_o (by omega), fx6.1 a i w, uI_o (by omega), fx5.1 a i w, uI_o (by omega), uI_o (by omega), fx4'.1 a i w]) (fun a i w => by rw [uI_j1, fx6.2.1 a i w, uI_j1, fx5.2.1 a i w, uI_j1, uI_j1, fx4'.2.1 a i w]) (by rw [uI_j2, fx6.2.2, uI_j2, fx5.2.2, uI_j2, uI_j2, fx4'.2.2])
        have cl : (f_X2_addRoad n S (zI x) (zI y) (zI m) (zI 1) M6).bind (fun (v10 : KM) => (f_X9_takeSemicolon n 5 v10).bind fun (v11 : (Int32 × KM)) => some (v11.1, v11.2)) = some (r, M') := by
          rw [← p1]
          congr 1
          funext v10
          cases f_X9_takeSemicolon n 5 v10 <;> rfl
        have m4' : f_X12_perhaps n 227 (f_X12_isSmells 227 (uI X5 232 (2282 + c).toNat (zI m))) (uI X5 232 (2282 + c).toNat (zI m)) = some (zI 1, X6) := by rw [ms]; exact m4
        have e1 : ((f_X12_must n 227 (bI (j = 8)) X3).bind fun (v10 : KM) => mR2 n (zI c) (zI x) (zI y) v10) = some (uI (uI X6 232 (2294 + c).toNat (zI 1)) 232 2249 (zI (c + 1))) := by
          rw [m2, Option.bind_some]
          unfold mR2
          simp (disch := first | omega | assumption) only [↓lt, ↓reduceIte, zl, zadd, ixT, zidx, m3, Option.bind_some]
          rw [m4']
          simp (disch := first | omega | assumption) only [↓lt, ↓reduceIte, zl, zadd, ixT, zidx, Option.bind_some, zeqT, zeqF, if_true, if_false, p2]
          rw [show (2249 : Int).toNat = 2249 from rfl, p3, zadd]
        rw [e1, show f_X9_takeWord n 5 (8 : Int32) M3 = _ from c2]
        simp (disch := first | omega | assumption) only [↓lt, ↓reduceIte, zl, zneg, Int.reduceNeg, Option.bind_some, zeqF, if_false, c3, c4, cl]
        exact p4
      · -- it doesn't
        have q0 : b (2294 + c) = 0 := by
          have := z46 c (by omega) (by omega)
          rw [sh_at (by omega) (by omega)] at this
          rw [← this]; congr 1; omega
        obtain ⟨r, M', p1, p2, p3, p4⟩ := fin M5 (uI X5 232 (2282 + c).toNat (zI m)) 0 s5 k5 j5 v5 (bu (bu (bu b (2258 + c) x) (2270 + c) y) (2282 + c) m) (Or.inl rfl) g5w (by omega) FC_r r5 (fun z u v q1 q2 q3 q4 => by rw [bu_o q3, bu_o q2, bu_o q1]) (by rw [bu_o (by omega), bu_o (by omega), bu_s]) (by rw [bu_o (by omega), bu_s]) bu_s (by rw [bu_o (by omega), bu_o (by omega), bu_o (by omega)]; exact q0) (fun a i w p => by rw [uI_o (by omega), fx5.1 a i w, uI_o (by omega), uI_o (by omega), fx4'.1 a i w]) (fun a i w => by rw [uI_j1, fx5.2.1 a i w, uI_j1, uI_j1, fx4'.2.1 a i w]) (by rw [uI_j2, fx5.2.2, uI_j2, uI_j2, fx4'.2.2])
        have cl : (f_X2_addRoad n S (zI x) (zI y) (zI m) (zI 0) M5).bind (fun (v10 : KM) => (f_X9_takeSemicolon n 5 v10).bind fun (v11 : (Int32 × KM)) => some (v11.1, v11.2)) = some (r, M') := by
          rw [← p1]
          congr 1
          funext v10
          cases f_X9_takeSemicolon n 5 v10 <;> rfl
        have m4' : f_X12_perhaps n 227 (f_X12_isSmells 227 (uI X5 232 (2282 + c).toNat (zI m))) (uI X5 232 (2282 + c).toNat (zI m)) = some (zI 0, uI X5 232 (2282 + c).toNat (zI m)) := by rw [ms]; exact m4
        have e1 : ((f_X12_must n 227 (bI (j = 8)) X3).bind fun (v10 : KM) => mR2 n (zI c) (zI x) (zI y) v10) = some (uI (uI X5 232 (2282 + c).toNat (zI m)) 232 2249 (zI (c + 1))) := by
          rw [m2, Option.bind_some]
          unfold mR2
          simp (disch := first | omega | assumption) only [↓lt, ↓reduceIte, zl, zadd, ixT, zidx, m3, Option.bind_some]
          rw [m4']
          simp (disch := first | omega | assumption) only [↓lt, ↓reduceIte, zl, zadd, ixT, zidx, Option.bind_some, zeqT, zeqF, if_true, if_false, p2]
          rw [show (2249 : Int).toNat = 2249 from rfl, p3, zadd]
        rw [e1, show f_X9_takeWord n 5 (8 : Int32) M3 = _ from c2]
        simp (disch := first | omega | assumption) only [↓lt, ↓reduceIte, zl, zneg, Int.reduceNeg, Option.bind_some, zeqF, if_false, c3, c4, cl]
        exact p4
    · -- no such number
      obtain ⟨f, d1, d2, d3⟩ := BD_X b3.1
      have h3 : XB (uI X5 232 (2282 + c).toNat (zI 0)) := ⟨f, d1, d2, by rw [uI_o (by omega)]; exact d3⟩
      have d4 : (uI X5 232 (2282 + c).toNat (zI 0)).1 227 12 = zI f := by rw [uI_o (by omega)]; exact d3
      have e1 : ((f_X12_must n 227 (bI (j = 8)) X3).bind fun (v10 : KM) => mR2 n (zI c) (zI x) (zI y) v10) = some (uI X5 232 (2282 + c).toNat (zI 0)) := by
        rw [m2, Option.bind_some]
        unfold mR2
        simp (disch := first | omega | assumption) only [↓lt, ↓reduceIte, zl, zadd, ixT, zidx, m3, Option.bind_some, xb_perhaps h3, zeqT, zeqF, if_true, if_false, d4]
      rw [e1, show f_X9_takeWord n 5 (8 : Int32) M3 = _ from c2]
      simp (disch := first | omega | assumption) only [↓lt, ↓reduceIte, zl, zneg, Int.reduceNeg, Option.bind_some, zeqF, if_false, c3, zeqT, if_true]
      have fm5' := FC_t fm4' b3.2.1
      exact pc_bad (BD_w b3.1) (P01_C (Or.inl rfl) (by omega) fm5' hp1) (FC_M fm5') (FX_w (by omega) (FX_t (FX_w (by omega) (FX_w (by omega) (GC_X fx4'))) (GC_X b3.2.2)))
  · -- no 'minutes'
    have e1 : ((f_X12_must n 227 (bI (j = 8)) X3).bind fun (v10 : KM) => mR2 n (zI c) (zI x) (zI y) v10) = some (uI (uI (uI X4 232 (2258 + c).toNat (zI x)) 232 (2270 + c).toNat (zI y)) 232 (2282 + c).toNat (zI 0)) := by
      rw [m2, Option.bind_some]
      exact mR2_bad c0 c12 (BD_X b2.1)
    rw [e1, show f_X9_takeWord n 5 (8 : Int32) M3 = _ from c2]
    simp (disch := first | omega | assumption) only [↓lt, ↓reduceIte, zl, zneg, Int.reduceNeg, Option.bind_some, zeqT, if_true]
    have fm5' := FC_t fm b2.2.1
    have fx5' := GC_t fx b2.2.2
    exact pc_bad (BD_w (BD_w (BD_w b2.1))) (P01_C (Or.inl rfl) (by omega) fm5' hp1) (FC_M fm5') (FX_w (by omega) (FX_w (by omega) (FX_w (by omega) (GC_X fx5'))))
