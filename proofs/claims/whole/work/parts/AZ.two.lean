/-! ===== land, days: the same at two fuels: n the class's, m the reference's ===== -/
theorem adv2 {T : Int → Int} {E q : Int} {a : Nat} {M X : KM} {n m : Nat} (ha : a = 5 ∨ a = 8) (h1 : 0 ≤ E) (h2 : E ≤ 900) (h : EV T E a M X) (h3 : M.1 a 3 = zI q) (h16 : X.1 227 16 = zI q) (q1 : 0 ≤ q) (q2 : q ≤ E) (hn : 1000 < n) (hm : 1000 < m) :
    ∃ M' X' s k j v, f_X9_advance n a M = some M' ∧ f_X12_advance m 227 X = some X' ∧ SG a E s k j v M' X' ∧ q ≤ s ∧ M'.1 a 11 = M.1 a 10 ∧ FA a M M' ∧ GA X X' := by
  obtain ⟨r1, e2, e9, hT, hU, hk⟩ := h
  rw [c_adv0 ha h1 h2 r1 e2 hT h3 q1 q2 hn, m_adv0 h1 h2 e9 hU h16 q1 q2 hm]
  have sr := skB_r (T := T) (E := E) 900 q q2
  generalize hS : skB T E 900 q = s at sr ⊢
  obtain ⟨c3, c10, c7, c8, c11, c9⟩ := cRd_v (M := M) (a := a) (s := s)
  have d2 : (cRd M a s).1 a 2 = zI E := by rw [cRd_o (by omega)]; exact e2
  have dT : ∀ z, 0 ≤ z → z < 900 → (cRd M a s).1 2 z.toNat = zI (T z) ∧ -128 ≤ T z ∧ T z < 128 := fun z u v => by rw [cRd_o (by omega)]; exact hT z u v
  have dk : ∀ k : Nat, k < 26 → (cRd M a s).2.1 (a + 1) k = kwd k := fun k u => by rw [cRd_j (by omega)]; exact hk k u
  have x15 : (xRd X s).1 227 15 = zI s := by unfold xRd; rw [uI_o (by omega), uI_s]
  have x16 : (xRd X s).1 227 16 = zI s := uI_s
  have x9 : (xRd X s).1 227 9 = zI E := by rw [xRd_o (by omega)]; exact e9
  have xT : ∀ z, 0 ≤ z → z < 900 → (xRd X s).1 231 z.toNat = zI (T z) ∧ -128 ≤ T z ∧ T z < 128 := fun z u v => by rw [xRd_o (by omega)]; exact hU z u v
  have co := fun c i w => @cRd_o M a c i s w
  have cj := fun c i w => @cRd_j M a c i s w
  have c2 : (cRd M a s).2.2 = M.2.2 := cRd_2
  have xo := fun c i w => @xRd_o X c i s w
  have xj : (xRd X s).2 = X.2 := rfl
  generalize hC : cRd M a s = C at *
  generalize hX : xRd X s = Y at *
  by_cases hE : s < E
  · obtain ⟨k1, k2, k3⟩ := kA_at (n := n) h1 h2 (show 0 ≤ s by omega) (by rw [c2]; exact r1) d2 c3 (dT s (by omega) (by omega)) hE
    obtain ⟨m1, m2, m3⟩ := kX_at h1 h2 (show 0 ≤ s by omega) x9 x15 x16 xT hE hm
    by_cases w1 : 97 ≤ T s ∧ T s ≤ 122
    · -- a word
      obtain ⟨M', j, p1, p3, p6, p7, pj1, pj2, p9, p9b, pj8, pi, po, pJ, pr⟩ := c_word (n := n) ha h1 h2 (show 0 ≤ s by omega) hE w1.1 w1.2 (by rw [c2]; exact r1) d2 dT dk c10 c3 c7 c9 hn
      obtain ⟨X', y1, y2⟩ := m1 w1
      have u1 := wo_1 (k := 899) hE w1.1 w1.2
      have e1 := wm_1 (T := T) (E := E) (s := s) 900 s 0 0
      have e2' := wm_2 (T := T) (E := E) (s := s) 900 s 0
      have e3' := wm_3 (T := T) (E := E) (s := s) 900 s 0 0
      rw [e1] at y2
      generalize hW : woB T E s 900 s 0 = W at p3 p9 p9b pj8 pi u1 y2 e2' e3'
      obtain ⟨qq, vv⟩ := W
      simp only at p3 p9 p9b pj8 pi u1 y2 e2' e3'
      have yw : X'.2.1 227 19 = lI (wmB T E s 900 s 0).2 := by rw [y2]; exact uJ_s
      refine ⟨M', X', s, 1, j, 0, by rw [k1 w1]; exact p1, y1, ⟨qq, qq - s, M'.2.1 a 9, by omega, by omega, by omega, fun _ => by omega, by omega, by omega, pj1, pj2, by omega, by omega, ?_, ?_, p3, ?_, p6, ?_, p7, rfl, fun i hi => ?_, fun _ => ?_, ?_, fun w => ?_, fun _ => rfl, fun w => by omega, fun w => by omega⟩, sr.1, ?_, ⟨fun c i w => ?_, fun c i w => ?_, ?_⟩, ⟨fun c i w => ?_, fun c i w => ?_, ?_⟩⟩
      · rw [po _ _ (by omega)]; exact c10
      · rw [y2, uI_o (by omega), uI_o (by omega), uJ_i, uI_o (by omega), uJ_i, uI_o (by omega)]; exact x15
      · rw [y2, uI_o (by omega), uI_s]
      · rw [y2, uI_o (by omega), uI_o (by omega), uJ_i, uI_o (by omega), uJ_i, uI_s]
      · rw [yw]
        by_cases q8 : qq - s ≤ 8
        · rw [e2' q8]
          have := pi q8 i hi
          exact ⟨fun z => this.mp z.2, fun z => ⟨rfl, this.mpr z⟩⟩
        · rw [e3' (by omega) (by omega)]
          have := pj8 (by omega)
          exact ⟨fun z => absurd z.2.symm (kwd_r ⟨i, hi⟩).2, fun z => by omega⟩
      · rw [y2, uI_s]
      · rw [p9]
        exact ⟨fun z w => z ⟨w.2.1, w.2.2⟩, fun z w => z ⟨rfl, w.1, w.2⟩⟩
      · rw [p9b w, yw]
        have : qq - s ≤ 8 := by
          by_cases z : qq - s ≤ 8
          · exact z
          · exact absurd (p9.mpr (fun t => z t.1)) w
        rw [e2' this]
      · rw [po _ _ (by omega)]; exact c11
      · rw [po _ _ (by omega), co _ _ (by omega)]
      · rw [pJ _ _ (by omega), cj _ _ (by omega)]
      · rw [pr, c2]
      · rw [y2, uI_o (by omega), uI_o (by omega), uJ_i, uI_o (by omega), uJ_i, uI_o (by omega), xo _ _ (by omega)]
      · rw [y2]
        show (uJ (uI (uJ (uI Y 227 14 (zI 1)) 227 19 (lI 0)) 227 16 (zI s)) 227 19 (lI (wmB T E s 900 s 0).2)).2.1 c i = _
        rw [uJ_o (by omega)]
        show (uJ (uI Y 227 14 (zI 1)) 227 19 (lI 0)).2.1 c i = _
        rw [uJ_o (by omega)]
        show Y.2.1 c i = _
        rw [xj]
      · rw [y2]
        show Y.2.2 = _
        rw [xj]
    · by_cases w2 : 48 ≤ T s ∧ T s ≤ 57
      · -- a number
        have p1 := c_num (n := n) ha h1 h2 (show 0 ≤ s by omega) hE w2.1 w2.2 (by rw [c2]; exact r1) d2 dT c10 c3 c8 hn
        have y1 := m2 w2
        have u1 := nu_1 (k := 899) hE w2.1 w2.2
        generalize nuB T E s 900 s 0 = W at p1 y1 u1
        obtain ⟨qq, vv⟩ := W
        simp only at p1 y1 u1
        have kk : (if qq - s ≤ 4 then (2 : Int) else 4) = 2 ∨ (if qq - s ≤ 4 then (2 : Int) else 4) = 4 := by
          by_cases z : qq - s ≤ 4
          · left; rw [if_pos z]
          · right; rw [if_neg z]
        generalize (if qq - s ≤ 4 then (2 : Int) else 4) = k at p1 y1 kk
        refine ⟨_, _, s, k, -1, vv, by rw [k2 w2]; exact p1, y1, ⟨qq, 0, lI 0, by omega, by omega, by omega, fun _ => by omega, by omega, by omega, by omega, by omega, by omega, by omega, ?_, ?_, ?_, ?_, uI_s, uI_s, ?_, ?_, fun i hi => ⟨fun z => by omega, fun z => by omega⟩, fun z => by omega, ⟨fun _ z => by omega, fun _ => rfl⟩, fun w => absurd rfl w, fun w => by omega, fun w => ⟨?_, ?_, u1.2.1, u1.2.2.1⟩, fun w => by omega⟩, sr.1, ?_, ⟨fun c i w => ?_, fun c i w => ?_, ?_⟩, ⟨fun c i w => ?_, fun c i w => ?_, ?_⟩⟩
        · rw [uI_o (by omega), uI_o (by omega), uI_o (by omega)]; exact c10
        · rw [uI_o (by omega), uI_o (by omega), uI_o (by omega), uI_o (by omega)]; exact x15
        · rw [uI_o (by omega), uI_s]
        · rw [uI_o (by omega), uI_s]
        · rw [uI_o (by omega), uI_o (by omega), uI_o (by omega)]; exact c7
        · exact c9
        · rw [uI_o (by omega), uI_o (by omega), uI_s]
        · rw [uI_o (by omega), uI_o (by omega), uI_s]
        · rw [uI_o (by omega), uI_o (by omega), uI_o (by omega)]; exact c11
        · rw [uI_o (by omega), uI_o (by omega), uI_o (by omega), co _ _ (by omega)]
        · exact cj c i (by omega)
        · exact c2
        · rw [uI_o (by omega), uI_o (by omega), uI_o (by omega), uI_o (by omega), xo _ _ (by omega)]
        · show Y.2.1 c i = _
          rw [xj]
        · show Y.2.2 = _
          rw [xj]
      · -- a mark, or none
        have y1 := m3 w1 w2
        have kk : ((if sgn (T s) then (3 : Int) else 4) = 3 ∧ sgn (T s)) ∨ (if sgn (T s) then (3 : Int) else 4) = 4 := by
          by_cases z : sgn (T s)
          · left; rw [if_pos z]; exact ⟨rfl, z⟩
          · right; rw [if_neg z]
        have p1 := k3 w1 w2
        generalize (if sgn (T s) then (3 : Int) else 4) = k at p1 y1 kk
        refine ⟨_, _, s, k, -1, T s, p1, y1, ⟨s + 1, 0, lI 0, by omega, by omega, by omega, fun _ => by omega, by omega, by omega, by omega, by omega, by omega, by omega, ?_, ?_, ?_, ?_, uI_s, uI_s, ?_, ?_, fun i hi => ⟨fun z => by omega, fun z => by omega⟩, fun z => by omega, ⟨fun _ z => by omega, fun _ => rfl⟩, fun w => absurd rfl w, fun w => by omega, fun w => by omega, fun w => ?_⟩, sr.1, ?_, ⟨fun c i w => ?_, fun c i w => ?_, ?_⟩, ⟨fun c i w => ?_, fun c i w => ?_, ?_⟩⟩
        · rw [uI_o (by omega), uI_o (by omega), uI_o (by omega)]; exact c10
        · rw [uI_o (by omega), uI_o (by omega), uI_o (by omega)]; exact x15
        · rw [uI_o (by omega), uI_s]
        · rw [uI_o (by omega), uI_o (by omega), uI_s]
        · rw [uI_o (by omega), uI_o (by omega), uI_o (by omega)]; exact c7
        · exact c9
        · have z : sgn (T s) := by
            rcases kk with kk | kk
            · exact kk.2
            · omega
          refine ⟨?_, ?_, z⟩
          · rw [uI_o (by omega), uI_o (by omega), uI_s]
          · rw [uI_o (by omega), uI_s, show T s % 256 = T s by unfold sgn at z; omega]
        · rw [uI_o (by omega), uI_o (by omega), uI_o (by omega)]; exact c11
        · rw [uI_o (by omega), uI_o (by omega), uI_o (by omega), co _ _ (by omega)]
        · exact cj c i (by omega)
        · exact c2
        · rw [uI_o (by omega), uI_o (by omega), uI_o (by omega), xo _ _ (by omega)]
        · show Y.2.1 c i = _
          rw [xj]
        · show Y.2.2 = _
          rw [xj]
  · -- the end
    refine ⟨_, _, s, 0, -1, 0, kA_end h1 h2 d2 c3 hE sr.2, kX_end h1 h2 x9 x15 hE sr.2, ⟨s, 0, lI 0, by omega, by omega, by omega, fun w => by omega, by omega, by omega, by omega, by omega, by omega, by omega, ?_, ?_, ?_, ?_, uI_s, uI_s, ?_, ?_, fun i hi => ⟨fun z => by omega, fun z => by omega⟩, fun z => by omega, ⟨fun _ z => by omega, fun _ => rfl⟩, fun w => absurd rfl w, fun w => by omega, fun w => by omega, fun w => by omega⟩, sr.1, ?_, ⟨fun c i w => ?_, fun c i w => ?_, ?_⟩, ⟨fun c i w => ?_, fun c i w => ?_, ?_⟩⟩
    · rw [uI_o (by omega)]; exact c10
    · rw [uI_o (by omega)]; exact x15
    · rw [uI_o (by omega)]; exact c3
    · rw [uI_o (by omega)]; exact x16
    · rw [uI_o (by omega)]; exact c7
    · exact c9
    · rw [uI_o (by omega)]; exact c11
    · rw [uI_o (by omega), co _ _ (by omega)]
    · exact cj c i (by omega)
    · exact c2
    · rw [uI_o (by omega), xo _ _ (by omega)]
    · show Y.2.1 c i = _
      rw [xj]
    · show Y.2.2 = _
      rw [xj]
theorem gd_adv2 {T : Int → Int} {E s k j v : Int} {a : Nat} {M X : KM} {n m : Nat} (ha : a = 5 ∨ a = 8) (hE : 0 ≤ E ∧ E ≤ 900) (h : GD T E a s k j v M X) (hn : 1000 < n) (hm : 1000 < m) :
    ∃ M' X' s' k' j' v', f_X9_advance n a M = some M' ∧ f_X12_advance m 227 X = some X' ∧ GD T E a s' k' j' v' M' X' ∧ s ≤ s' ∧ (¬ k = 0 → s < s') ∧ M'.1 a 11 = zI s ∧ FC a M M' ∧ GC X X' := by
  obtain ⟨g1, g2, g3, g4, g5⟩ := h
  obtain ⟨q, l, w, a1, a2, a3, a4, a5, a6, a7, a8, a9, a10, b1, b2, b3, b4, -⟩ := g2
  obtain ⟨M', X', s', k', j', v', e1, e2, e3, e4, e5, e6, e7⟩ := adv2 ha hE.1 hE.2 g1 b3 b4 (by omega) a3 hn hm
  refine ⟨M', X', s', k', j', v', e1, e2, ⟨?_, e3, ?_, ?_, ?_⟩, by omega, fun z => by have := a4 z; omega, by rw [e5]; exact b1, FA_C e6, GA_C e7⟩
  · obtain ⟨q1, q2, q3, q4, q5, q6⟩ := g1
    refine ⟨by rw [e6.2.2]; exact q1, by rw [e6.1 _ _ (by omega)]; exact q2, by rw [e7.1 _ _ (by omega)]; exact q3, fun z u w => by rw [e6.1 _ _ (by omega)]; exact q4 z u w, fun z u w => by rw [e7.1 _ _ (by omega)]; exact q5 z u w, fun k u => by rw [e6.2.1 _ _ (by omega)]; exact q6 k u⟩
  · rw [e7.1 _ _ (by omega)]; exact g3
  · rw [e6.1 _ _ (by omega)]; exact g4
  · rw [e6.1 _ _ (by omega)]; exact g5
theorem nx_adv2 {T : Int → Int} {E s k j v : Int} {a : Nat} {M X : KM} {n m : Nat} (ha : a = 5 ∨ a = 8) (hE : 0 ≤ E ∧ E ≤ 900) (h : GD T E a s k j v M X) (hk : ¬ k = 0) (hn : 1000 < n) (hm : 1000 < m) : ∃ M' X', f_X9_advance n a M = some M' ∧ f_X12_advance m 227 X = some X' ∧ NX T E a s M X M' X' := by
  obtain ⟨M', X', s', k', j', v', e1, e2, e3, e4, e5, e6, e7, e8⟩ := gd_adv2 ha hE h hn hm
  exact ⟨M', X', e1, e2, s', k', j', v', e3, e5 hk, e6, e7, e8⟩
theorem j_skipw2 {T : Int → Int} {E s k j v : Int} {a : Nat} {M X : KM} {n m : Nat} (ha : a = 5 ∨ a = 8) (hE : 0 ≤ E ∧ E ≤ 900) (h : GD T E a s k j v M X) {i : Int} (i0 : 0 ≤ i) (i1 : i < 26) (hn : 1000 < n) (hm : 1000 < m) :
    (j = i ∧ ∃ M' X', f_X9_skipWord n a (zI i) M = some (zI 1, M') ∧ f_X12_advance m 227 X = some X' ∧ f_X12_perhaps m 227 (bI (j = i)) X = some (zI 1, X') ∧ NX T E a s M X M' X') ∨ (¬ j = i ∧ f_X9_skipWord n a (zI i) M = some (zI 0, M) ∧ f_X12_perhaps m 227 (bI (j = i)) X = some (zI 0, X)) := by
  have sj := SG_j h.2.1
  have ss := SG_s h.2.1
  have x0 := h.2.2.1
  by_cases c : j = i
  · obtain ⟨M', X', e1, e2, e3⟩ := nx_adv2 ha hE h (fun z => by have := ss.2.2.2.2.2.2.2.2.2.2 (by omega); omega) hn hm
    refine Or.inl ⟨c, M', X', ?_, e2, ?_, e3⟩
    · unfold f_X9_skipWord
      simp (disch := first | omega | assumption) only [↓reduceIte, zl, ss.2.2.2.2.1, zeqT, if_true, e1, Option.bind_some]
    · unfold f_X12_perhaps
      rw [bIT c]
      simp (disch := first | omega | assumption) only [↓reduceIte, zl, x0, zltF, zeqF, if_false, e2, Option.bind_some]
  · refine Or.inr ⟨c, ?_, ?_⟩
    · unfold f_X9_skipWord
      simp (disch := first | omega | assumption) only [↓reduceIte, zl, ss.2.2.2.2.1, zeqF, if_false]
    · unfold f_X12_perhaps
      rw [bIF c]
      simp (disch := first | omega | assumption) only [↓reduceIte, zl, x0, zltF, zeqT, if_false, if_true]
theorem j_word2 {T : Int → Int} {E s k j v : Int} {a : Nat} {M X : KM} {n m : Nat} (ha : a = 5 ∨ a = 8) (hE : 0 ≤ E ∧ E ≤ 900) (h : GD T E a s k j v M X) {i : Int} (i0 : 0 ≤ i) (i1 : i < 26) (hn : 1000 < n) (hm : 1000 < m) :
    (j = i ∧ ∃ M' X', f_X9_takeWord n a (zI i) M = some (zI 1, M') ∧ f_X12_must m 227 (bI (j = i)) X = some X' ∧ NX T E a s M X M' X') ∨ (¬ j = i ∧ ∃ M' X', f_X9_takeWord n a (zI i) M = some (zI 0, M') ∧ f_X12_must m 227 (bI (j = i)) X = some X' ∧ FL a M M' X X') := by
  have x0 := h.2.2.1
  rcases j_skipw2 ha hE h i0 i1 hn hm with ⟨c, M', X', e1, e2, e3, e4⟩ | ⟨c, e1, e2⟩
  · refine Or.inl ⟨c, M', X', ?_, ?_, e4⟩
    · unfold f_X9_takeWord
      simp (disch := first | omega | assumption) only [↓lt, ↓reduceIte, zl, e1, Option.bind_some, zeqF, if_false]
    · rw [bIT c]; exact m_must1 x0 e2
  · obtain ⟨M', X', f1, f2, f3⟩ := fl_order h
    refine Or.inr ⟨c, M', X', ?_, ?_, f3⟩
    · unfold f_X9_takeWord
      simp (disch := first | omega | assumption) only [↓lt, ↓reduceIte, zl, e1, Option.bind_some, zeqT, if_true, f1]
    · rw [bIF c, m_must0 x0, f2]
theorem j_semi2 {T : Int → Int} {E s k j v : Int} {a : Nat} {M X : KM} {n m : Nat} (ha : a = 5 ∨ a = 8) (hE : 0 ≤ E ∧ E ≤ 900) (h : GD T E a s k j v M X) (hn : 1000 < n) (hm : 1000 < m) :
    (∃ M' X', f_X9_takeSemicolon n a M = some (zI 1, M') ∧ f_X12_must m 227 (f_X12_isSign 227 (zI 59) X) X = some X' ∧ NX T E a s M X M' X') ∨ (∃ M' X', f_X9_takeSemicolon n a M = some (zI 0, M') ∧ f_X12_must m 227 (f_X12_isSign 227 (zI 59) X) X = some X' ∧ FL a M M' X X') := by
  have x0 := h.2.2.1
  obtain ⟨s1, s2, s3, s4, -, -, -, -, k1, k2, -⟩ := SG_s h.2.1
  rw [m_isSign h.2.1 (by omega) (by omega)]
  by_cases c : k = 3
  · have hv : M.1 a 8 = zI v ∧ (v = 59 ∨ v = 60 ∨ v = 61 ∨ v = 62) := by
      obtain ⟨q, l, w, -, -, -, -, -, -, -, -, -, -, -, -, -, -, -, -, -, -, -, -, -, -, -, -, hs⟩ := h.2.1
      exact ⟨(hs c).1, (hs c).2.2⟩
    by_cases d : v = 59
    · obtain ⟨M', X', e1, e2, e3⟩ := nx_adv2 ha hE h (by omega) hn hm
      refine Or.inl ⟨M', X', ?_, ?_, e3⟩
      · unfold f_X9_takeSemicolon
        simp (disch := first | omega | assumption) only [↓lt, ↓reduceIte, zl, s3, hv.1, zeqT, if_true, e1, Option.bind_some]
      · rw [bIT ⟨c, d⟩]; exact m_must1 x0 e2
    · obtain ⟨M', X', f1, f2, f3⟩ := fl_order h
      refine Or.inr ⟨M', X', ?_, ?_, f3⟩
      · unfold f_X9_takeSemicolon
        simp (disch := first | omega | assumption) only [↓lt, ↓reduceIte, zl, s3, hv.1, zeqT, zeqF, if_true, if_false, f1]
      · rw [bIF (fun z => d z.2), m_must0 x0, f2]
  · obtain ⟨M', X', f1, f2, f3⟩ := fl_order h
    refine Or.inr ⟨M', X', ?_, ?_, f3⟩
    · unfold f_X9_takeSemicolon
      simp (disch := first | omega | assumption) only [↓lt, ↓reduceIte, zl, s3, zeqF, if_false, f1]
    · rw [bIF (fun z => c z.1), m_must0 x0, f2]
theorem j_num2 {T : Int → Int} {E s k j v : Int} {a : Nat} {M X : KM} {n m : Nat} (ha : a = 5 ∨ a = 8) (hE : 0 ≤ E ∧ E ≤ 900) (h : GD T E a s k j v M X) {lo hi : Int} (l0 : 0 ≤ lo) (l1 : lo ≤ 10000) (i0 : 0 ≤ hi) (i1 : hi ≤ 10000) (hn : 1000 < n) (hm : 1000 < m) :
    (∃ M' X' x, f_X9_takeNumber n a (zI lo) (zI hi) M = some (zI x, M') ∧ f_X12_count m 227 (zI lo) (zI hi) X = some (zI x, X') ∧ lo ≤ x ∧ x ≤ hi ∧ NX T E a s M X M' X') ∨ (∃ M' X', f_X9_takeNumber n a (zI lo) (zI hi) M = some (zI (-1), M') ∧ f_X12_count m 227 (zI lo) (zI hi) X = some (zI 0, X') ∧ FL a M M' X X') := by
  have x0 := h.2.2.1
  obtain ⟨s1, s2, s3, s4, -, -, -, -, k1, k2, -⟩ := SG_s h.2.1
  by_cases c : k = 2
  · have hv : M.1 a 8 = zI v ∧ X.1 227 17 = zI v ∧ 0 ≤ v ∧ v ≤ 9999 := by
      obtain ⟨q, l, w, -, -, -, -, -, -, -, -, -, -, -, -, -, -, -, -, -, -, -, -, -, -, -, hs, -⟩ := h.2.1
      exact hs c
    obtain ⟨v1, v2, v3, v4⟩ := hv
    have ii : f_X12_isIn (zI v).toInt64 (zI lo).toInt64 (zI hi).toInt64 X = bI (lo ≤ v ∧ v ≤ hi) := by
      rw [zwide (by omega) (by omega), zwide (by omega) (by omega), zwide (by omega) (by omega)]
      exact m_isIn (by omega) (by omega) (by omega) (by omega) (by omega) (by omega)
    by_cases d : lo ≤ v ∧ v ≤ hi
    · obtain ⟨M', X', e1, e2, e3⟩ := nx_adv2 ha hE h (by omega) hn hm
      rw [bIT d] at ii
      refine Or.inl ⟨M', X', v, ?_, ?_, d.1, d.2, e3⟩
      · unfold f_X9_takeNumber
        simp (disch := first | omega | assumption) only [↓lt, ↓reduceIte, zl, s3, v1, zeqT, zltF, zleT, if_true, if_false, e1, Option.bind_some]
      · unfold f_X12_count
        simp (disch := first | omega | assumption) only [↓lt, ↓reduceIte, zl, s4, v2, x0, zeqT, zeqF, zleT, if_true, if_false, ii, e2, Option.bind_some]
    · obtain ⟨M', X', f1, f2, f3⟩ := fl_fail (f := 4) h (by omega) (by omega)
      rw [bIF d] at ii
      have xb := BD_X f3.1
      obtain ⟨f, b1, b2, b3⟩ := xb
      refine Or.inr ⟨M', X', ?_, ?_, f3⟩
      · unfold f_X9_takeNumber
        by_cases e : v < lo
        · simp (disch := first | omega | assumption) only [↓lt, ↓reduceIte, zl, s3, v1, zeqT, zltT, if_true, if_false, f1, zneg, Int.reduceNeg]
        · simp (disch := first | omega | assumption) only [↓lt, ↓reduceIte, zl, s3, v1, zeqT, zltF, zleF, if_true, if_false, f1, zneg, Int.reduceNeg]
      · unfold f_X12_count
        simp (disch := first | omega | assumption) only [↓lt, ↓reduceIte, zl, s4, v2, x0, zeqT, if_true, ii, f2, b3, zleF, if_false]
  · obtain ⟨M', X', f1, f2, f3⟩ := fl_order h
    have xb := BD_X f3.1
    obtain ⟨f, b1, b2, b3⟩ := xb
    refine Or.inr ⟨M', X', ?_, ?_, f3⟩
    · unfold f_X9_takeNumber
      simp (disch := first | omega | assumption) only [↓lt, ↓reduceIte, zl, s3, zeqF, if_false, f1, zneg, Int.reduceNeg]
    · unfold f_X12_count
      simp (disch := first | omega | assumption) only [↓lt, ↓reduceIte, zl, s4, x0, zeqT, zeqF, if_true, if_false, f2, b3, zleF]
theorem j_known2 {T : Int → Int} {E s k j v : Int} {a : Nat} {M X : KM} {n m : Nat} (ha : a = 5 ∨ a = 8) (hE : 0 ≤ E ∧ E ≤ 900) (h : GD T E a s k j v M X) {b o : Int32} {r : Int} (r0 : -1 ≤ r) (r1 : r ≤ 8) (em : ¬ M.2.1 a 9 = lI 0 → f_X12_named m 227 b o X = some (zI r)) (hn : 1000 < n) (hm : 1000 < m) :
    (0 ≤ r ∧ ∃ M' X', f_X9_takeKnown n a (zI r) M = some (zI r, M') ∧ f_X12_told m 227 b o X = some (zI r, X) ∧ f_X12_advance m 227 X = some X' ∧ NX T E a s M X M' X') ∨ (∃ M' X', f_X9_takeKnown n a (zI r) M = some (zI (-1), M') ∧ f_X12_told m 227 b o X = some (zI 0, X') ∧ FL a M M' X X') := by
  have x0 := h.2.2.1
  have nm := m_isName h.2.1
  by_cases c : M.2.1 a 9 = lI 0
  · obtain ⟨M', X', f1, f2, f3⟩ := fl_order h
    obtain ⟨f, b1, b2, b3⟩ := BD_X f3.1
    rw [bIF (fun z => z c)] at nm
    refine Or.inr ⟨M', X', ?_, ?_, f3⟩
    · unfold f_X9_takeKnown
      rw [if_pos (lgT (show M.2.1 a 9 = (0 : Int64) from c))]
      simp (disch := first | omega | assumption) only [↓lt, ↓reduceIte, zl, f1, zneg, Int.reduceNeg]
    · unfold f_X12_told
      simp (disch := first | omega | assumption) only [↓lt, ↓reduceIte, zl, x0, zeqT, zleF, if_true, if_false, nm, f2, b3]
  · have e := em c
    rw [bIT c] at nm
    have ne : ¬ M.2.1 a 9 = (0 : Int64) := c
    by_cases d : 0 ≤ r
    · have hk : ¬ k = 0 := by
        obtain ⟨q, l, w, -, -, -, -, -, -, -, -, -, -, -, -, -, -, -, -, -, m9, -, -, hw, -⟩ := h.2.1
        intro z
        exact c (by rw [m9]; exact hw.mpr (fun y => by omega))
      obtain ⟨M', X', e1, e2, e3⟩ := nx_adv2 ha hE h hk hn hm
      refine Or.inl ⟨d, M', X', ?_, ?_, e2, e3⟩
      · unfold f_X9_takeKnown
        rw [if_neg (lgF ne)]
        simp (disch := first | omega | assumption) only [↓lt, ↓reduceIte, zl, zneg, Int.reduceNeg, zeqF, if_false, e1, Option.bind_some]
      · unfold f_X12_told
        simp (disch := first | omega | assumption) only [↓lt, ↓reduceIte, zl, x0, zeqT, zeqF, zleT, if_true, if_false, nm, e, Option.bind_some]
        by_cases u : 0 < r
        · simp (disch := first | omega | assumption) only [zltT, if_true]
        · have : r = 0 := by omega
          subst this
          simp (disch := first | omega | assumption) only [zltF, if_false]
    · have : r = -1 := by omega
      subst this
      obtain ⟨M', X', f1, f2, f3⟩ := fl_fail (f := 3) h (by omega) (by omega)
      refine Or.inr ⟨M', X', ?_, ?_, f3⟩
      · unfold f_X9_takeKnown
        rw [if_neg (lgF ne)]
        simp (disch := first | omega | assumption) only [↓lt, ↓reduceIte, zl, zneg, Int.reduceNeg, zeqT, if_true, f1]
      · unfold f_X12_told
        simp (disch := first | omega | assumption) only [↓lt, ↓reduceIte, zl, x0, zeqT, zeqF, zleT, zleF, zltF, if_true, if_false, nm, e, f2, Option.bind_some]
theorem j_place2 {T : Int → Int} {E s k j v : Int} {a L : Nat} {M X : KM} {n m : Nat} {B c0 c2 : Int} (ha : a = 5 ∨ a = 8) (hE : 0 ≤ E ∧ E ≤ 900) (h : GD T E a s k j v M X) (hB : 0 ≤ B ∧ B ≤ 4) (hN : NA L B c0 c2 M X) (hn : 1000 < n) (hm : 1000 < m) :
    (∃ M' X' r, 0 ≤ r ∧ r < c0 ∧ f_X9_takePlace n a L M = some (zI r, M') ∧ f_X12_told m 227 (zI B) (zI 0) X = some (zI r, X) ∧ f_X12_advance m 227 X = some X' ∧ NX T E a s M X M' X') ∨ (∃ M' X', f_X9_takePlace n a L M = some (zI (-1), M') ∧ f_X12_told m 227 (zI B) (zI 0) X = some (zI 0, X') ∧ FL a M M' X X') := by
  obtain ⟨q0, q1, q2, q3, q4, q5, q6⟩ := hN
  have e1 := c_placeNamed (w := M.2.1 a 9) (n := n) q1 q0.1 q0.2.1 (by omega)
  have e2 := m_named0 (n := m) hB.1 hB.2 q3 q0.1 q0.2.1 (by omega)
  have fr := fst_r (P := fun i => decide (M.2.1 (L + 1) i.toNat = M.2.1 a 9)) c0.toNat 0 (by omega)
  have em : ¬ M.2.1 a 9 = lI 0 → fstI (fun i => decide (X.2.1 235 (16 * B + i).toNat = X.2.1 227 19)) c0.toNat 0 = fstI (fun i => decide (M.2.1 (L + 1) i.toNat = M.2.1 a 9)) c0.toNat 0 := fun c => by
    obtain ⟨q, l, w, -, -, -, -, -, -, -, -, -, -, -, -, -, -, -, -, -, m9, -, -, hw, hx, -⟩ := h.2.1
    rw [m9] at c ⊢
    rw [hx c]
    exact fst_c _ _ (fun i u w => by rw [q5 i u (by omega)])
  generalize fstI (fun i => decide (M.2.1 (L + 1) i.toNat = M.2.1 a 9)) c0.toNat 0 = r at *
  have rr : -1 ≤ r ∧ r < c0 := by omega
  have K := j_known2 (n := n) (m := m) ha hE h (b := zI B) (o := zI 0) rr.1 (show r ≤ 8 by omega) (fun c => by rw [e2, em c]) hn hm
  have U : ∀ x : Int32 × KM, f_X9_takeKnown n a (zI r) M = some x → f_X9_takePlace n a L M = some x := fun x hx => by
    unfold f_X9_takePlace
    rw [e1, Option.bind_some, hx]; rfl
  rcases K with ⟨d, M', X', k1, k2, k3, k4⟩ | ⟨M', X', k1, k2, k3⟩
  · exact Or.inl ⟨M', X', r, d, rr.2, U _ k1, k2, k3, k4⟩
  · exact Or.inr ⟨M', X', U _ k1, k2, k3⟩
theorem j_person2 {T : Int → Int} {E s k j v : Int} {a L : Nat} {M X : KM} {n m : Nat} {B c0 c2 : Int} (ha : a = 5 ∨ a = 8) (hE : 0 ≤ E ∧ E ≤ 900) (h : GD T E a s k j v M X) (hB : 0 ≤ B ∧ B ≤ 4) (hN : NA L B c0 c2 M X) (hn : 1000 < n) (hm : 1000 < m) :
    (∃ M' X' r, 0 ≤ r ∧ r < c2 ∧ f_X9_takePerson n a L M = some (zI r, M') ∧ f_X12_told m 227 (zI B) (zI 1) X = some (zI r, X) ∧ f_X12_advance m 227 X = some X' ∧ NX T E a s M X M' X') ∨ (∃ M' X', f_X9_takePerson n a L M = some (zI (-1), M') ∧ f_X12_told m 227 (zI B) (zI 1) X = some (zI 0, X') ∧ FL a M M' X X') := by
  obtain ⟨q0, q1, q2, q3, q4, q5, q6⟩ := hN
  have e1 := c_personNamed (w := M.2.1 a 9) (n := n) q2 q0.2.2.1 q0.2.2.2 (by omega)
  have e2 := m_named1 (n := m) hB.1 hB.2 q4 q0.2.2.1 q0.2.2.2 (by omega)
  have fr := fst_r (P := fun i => decide (M.2.1 (L + 14 + 3 * i.toNat) 2 = M.2.1 a 9)) c2.toNat 0 (by omega)
  have em : ¬ M.2.1 a 9 = lI 0 → fstI (fun i => decide (X.2.1 235 (16 * B + 8 + i).toNat = X.2.1 227 19)) c2.toNat 0 = fstI (fun i => decide (M.2.1 (L + 14 + 3 * i.toNat) 2 = M.2.1 a 9)) c2.toNat 0 := fun c => by
    obtain ⟨q, l, w, -, -, -, -, -, -, -, -, -, -, -, -, -, -, -, -, -, m9, -, -, hw, hx, -⟩ := h.2.1
    rw [m9] at c ⊢
    rw [hx c]
    exact fst_c _ _ (fun i u w => by rw [q6 i u (by omega)])
  generalize fstI (fun i => decide (M.2.1 (L + 14 + 3 * i.toNat) 2 = M.2.1 a 9)) c2.toNat 0 = r at *
  have rr : -1 ≤ r ∧ r < c2 := by omega
  have K := j_known2 (n := n) (m := m) ha hE h (b := zI B) (o := zI 1) rr.1 (show r ≤ 8 by omega) (fun c => by rw [e2, em c]) hn hm
  have U : ∀ x : Int32 × KM, f_X9_takeKnown n a (zI r) M = some x → f_X9_takePerson n a L M = some x := fun x hx => by
    unfold f_X9_takePerson
    rw [e1, Option.bind_some, hx]; rfl
  rcases K with ⟨d, M', X', k1, k2, k3, k4⟩ | ⟨M', X', k1, k2, k3⟩
  · exact Or.inl ⟨M', X', r, d, rr.2, U _ k1, k2, k3, k4⟩
  · exact Or.inr ⟨M', X', U _ k1, k2, k3⟩
