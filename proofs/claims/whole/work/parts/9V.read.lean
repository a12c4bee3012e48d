/-! ===== land, days: both go on to the next sign ===== -/
theorem c_num {T : Int → Int} {E s : Int} {a : Nat} {M : KM} {n : Nat} (ha : a = 5 ∨ a = 8) (h1 : 0 ≤ E) (h2 : E ≤ 900) (hs : 0 ≤ s) (hE : s < E) (t1 : 48 ≤ T s) (t2 : T s ≤ 57) (r1 : M.2.2 a 1 = 2) (e2 : M.1 a 2 = zI E) (hT : ∀ z, 0 ≤ z → z < 900 → M.1 2 z.toNat = zI (T z) ∧ -128 ≤ T z ∧ T z < 128) (h10 : M.1 a 10 = zI s) (h3 : M.1 a 3 = zI s) (h8 : M.1 a 8 = zI 0) (hn : 1000 < n) :
    f_X9_scanNumber n a M = some (uI (uI (uI M a 8 (zI (nuB T E s 900 s 0).2)) a 3 (zI (nuB T E s 900 s 0).1)) a 6 (zI (if (nuB T E s 900 s 0).1 - s ≤ 4 then 2 else 4))) := by
  have L := fun κ => c_digits (T := T) (E := E) (s := s) (a := a) (κ := κ) ha h1 h2 hs 900 s 0 M n r1 e2 hT h10 h3 h8 (by omega) (by omega) (by omega) (by omega)
  have wl := nu_1 (k := 899) hE t1 t2
  generalize nuB T E s 900 s 0 = W at L wl ⊢
  obtain ⟨q, v⟩ := W
  simp only at L wl ⊢
  have g3 : (uI (uI M a 8 (zI v)) a 3 (zI q)).1 a 3 = zI q := uI_s
  have g10 : (uI (uI M a 8 (zI v)) a 3 (zI q)).1 a 10 = zI s := by
    rw [uI_o (by omega), uI_o (by omega)]; exact h10
  unfold f_X9_scanNumber
  rw [L, g3, g10, zsub]
  by_cases q4 : q - s ≤ 4
  · rw [if_pos q4]
    simp (disch := first | omega | assumption) only [↓lt, ↓reduceIte, zl, zleT, if_true]
  · rw [if_neg q4]
    simp (disch := first | omega | assumption) only [↓lt, ↓reduceIte, zl, zleF, if_false]
theorem adv {T : Int → Int} {E q : Int} {a : Nat} {M X : KM} {n : Nat} (ha : a = 5 ∨ a = 8) (h1 : 0 ≤ E) (h2 : E ≤ 900) (h : EV T E a M X) (h3 : M.1 a 3 = zI q) (h16 : X.1 227 16 = zI q) (q1 : 0 ≤ q) (q2 : q ≤ E) (hn : 1000 < n) :
    ∃ M' X' s k j v, f_X9_advance n a M = some M' ∧ f_X12_advance n 227 X = some X' ∧ SG a E s k j v M' X' ∧ q ≤ s ∧ M'.1 a 11 = M.1 a 10 ∧ FA a M M' ∧ GA X X' := by
  obtain ⟨r1, e2, e9, hT, hU, hk⟩ := h
  rw [c_adv0 ha h1 h2 r1 e2 hT h3 q1 q2 hn, m_adv0 h1 h2 e9 hU h16 q1 q2 hn]
  have sr := skB_r (T := T) (E := E) 900 q q2
  generalize hS : skB T E 900 q = s at sr ⊢
  obtain ⟨c3, c10, c7, c8, c11, c9⟩ := cRd_v (M := M) (a := a) (s := s)
  have d2 : (cRd M a s).1 a 2 = zI E := by rw [cRd_o (by omega)]; exact e2
  have dT : ∀ z, 0 ≤ z → z < 900 → (cRd M a s).1 2 z.toNat = zI (T z) ∧ -128 ≤ T z ∧ T z < 128 := fun z u v => by rw [cRd_o (by omega)]; exact hT z u v
  have dk : ∀ k : Nat, k < 26 → (cRd M a s).2.1 (a + 1) k = kwd k := fun k u => by rw [cRd_j (by omega)]; exact hk k u
  have x15 : (xRd X s).1 227 15 = zI s := by unfold xRd; rw [uI_o (by omega), uI_s]
  have x16 : (xRd X s).1 227 16 = zI s := uI_s
  have x9 : (xRd X s).1 227 9 = zI E := by rw [xRd_o (by omega)]; exact e9
  have xT : ∀ z, 0 ≤ z → z < 900 → (xRd X s).1 231 z.toNat = zI (T z) ∧ -128 ≤ T z ∧ T z < 128 := fun z u v => by rw [xRd_o (by omega)]; exact hU z u v
  have co := fun c i w => @cRd_o M a c i s w
  have cj := fun c i w => @cRd_j M a c i s w
  have c2 : (cRd M a s).2.2 = M.2.2 := cRd_2
  have xo := fun c i w => @xRd_o X c i s w
  have xj : (xRd X s).2 = X.2 := rfl
  generalize hC : cRd M a s = C at *
  generalize hX : xRd X s = Y at *
  by_cases hE : s < E
  · obtain ⟨k1, k2, k3⟩ := kA_at (n := n) h1 h2 (show 0 ≤ s by omega) (by rw [c2]; exact r1) d2 c3 (dT s (by omega) (by omega)) hE
    obtain ⟨m1, m2, m3⟩ := kX_at h1 h2 (show 0 ≤ s by omega) x9 x15 x16 xT hE hn
    by_cases w1 : 97 ≤ T s ∧ T s ≤ 122
    · -- a word
      obtain ⟨M', j, p1, p3, p6, p7, pj1, pj2, p9, p9b, pj8, pi, po, pJ, pr⟩ := c_word (n := n) ha h1 h2 (show 0 ≤ s by omega) hE w1.1 w1.2 (by rw [c2]; exact r1) d2 dT dk c10 c3 c7 c9 hn
      obtain ⟨X', y1, y2⟩ := m1 w1
      have u1 := wo_1 (k := 899) hE w1.1 w1.2
      have e1 := wm_1 (T := T) (E := E) (s := s) 900 s 0 0
      have e2' := wm_2 (T := T) (E := E) (s := s) 900 s 0
      have e3' := wm_3 (T := T) (E := E) (s := s) 900 s 0 0
      rw [e1] at y2
      generalize hW : woB T E s 900 s 0 = W at p3 p9 p9b pj8 pi u1 y2 e2' e3'
      obtain ⟨qq, vv⟩ := W
      simp only at p3 p9 p9b pj8 pi u1 y2 e2' e3'
      have yw : X'.2.1 227 19 = lI (wmB T E s 900 s 0).2 := by rw [y2]; exact uJ_s
      refine ⟨M', X', s, 1, j, 0, by rw [k1 w1]; exact p1, y1, ⟨qq, qq - s, M'.2.1 a 9, by omega, by omega, by omega, fun _ => by omega, by omega, by omega, pj1, pj2, by omega, by omega, ?_, ?_, p3, ?_, p6, ?_, p7, rfl, fun i hi => ?_, fun _ => ?_, ?_, fun w => ?_, fun _ => rfl, fun w => by omega, fun w => by omega⟩, sr.1, ?_, ⟨fun c i w => ?_, fun c i w => ?_, ?_⟩, ⟨fun c i w => ?_, fun c i w => ?_, ?_⟩⟩
      · rw [po _ _ (by omega)]; exact c10
      · rw [y2, uI_o (by omega), uI_o (by omega), uJ_i, uI_o (by omega), uJ_i, uI_o (by omega)]; exact x15
      · rw [y2, uI_o (by omega), uI_s]
      · rw [y2, uI_o (by omega), uI_o (by omega), uJ_i, uI_o (by omega), uJ_i, uI_s]
      · rw [yw]
        by_cases q8 : qq - s ≤ 8
        · rw [e2' q8]
          have := pi q8 i hi
          exact ⟨fun z => this.mp z.2, fun z => ⟨rfl, this.mpr z⟩⟩
        · rw [e3' (by omega) (by omega)]
          have := pj8 (by omega)
          exact ⟨fun z => absurd z.2.symm (kwd_r ⟨i, hi⟩).2, fun z => by omega⟩
      · rw [y2, uI_s]
      · rw [p9]
        exact ⟨fun z w => z ⟨w.2.1, w.2.2⟩, fun z w => z ⟨rfl, w.1, w.2⟩⟩
      · rw [p9b w, yw]
        have : qq - s ≤ 8 := by
          by_cases z : qq - s ≤ 8
          · exact z
          · exact absurd (p9.mpr (fun t => z t.1)) w
        rw [e2' this]
      · rw [po _ _ (by omega)]; exact c11
      · rw [po _ _ (by omega), co _ _ (by omega)]
      · rw [pJ _ _ (by omega), cj _ _ (by omega)]
      · rw [pr, c2]
      · rw [y2, uI_o (by omega), uI_o (by omega), uJ_i, uI_o (by omega), uJ_i, uI_o (by omega), xo _ _ (by omega)]
      · rw [y2]
        show (uJ (uI (uJ (uI Y 227 14 (zI 1)) 227 19 (lI 0)) 227 16 (zI s)) 227 19 (lI (wmB T E s 900 s 0).2)).2.1 c i = _
        rw [uJ_o (by omega)]
        show (uJ (uI Y 227 14 (zI 1)) 227 19 (lI 0)).2.1 c i = _
        rw [uJ_o (by omega)]
        show Y.2.1 c i = _
        rw [xj]
      · rw [y2]
        show Y.2.2 = _
        rw [xj]
    · by_cases w2 : 48 ≤ T s ∧ T s ≤ 57
      · -- a number
        have p1 := c_num (n := n) ha h1 h2 (show 0 ≤ s by omega) hE w2.1 w2.2 (by rw [c2]; exact r1) d2 dT c10 c3 c8 hn
        have y1 := m2 w2
        have u1 := nu_1 (k := 899) hE w2.1 w2.2
        generalize nuB T E s 900 s 0 = W at p1 y1 u1
        obtain ⟨qq, vv⟩ := W
        simp only at p1 y1 u1
        have kk : (if qq - s ≤ 4 then (2 : Int) else 4) = 2 ∨ (if qq - s ≤ 4 then (2 : Int) else 4) = 4 := by
          by_cases z : qq - s ≤ 4
          · left; rw [if_pos z]
          · right; rw [if_neg z]
        generalize (if qq - s ≤ 4 then (2 : Int) else 4) = k at p1 y1 kk
        refine ⟨_, _, s, k, -1, vv, by rw [k2 w2]; exact p1, y1, ⟨qq, 0, lI 0, by omega, by omega, by omega, fun _ => by omega, by omega, by omega, by omega, by omega, by omega, by omega, ?_, ?_, ?_, ?_, uI_s, uI_s, ?_, ?_, fun i hi => ⟨fun z => by omega, fun z => by omega⟩, fun z => by omega, ⟨fun _ z => by omega, fun _ => rfl⟩, fun w => absurd rfl w, fun w => by omega, fun w => ⟨?_, ?_, u1.2.1, u1.2.2.1⟩, fun w => by omega⟩, sr.1, ?_, ⟨fun c i w => ?_, fun c i w => ?_, ?_⟩, ⟨fun c i w => ?_, fun c i w => ?_, ?_⟩⟩
        · rw [uI_o (by omega), uI_o (by omega), uI_o (by omega)]; exact c10
        · rw [uI_o (by omega), uI_o (by omega), uI_o (by omega), uI_o (by omega)]; exact x15
        · rw [uI_o (by omega), uI_s]
        · rw [uI_o (by omega), uI_s]
        · rw [uI_o (by omega), uI_o (by omega), uI_o (by omega)]; exact c7
        · exact c9
        · rw [uI_o (by omega), uI_o (by omega), uI_s]
        · rw [uI_o (by omega), uI_o (by omega), uI_s]
        · rw [uI_o (by omega), uI_o (by omega), uI_o (by omega)]; exact c11
        · rw [uI_o (by omega), uI_o (by omega), uI_o (by omega), co _ _ (by omega)]
        · exact cj c i (by omega)
        · exact c2
        · rw [uI_o (by omega), uI_o (by omega), uI_o (by omega), uI_o (by omega), xo _ _ (by omega)]
        · show Y.2.1 c i = _
          rw [xj]
        · show Y.2.2 = _
          rw [xj]
      · -- a mark, or none
        have y1 := m3 w1 w2
        have kk : ((if sgn (T s) then (3 : Int) else 4) = 3 ∧ sgn (T s)) ∨ (if sgn (T s) then (3 : Int) else 4) = 4 := by
          by_cases z : sgn (T s)
          · left; rw [if_pos z]; exact ⟨rfl, z⟩
          · right; rw [if_neg z]
        have p1 := k3 w1 w2
        generalize (if sgn (T s) then (3 : Int) else 4) = k at p1 y1 kk
        refine ⟨_, _, s, k, -1, T s, p1, y1, ⟨s + 1, 0, lI 0, by omega, by omega, by omega, fun _ => by omega, by omega, by omega, by omega, by omega, by omega, by omega, ?_, ?_, ?_, ?_, uI_s, uI_s, ?_, ?_, fun i hi => ⟨fun z => by omega, fun z => by omega⟩, fun z => by omega, ⟨fun _ z => by omega, fun _ => rfl⟩, fun w => absurd rfl w, fun w => by omega, fun w => by omega, fun w => ?_⟩, sr.1, ?_, ⟨fun c i w => ?_, fun c i w => ?_, ?_⟩, ⟨fun c i w => ?_, fun c i w => ?_, ?_⟩⟩
        · rw [uI_o (by omega), uI_o (by omega), uI_o (by omega)]; exact c10
        · rw [uI_o (by omega), uI_o (by omega), uI_o (by omega)]; exact x15
        · rw [uI_o (by omega), uI_s]
        · rw [uI_o (by omega), uI_o (by omega), uI_s]
        · rw [uI_o (by omega), uI_o (by omega), uI_o (by omega)]; exact c7
        · exact c9
        · have z : sgn (T s) := by
            rcases kk with kk | kk
            · exact kk.2
            · omega
          refine ⟨?_, ?_, z⟩
          · rw [uI_o (by omega), uI_o (by omega), uI_s]
          · rw [uI_o (by omega), uI_s, show T s % 256 = T s by unfold sgn at z; omega]
        · rw [uI_o (by omega), uI_o (by omega), uI_o (by omega)]; exact c11
        · rw [uI_o (by omega), uI_o (by omega), uI_o (by omega), co _ _ (by omega)]
        · exact cj c i (by omega)
        · exact c2
        · rw [uI_o (by omega), uI_o (by omega), uI_o (by omega), xo _ _ (by omega)]
        · show Y.2.1 c i = _
          rw [xj]
        · show Y.2.2 = _
          rw [xj]
  · -- the end
    refine ⟨_, _, s, 0, -1, 0, kA_end h1 h2 d2 c3 hE sr.2, kX_end h1 h2 x9 x15 hE sr.2, ⟨s, 0, lI 0, by omega, by omega, by omega, fun w => by omega, by omega, by omega, by omega, by omega, by omega, by omega, ?_, ?_, ?_, ?_, uI_s, uI_s, ?_, ?_, fun i hi => ⟨fun z => by omega, fun z => by omega⟩, fun z => by omega, ⟨fun _ z => by omega, fun _ => rfl⟩, fun w => absurd rfl w, fun w => by omega, fun w => by omega, fun w => by omega⟩, sr.1, ?_, ⟨fun c i w => ?_, fun c i w => ?_, ?_⟩, ⟨fun c i w => ?_, fun c i w => ?_, ?_⟩⟩
    · rw [uI_o (by omega)]; exact c10
    · rw [uI_o (by omega)]; exact x15
    · rw [uI_o (by omega)]; exact c3
    · rw [uI_o (by omega)]; exact x16
    · rw [uI_o (by omega)]; exact c7
    · exact c9
    · rw [uI_o (by omega)]; exact c11
    · rw [uI_o (by omega), co _ _ (by omega)]
    · exact cj c i (by omega)
    · exact c2
    · rw [uI_o (by omega), xo _ _ (by omega)]
    · show Y.2.1 c i = _
      rw [xj]
    · show Y.2.2 = _
      rw [xj]
