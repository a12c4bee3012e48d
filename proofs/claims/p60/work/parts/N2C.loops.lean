/-! ===== the parts one after the other ===== -/
def Kw (l : List Int) : Prop := ∃ l' j, Nx l l' 1 j 0 0
theorem Kw_Lx {l : List Int} (h : Kw l) : Lx l := by
  obtain ⟨l', j, h⟩ := h
  exact ⟨l', 1, j, 0, 0, h⟩
theorem Kw_6 {T : Int → Int} {E : Int} {M : KM} {l : List Int} (h : Kw l) (hA : At T E M l) : M.1 5 6 = zI 1 := by
  obtain ⟨l', j, h⟩ := h
  exact (hA.2 _ _ _ _ _ h).2.1
theorem kw_7 {s k : Int} {x : List Int} : Kw (sw 7 ++ (nam s k ++ x)) := ⟨_, _, nx_word (w := sw 7) (i := 6) (by decide) (by decide) (by decide) (nl_c (by decide)) (by decide) (by decide +kernel)⟩
theorem kw_8 {s k : Int} {x : List Int} : Kw (sw 8 ++ (nam s k ++ x)) := ⟨_, _, nx_word (w := sw 8) (i := 7) (by decide) (by decide) (by decide) (nl_c (by decide)) (by decide) (by decide +kernel)⟩
theorem kw_15 {s k : Int} {x : List Int} : Kw (sw 15 ++ (nam s k ++ x)) := ⟨_, _, nx_word (w := sw 15) (i := 14) (by decide) (by decide) (by decide) (nl_c (by decide)) (by decide) (by decide +kernel)⟩
theorem kw_p {s k b : Int} {x : List Int} : Kw ((if b = 1 then sw 11 else sw 12) ++ (nam s k ++ x)) := by
  by_cases w : b = 1
  · rw [if_pos w]
    exact ⟨_, _, nx_word (w := sw 11) (i := 13) (by decide) (by decide) (by decide) (nl_c (by decide)) (by decide) (by decide +kernel)⟩
  · rw [if_neg w]
    exact ⟨_, _, nx_word (w := sw 12) (i := 10) (by decide) (by decide) (by decide) (nl_c (by decide)) (by decide) (by decide +kernel)⟩
theorem kw_0 {v : Int} {x : List Int} : Kw (sw 0 ++ (nmb v ++ x)) := ⟨_, _, nx_word (w := sw 0) (i := 0) (by decide) (by decide) (by decide) (nl_c (by decide)) (by decide) (by decide +kernel)⟩
theorem kw_C {v : Int} {x : List Int} : Kw (wC ++ (nmb v ++ x)) := ⟨_, _, nx_word (w := wC) (i := 2) (by decide) (by decide) (by decide) (nl_c (by decide)) (by decide) (by decide +kernel)⟩
theorem kw_R {v : Int} {x : List Int} : Kw (wR ++ (nmb v ++ x)) := ⟨_, _, nx_word (w := wR) (i := 3) (by decide) (by decide) (by decide) (nl_c (by decide)) (by decide) (by decide +kernel)⟩
theorem kw_H {v : Int} {x : List Int} : Kw (wH ++ (nmb v ++ x)) := ⟨_, _, nx_word (w := wH) (i := 4) (by decide) (by decide) (by decide) (nl_c (by decide)) (by decide) (by decide +kernel)⟩
theorem kw_O {v : Int} {x : List Int} : Kw (wO ++ (nmb v ++ x)) := ⟨_, _, nx_word (w := wO) (i := 5) (by decide) (by decide) (by decide) (nl_c (by decide)) (by decide) (by decide +kernel)⟩
theorem rd_step {M M' : KM} {w : Int} {n : Nat} (h6 : M.1 5 6 = zI 1) (w0 : 0 ≤ w) (w9 : w < 900) (e : f_X3_readPart n 5 61 M = some (zI 1, M')) : lp_X3_readInto_23 (n + 1) 5 61 (zI w) M = lp_X3_readInto_23 n 5 61 (zI (w + 1)) M' := by
  rw [lp_X3_readInto_23]
  simp only [zl]
  rw [if_neg (leN (by omega) (by omega) (by omega)), lt_hd, c_isAtEnd h6 (by omega) (by omega), bIF (show ¬ (1 : Int) = 0 by decide), if_pos rfl, e, Option.bind_some]
  dsimp only
  rw [if_neg (show ¬ zI 1 = zI 0 by decide), lt_hd, zadd]
/-- a state of the reading: the text left, the land so far -/
def Rs (T : Int → Int) (E : Int) (M : KM) (l : List Int) (c : Int → Int) (t u : Int) : Prop := At T E M l ∧ LC c M ∧ To M t u
/-- some parts read: at most m of them -/
def Gr (M : KM) (n : Nat) (w : Int) (m : Nat) (P : KM → Prop) : Prop := ∃ (n' : Nat) (w' : Int) (M' : KM), lp_X3_readInto_23 n 5 61 (zI w) M = lp_X3_readInto_23 n' 5 61 (zI w') M' ∧ n ≤ n' + m ∧ w' ≤ w + m ∧ 0 ≤ w' ∧ RF M M' ∧ P M'
theorem Gr_0 {M : KM} {n : Nat} {w : Int} {P : KM → Prop} (w0 : 0 ≤ w) (h : P M) : Gr M n w 0 P := ⟨n, w, M, rfl, Nat.le_refl _, by omega, w0, RF_r, h⟩
theorem Gr_t {M : KM} {n : Nat} {w : Int} {m k : Nat} {P Q : KM → Prop} (h : Gr M n w m P) (g : ∀ (M' : KM) (n' : Nat) (w' : Int), P M' → n ≤ n' + m → w' ≤ w + m → 0 ≤ w' → Gr M' n' w' k Q) : Gr M n w (m + k) Q := by
  obtain ⟨n1, w1, M1, e1, a1, b1, c1, f1, p1⟩ := h
  obtain ⟨n2, w2, M2, e2, a2, b2, c2, f2, p2⟩ := g M1 n1 w1 p1 a1 b1 c1
  exact ⟨n2, w2, M2, e1.trans e2, by omega, by omega, c2, RF_t f1 f2, p2⟩
theorem Gr_w {M : KM} {n : Nat} {w : Int} {m : Nat} {P Q : KM → Prop} (h : Gr M n w m P) (g : ∀ M', P M' → Q M') : Gr M n w m Q := by
  obtain ⟨n1, w1, M1, e1, a1, b1, c1, f1, p1⟩ := h
  exact ⟨n1, w1, M1, e1, a1, b1, c1, f1, g M1 p1⟩
theorem Gr_u {M : KM} {n : Nat} {w : Int} {m k : Nat} {P : KM → Prop} (h : Gr M n w m P) (hk : m ≤ k) : Gr M n w k P := by
  obtain ⟨n1, w1, M1, e1, a1, b1, c1, f1, p1⟩ := h
  exact ⟨n1, w1, M1, e1, by omega, by omega, c1, f1, p1⟩
theorem Gr_1 {T : Int → Int} {E : Int} {M : KM} {n : Nat} {w : Int} {l l' : List Int} {c' : Int → Int} {t u : Int} (hK : Kw l') (hA : At T E M l') (w0 : 0 ≤ w) (w9 : w < 900) (hn : 1 ≤ n) (h : ∀ k, n = k + 1 → ∃ M', Pa T E k M M' l c' t u) : Gr M n w 1 (fun M' => Rs T E M' l c' t u) := by
  obtain ⟨k, rfl⟩ : ∃ k, n = k + 1 := ⟨n - 1, by omega⟩
  obtain ⟨M', p1, p2, p3, p4, p5⟩ := h k rfl
  exact ⟨k, w + 1, M', rd_step (Kw_6 hK hA) w0 w9 p1, Nat.le_refl _, by omega, by omega, p2, p3, p4, p5⟩
theorem rd_places {T : Int → Int} {E : Int} {l : List Int} {t u : Int} (hL : Lx l) : ∀ (m n : Nat) (w : Int) (M : KM) (c : Int → Int), Rs T E M (plT m (c 0) ++ l) c t u → c 0 + m ≤ 8 → 0 ≤ w → w + m ≤ 800 → m + 1100 ≤ n → Gr M n w m (fun M' => ∃ c', Rs T E M' l c' t u ∧ c' 0 = c 0 + m ∧ ∀ z, ¬ z = 0 → c' z = c z) := by
  intro m
  induction m with
  | zero =>
    intro n w M c hS h8 w0 w8 hn
    exact Gr_0 w0 ⟨c, hS, by omega, fun _ _ => rfl⟩
  | succ m ih =>
    intro n w M c hS h8 w0 w8 hn
    have hA : At T E M (sw 7 ++ (nam 108 (c 0) ++ (sw 6 ++ (plT m (c 0 + 1) ++ l)))) := hS.1
    have hL2 : Lx (plT m (c 0 + 1) ++ l) := by
      cases m with
      | zero => exact hL
      | succ m => exact Kw_Lx (kw_7 (s := 108) (k := c 0 + 1) (x := sw 6 ++ (plT m (c 0 + 1 + 1) ++ l)))
    have s0 : bu c 0 (c 0 + 1) 0 = c 0 + 1 := bu_s
    have g1 := Gr_1 (n := n) (w := w) (c' := bu c 0 (c 0 + 1)) (l := plT m (c 0 + 1) ++ l) (t := t) (u := u) kw_7 hA w0 (by omega) (by omega) (fun k hk => pt_place hA hS.2.1 hS.2.2 (by omega) (by omega) hL2)
    rw [show m + 1 = 1 + m from Nat.add_comm _ _]
    refine Gr_t g1 (fun M1 n1 w1 h1 a1 b1 c1 => ?_)
    rw [← s0] at h1
    rw [s0] at h1
    have i := ih n1 w1 M1 (bu c 0 (c 0 + 1)) (by rw [s0]; exact h1) (by rw [s0]; omega) c1 (by omega) (by omega)
    refine Gr_w i (fun M' ⟨c', q1, q2, q3⟩ => ⟨c', q1, by rw [q2, s0]; omega, fun z hz => (q3 z hz).trans (bu_o hz)⟩)
/-- the roads read are those drawn -/
def Rw (h c : Int → Int) (r : Int) : Prop := c 0 = h 0 ∧ c 1 = r ∧ ∀ i, 0 ≤ i → i < r → c (10 + i) = h (9 + i) ∧ c (22 + i) = h (13 + i)
theorem bt_no {h c : Int → Int} {r : Int} (hR : RD h 10 0) (r0 : 0 ≤ r) (r1 : r < h 1) (hw : Rw h c r) : btB c (h (9 + r)) (h (13 + r)) = -1 := by
  obtain ⟨hD, h10, h14, hr, hk⟩ := hR
  obtain ⟨w0, w1, w2⟩ := hw
  have rr := hr r r0 r1
  unfold btB rdB
  rw [if_neg rr.2.2.2.2.1, w1]
  rcases fst_r (P := fun i => decide ((c (10 + i) = h (9 + r) ∧ c (22 + i) = h (13 + r)) ∨ (c (10 + i) = h (13 + r) ∧ c (22 + i) = h (9 + r)))) r.toNat 0 (by omega) with ⟨e, -⟩ | ⟨e1, e2, e3, -⟩
  · exact e
  · exfalso
    have d := of_decide_eq_true e3
    generalize fstI (fun i => decide ((c (10 + i) = h (9 + r) ∧ c (22 + i) = h (13 + r)) ∨ (c (10 + i) = h (13 + r) ∧ c (22 + i) = h (9 + r)))) r.toNat 0 = i at *
    have k := hk i r e1 (by omega) r1
    obtain ⟨x1, x2⟩ := w2 i e1 (by omega)
    have ri := hr i e1 (by omega)
    rw [x1, x2] at d
    unfold key at k
    rcases d with ⟨d1, d2⟩ | ⟨d1, d2⟩
    · rw [d1, d2] at k; omega
    · rw [d1, d2] at k
      by_cases q : h (13 + r) < h (9 + r)
      · rw [if_pos q, if_neg (by omega)] at k; omega
      · rw [if_neg q, if_pos (by omega)] at k; omega
theorem bt_yes {h c : Int → Int} {r : Int} (hR : RD h 10 0) (r0 : 0 ≤ r) (r1 : r < h 1) (hw : Rw h c (h 1)) : 0 ≤ btB c (h (13 + r)) (h (9 + r)) := by
  obtain ⟨hD, h10, h14, hr, hk⟩ := hR
  obtain ⟨w0, w1, w2⟩ := hw
  have rr := hr r r0 r1
  unfold btB rdB
  rw [if_neg (fun z => rr.2.2.2.2.1 z.symm), w1]
  rcases fst_r (P := fun i => decide ((c (10 + i) = h (13 + r) ∧ c (22 + i) = h (9 + r)) ∨ (c (10 + i) = h (9 + r) ∧ c (22 + i) = h (13 + r)))) (h 1).toNat 0 (by omega) with ⟨-, e⟩ | ⟨e1, -⟩
  · exfalso
    have := of_decide_eq_false (e r r0 (by omega))
    exact this (Or.inr (w2 r r0 r1))
  · exact e1
theorem Rw_ad {h c : Int → Int} {r : Int} (r0 : 0 ≤ r) (r12 : r < 12) (hw : Rw h c r) (m q : Int) : Rw h (rdC c (h (9 + r)) (h (13 + r)) m q) (r + 1) := by
  obtain ⟨w0, w1, w2⟩ := hw
  obtain ⟨o, s1, sx, sy', -, -⟩ := rdC_v (c := c) (x := h (9 + r)) (y := h (13 + r)) (m := m) (q := q) (by omega) (by omega)
  refine ⟨by rw [o 0 (by omega) (by omega) (by omega) (by omega) (by omega)]; exact w0, by rw [s1, w1], fun i i0 i1 => ?_⟩
  by_cases e : i = r
  · rw [w1] at sx sy'
    rw [e, sx, sy']
    exact ⟨rfl, rfl⟩
  · rw [o (10 + i) (by omega) (by omega) (by omega) (by omega) (by omega), o (22 + i) (by omega) (by omega) (by omega) (by omega) (by omega)]
    exact w2 i i0 (by omega)
theorem rd_roads {T : Int → Int} {E : Int} {l : List Int} {h : Int → Int} {t u : Int} (hL : Lx l) (hR : RD h 10 0) : ∀ (m n : Nat) (w r : Int) (M : KM) (c : Int → Int), Rs T E M (rdT h m r ++ l) c t u → Rw h c r → 0 ≤ r → r + m = h 1 → 0 ≤ w → w + m ≤ 800 → m + 1100 ≤ n → Gr M n w m (fun M' => ∃ c', Rs T E M' l c' t u ∧ Rw h c' (h 1) ∧ c' 2 = c 2) := by
  have hR0 := hR
  obtain ⟨hD, h10, h14, hr, hk⟩ := hR0
  intro m
  induction m with
  | zero =>
    intro n w r M c hS hw r0 rm w0 w8 hn
    have : r = h 1 := by omega
    subst this
    exact Gr_0 w0 ⟨c, hS, hw, rfl⟩
  | succ m ih =>
    intro n w r M c hS hw r0 rm w0 w8 hn
    have rr := hr r r0 (by omega)
    have hA : At T E M (sw 8 ++ (nam 108 (h (9 + r)) ++ (nam 108 (h (13 + r)) ++ (sw 9 ++ (nmb (h (17 + r)) ++ ((if h (21 + r) = 1 then sw 10 else sw 6) ++ (rdT h m (r + 1) ++ l))))))) := by
      have := hS.1
      rw [rdT] at this
      simp only [List.append_assoc] at this
      exact this
    have hL2 : Lx (rdT h m (r + 1) ++ l) := by
      cases m with
      | zero => exact hL
      | succ m =>
        rw [rdT]
        simp only [List.append_assoc]
        exact Kw_Lx kw_8
    have w0' := hw.1
    have w1' := hw.2.1
    have g1 := Gr_1 (n := n) (w := w) (c' := rdC c (h (9 + r)) (h (13 + r)) (h (17 + r)) (h (21 + r))) (l := rdT h m (r + 1) ++ l) (t := t) (u := u) kw_8 hA w0 (by omega) (by omega) (fun k hk => pt_road hA hS.2.1 hS.2.2 (by omega) (by omega) (bt_no hR r0 (by omega) hw) (by omega) hL2)
    rw [show m + 1 = 1 + m from Nat.add_comm _ _]
    refine Gr_t g1 (fun M1 n1 w1 h1 a1 b1 c1 => ?_)
    have i := ih n1 w1 (r + 1) M1 _ h1 (Rw_ad r0 (by omega) hw _ _) (by omega) (by omega) c1 (by omega) (by omega)
    refine Gr_w i (fun M' ⟨c', q1, q2, q3⟩ => ⟨c', q1, q2, q3.trans ?_⟩)
    obtain ⟨o, -⟩ := rdC_v (c := c) (x := h (9 + r)) (y := h (13 + r)) (m := h (17 + r)) (q := h (21 + r)) (by omega) (by omega)
    exact o 2 (by omega) (by omega) (by omega) (by omega) (by omega)
theorem Rw_o {h c d : Int → Int} {r : Int} (r12 : r ≤ 12) (e : ∀ z, ¬ 58 ≤ z → ¬ z = 2 → d z = c z) (hw : Rw h c r) : Rw h d r := by
  obtain ⟨w0, w1, w2⟩ := hw
  refine ⟨by rw [e 0 (by omega) (by omega)]; exact w0, by rw [e 1 (by omega) (by omega)]; exact w1, fun i i0 i1 => ?_⟩
  rw [e (10 + i) (by omega) (by omega), e (22 + i) (by omega) (by omega)]
  exact w2 i i0 i1
theorem rd_knows {T : Int → Int} {E : Int} {l : List Int} {h : Int → Int} {p t : Int} (hL : Lx l) (hR : RD h 10 0) (p0 : 0 ≤ p) : ∀ (m n : Nat) (w r u : Int) (M : KM) (c : Int → Int), Rs T E M (knT h p m r ++ l) c t u → Rw h c (h 1) → p < c 2 → 0 ≤ r → r + m = h 1 → 0 ≤ w → w + m ≤ 800 → m + 1100 ≤ n → Gr M n w m (fun M' => ∃ c' u', Rs T E M' l c' t u' ∧ Rw h c' (h 1) ∧ c' 2 = c 2) := by
  have hR0 := hR
  obtain ⟨hD, h10, h14, hr, hk⟩ := hR0
  have hD0 := hD
  unfold D1 at hD0
  have lx : ∀ (m : Nat) (r : Int), Lx (knT h p m r ++ l) := by
    intro m
    induction m with
    | zero => intro r; exact hL
    | succ m ih =>
      intro r
      rw [knT]
      by_cases q : h (37 + 4 * p + r) = 0
      · rw [if_pos q, List.nil_append]; exact ih (r + 1)
      · rw [if_neg q]
        simp only [List.append_assoc]
        exact Kw_Lx kw_15
  intro m
  induction m with
  | zero =>
    intro n w r u M c hS hw p2 r0 rm w0 w8 hn
    exact Gr_0 w0 ⟨c, u, hS, hw, rfl⟩
  | succ m ih =>
    intro n w r u M c hS hw p2 r0 rm w0 w8 hn
    have rr := hr r r0 (by omega)
    by_cases q : h (37 + 4 * p + r) = 0
    · have hS2 : Rs T E M (knT h p m (r + 1) ++ l) c t u := by
        rw [knT, if_pos q, List.nil_append] at hS
        exact hS
      exact Gr_u (ih n w (r + 1) u M c hS2 hw p2 (by omega) (by omega) w0 (by omega) (by omega)) (by omega)
    · have hA : At T E M (sw 15 ++ (nam 112 p ++ (nam 108 (h (13 + r)) ++ (nam 108 (h (9 + r)) ++ (sw 6 ++ (knT h p m (r + 1) ++ l)))))) := by
        have := hS.1
        rw [knT, if_neg q] at this
        simp only [List.append_assoc] at this
        exact this
      have w0' := hw.1
      have g1 := Gr_1 (n := n) (w := w) (c' := bu c (130 + 12 * p + btB c (h (13 + r)) (h (9 + r))) (c 7)) (l := knT h p m (r + 1) ++ l) (t := t) (u := 1) kw_15 hA w0 (by omega) (by omega) (fun k hk => pt_knows hA hS.2.1 hS.2.2 ⟨p0, p2⟩ (by omega) (bt_yes hR r0 (by omega) hw) (by omega) (lx m (r + 1)))
      have hb := bt_yes hR r0 (by omega) hw
      rw [show m + 1 = 1 + m from Nat.add_comm _ _]
      refine Gr_t g1 (fun M1 n1 w1 h1 a1 b1 c1 => ?_)
      have o2 : bu c (130 + 12 * p + btB c (h (13 + r)) (h (9 + r))) (c 7) 2 = c 2 := bu_o (by omega)
      have i := ih n1 w1 (r + 1) 1 M1 _ h1 (Rw_o (by omega) (fun z z1 z2 => bu_o (by omega)) hw) (by rw [o2]; exact p2) (by omega) (by omega) c1 (by omega) (by omega)
      exact Gr_w i (fun M' ⟨c', u', q1, q2, q3⟩ => ⟨c', u', q1, q2, q3.trans o2⟩)
theorem rd_people {T : Int → Int} {E : Int} {h : Int → Int} {t : Int} (hP : PD h 4) : ∀ (m n : Nat) (w u : Int) (M : KM) (c : Int → Int), Rs T E M (ppT h m (c 2) ++ []) c t u → Rw h c (h 1) → 0 ≤ c 2 → c 2 + m = h 2 → 0 ≤ w → w + 5 * m ≤ 800 → 5 * m + 1200 ≤ n → Gr M n w (5 * m) (fun M' => ∃ c' u', Rs T E M' [] c' t u' ∧ Rw h c' (h 1) ∧ c' 2 = h 2) := by
  obtain ⟨hR, hp⟩ := hP
  have hR0 := hR
  obtain ⟨hD, h10, h14, hr, hk⟩ := hR0
  have hD0 := hD
  unfold D1 at hD0
  have lx : ∀ (m : Nat) (p : Int), Lx (ppT h m p ++ []) := by
    intro m p
    cases m with
    | zero => exact ⟨_, _, _, _, _, nx_end⟩
    | succ m =>
      rw [ppT]
      simp only [List.append_assoc]
      exact Kw_Lx kw_p
  have lk : ∀ (p : Int) (l : List Int), Lx l → ∀ (m : Nat) (r : Int), Lx (knT h p m r ++ l) := by
    intro p l hl m
    induction m with
    | zero => intro r; exact hl
    | succ m ih =>
      intro r
      rw [knT]
      by_cases q : h (37 + 4 * p + r) = 0
      · rw [if_pos q, List.nil_append]; exact ih (r + 1)
      · rw [if_neg q]
        simp only [List.append_assoc]
        exact Kw_Lx kw_15
  intro m
  induction m with
  | zero =>
    intro n w u M c hS hw c20 c2m w0 w8 hn
    exact Gr_0 w0 ⟨c, u, hS, hw, by omega⟩
  | succ m ih =>
    intro n w u M c hS hw c20 c2m w0 w8 hn
    obtain ⟨p1, p2, p3, p4, p5, p6, p7, p8⟩ := hp (c 2) c20 (by omega)
    have hA : At T E M ((if h (33 + c 2) = 1 then sw 11 else sw 12) ++ (nam 112 (c 2) ++ (sw 13 ++ (nam 108 (h (25 + c 2)) ++ ((if h (29 + c 2) = 1 then sw 14 else sw 6) ++ (knT h (c 2) (h 1).toNat 0 ++ (ppT h m (c 2 + 1) ++ []))))))) := by
      have := hS.1
      rw [ppT] at this
      simp only [List.append_assoc] at this
      exact this
    have w0' := hw.1
    have g1 := Gr_1 (n := n) (w := w) (c' := peC c (h (25 + c 2)) (h (29 + c 2)) (h (33 + c 2))) (l := knT h (c 2) (h 1).toNat 0 ++ (ppT h m (c 2 + 1) ++ [])) (t := t) (u := u) kw_p hA w0 (by omega) (by omega) (fun k hk => pt_person hA hS.2.1 hS.2.2 (by omega) (by omega) p7 (by omega) (lk _ _ (lx _ _) _ _))
    obtain ⟨o, s2, -⟩ := peC_v (c := c) (x := h (25 + c 2)) (g := h (29 + c 2)) (b := h (33 + c 2)) c20 (by omega)
    rw [show 5 * (m + 1) = 1 + (4 + 5 * m) by omega]
    refine Gr_t g1 (fun M1 n1 w1 h1 a1 b1 c1 => ?_)
    have k := rd_knows (lx m (c 2 + 1)) hR c20 (h 1).toNat n1 w1 0 u M1 _ h1 (Rw_o (by omega) (fun z z1 z2 => o z z2 (by omega) (by omega) (by omega)) hw) (by rw [s2]; omega) (by omega) (by omega) c1 (by omega) (by omega)
    refine Gr_t (Gr_u k (show (h 1).toNat ≤ 4 by omega)) (fun M2 n2 w2 ⟨c2', u2, q1, q2, q3⟩ a2 b2 d2 => ?_)
    rw [s2] at q3
    rw [← q3] at q1
    exact ih n2 w2 u2 M2 c2' q1 q2 (by omega) (by omega) d2 (by omega) (by omega)
