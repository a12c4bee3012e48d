/-! ===== signs of the text ===== -/
def Rem (T : Int → Int) (E : Int) : Int → List Int → Prop
  | p, [] => p = E
  | p, c :: l => T p = c ∧ Rem T E (p + 1) l
theorem Rem_l {T : Int → Int} {E : Int} : ∀ (l : List Int) (p : Int), Rem T E p l → p + l.length = E := by
  intro l
  induction l with
  | nil => intro p h; rw [show p = E from h]; exact Int.add_zero E
  | cons c l ih =>
    intro p h
    have := ih (p + 1) h.2
    rw [List.length_cons]
    omega
/-- the class's reader, on a text -/
def RC (T : Int → Int) (E : Int) (M : KM) : Prop := M.2.2 5 1 = 2 ∧ M.1 5 2 = zI E ∧ (∀ z, 0 ≤ z → z < 900 → M.1 2 z.toNat = zI (T z) ∧ -128 ≤ T z ∧ T z < 128) ∧ (∀ k : Nat, k < 26 → M.2.1 6 k = kwd k) ∧ 0 ≤ E ∧ E ≤ 900
theorem RC_F {T : Int → Int} {E : Int} {M M' : KM} (f : FC 5 M M') (h : RC T E M) : RC T E M' := by
  obtain ⟨h1, h2, h3, h4, h5⟩ := h
  refine ⟨by rw [f.2.2]; exact h1, by rw [f.1 _ _ (by omega)]; exact h2, fun z u v => by rw [f.1 _ _ (by omega)]; exact h3 z u v, fun k hk => by rw [f.2.1 _ _ (by omega)]; exact h4 k hk, h5⟩
/-- the sign that stands next, and the text behind it -/
def TK (T : Int → Int) (E : Int) (M : KM) (l : List Int) (k j v nm : Int) : Prop := RC T E M ∧ M.1 5 6 = zI k ∧ M.1 5 7 = zI j ∧ M.1 5 8 = zI v ∧ M.2.1 5 9 = lI nm ∧ ∃ p, M.1 5 3 = zI p ∧ 0 ≤ p ∧ Rem T E p l
def Ktk (l l' : List Int) (k j v nm : Int) : Prop := ∀ T E M n s, RC T E M → 1000 < n → M.1 5 3 = zI s → M.1 5 10 = zI s → M.1 5 7 = zI (-1) → M.1 5 8 = zI 0 → M.2.1 5 9 = lI 0 → 0 ≤ s → Rem T E s l → ∃ M', kA n 5 M = some M' ∧ FC 5 M M' ∧ TK T E M' l' k j v nm
def Nx (l l' : List Int) (k j v nm : Int) : Prop := ∀ T E M n, RC T E M → 1000 < n → (∃ p, M.1 5 3 = zI p ∧ 0 ≤ p ∧ Rem T E p l) → ∃ M', f_X9_advance n 5 M = some M' ∧ FC 5 M M' ∧ TK T E M' l' k j v nm
def hd0 (l : List Int) : Prop := ∀ c m, l = c :: m → ¬ c = 32 ∧ ¬ c = 10
theorem sk0 {T : Int → Int} {E p : Int} {l : List Int} (h : Rem T E p l) (h0 : hd0 l) (k : Nat) : skB T E k p = p := by
  cases k with
  | zero => rfl
  | succ k =>
    refine if_neg (fun z => ?_)
    cases l with
    | nil => have : p = E := h; omega
    | cons c m => have := h0 c m rfl; have := h.1; omega
theorem cRd_FC {M : KM} {s : Int} : FC 5 M (cRd M 5 s) := ⟨fun c i h => cRd_o (by omega), fun c i h => cRd_j h, rfl⟩
theorem Nx_at {l l' : List Int} {k j v nm : Int} {T : Int → Int} {E : Int} {M : KM} {n : Nat} {p s : Int} (hX : Ktk l l' k j v nm) (hR : RC T E M) (hn : 1000 < n) (h3 : M.1 5 3 = zI p) (p0 : 0 ≤ p) (pE : p ≤ E) (hs : skB T E 900 p = s) (s0 : 0 ≤ s) (hl : Rem T E s l) : ∃ M', f_X9_advance n 5 M = some M' ∧ FC 5 M M' ∧ TK T E M' l' k j v nm := by
  have hR0 := hR
  obtain ⟨r1, r2, r3, r4, r5, r6⟩ := hR
  have e := c_adv0 (T := T) (E := E) (q := p) (a := 5) (M := M) (n := n) (Or.inl rfl) r5 r6 r1 r2 r3 h3 p0 pE hn
  rw [hs] at e
  obtain ⟨v3, v10, v7, v8, v11, v9⟩ := cRd_v (M := M) (a := 5) (s := s)
  obtain ⟨M', a1, a2, a3⟩ := hX T E (cRd M 5 s) n s (RC_F cRd_FC hR0) hn v3 v10 v7 v8 v9 s0 hl
  exact ⟨M', e.trans a1, FC_t cRd_FC a2, a3⟩
theorem Nx_0 {l l' : List Int} {k j v nm : Int} (h0 : hd0 l) (hX : Ktk l l' k j v nm) : Nx l l' k j v nm := by
  intro T E M n hR hn ⟨p, p1, p2, p3⟩
  have := Rem_l l p p3
  exact Nx_at hX hR hn p1 p2 (by omega) (sk0 p3 h0 900) p2 p3
theorem Nx_1 {l l' : List Int} {k j v nm : Int} (h0 : hd0 l) (hX : Ktk l l' k j v nm) : Nx (32 :: l) l' k j v nm := by
  intro T E M n hR hn ⟨p, p1, p2, p3⟩
  have := Rem_l (32 :: l) p p3
  rw [List.length_cons] at this
  refine Nx_at hX hR hn p1 p2 (by omega) (s := p + 1) ?_ (by omega) p3.2
  show (if p < E ∧ (T p = 32 ∨ T p = 10) then skB T E 899 (p + 1) else p) = p + 1
  rw [if_pos ⟨by omega, Or.inl p3.1⟩]
  exact sk0 p3.2 h0 899
theorem Ktk_semi {l : List Int} : Ktk (59 :: l) l 3 (-1) 59 0 := by
  intro T E M n s hR hn h3 h10 h7 h8 h9 s0 hl
  have ln := Rem_l _ _ hl
  rw [List.length_cons] at ln
  have hR0 := hR
  obtain ⟨r1, r2, r3, r4, r5, r6⟩ := hR
  have t := hl.1
  obtain ⟨-, -, a⟩ := kA_at (T := T) (n := n) r5 r6 s0 r1 r2 h3 (r3 s s0 (by omega)) (by omega)
  have e := a (by omega) (by omega)
  rw [t, if_pos (Or.inl rfl)] at e
  have f : FC 5 M (uI (uI (uI M 5 8 (zI 59)) 5 3 (zI (s + 1))) 5 6 (zI 3)) := ⟨fun c i h => by rw [uI_o (by omega), uI_o (by omega), uI_o (by omega)], fun c i h => rfl, rfl⟩
  refine ⟨_, e, f, RC_F f hR0, uI_s, ?_, ?_, h9, s + 1, ?_, by omega, hl.2⟩
  · rw [uI_o (by omega), uI_o (by omega), uI_o (by omega)]; exact h7
  · rw [uI_o (by omega), uI_o (by omega), uI_s]
  · rw [uI_o (by omega), uI_s]
theorem Ktk_end : Ktk [] [] 0 (-1) 0 0 := by
  intro T E M n s hR hn h3 h10 h7 h8 h9 s0 hl
  have hR0 := hR
  obtain ⟨r1, r2, r3, r4, r5, r6⟩ := hR
  have hs : s = E := hl
  have e := kA_end (n := n) r5 r6 r2 h3 (by omega) (by omega)
  have f : FC 5 M (uI M 5 6 (zI 0)) := ⟨fun c i h => uI_o (by omega), fun c i h => rfl, rfl⟩
  refine ⟨_, e, f, RC_F f hR0, uI_s, ?_, ?_, h9, s, ?_, s0, hl⟩
  · rw [uI_o (by omega)]; exact h7
  · rw [uI_o (by omega)]; exact h8
  · rw [uI_o (by omega)]; exact h3
/-! words and numbers -/
def cdW : List Int → Int → Int
  | [], v => v
  | c :: w, v => cdW w (v * 32 + c - 96)
def nl (l : List Int) : Prop := ∀ c m, l = c :: m → ¬ (97 ≤ c ∧ c ≤ 122)
def nd (l : List Int) : Prop := ∀ c m, l = c :: m → ¬ (48 ≤ c ∧ c ≤ 57)
theorem wo_w {T : Int → Int} {E s : Int} {l : List Int} (hl : nl l) : ∀ (w : List Int) (p v : Int) (k : Nat), (∀ c ∈ w, 97 ≤ c ∧ c ≤ 122) → Rem T E p (w ++ l) → p - s + w.length ≤ 8 → w.length < k → woB T E s k p v = (p + w.length, cdW w v) ∧ Rem T E (p + w.length) l := by
  intro w
  induction w with
  | nil =>
    intro p v k _ hr _ hk
    obtain ⟨k, rfl⟩ : ∃ m, k = m + 1 := ⟨k - 1, by omega⟩
    have e : p + (([] : List Int).length : Int) = p := Int.add_zero p
    rw [e]
    refine ⟨if_neg fun z => ?_, hr⟩
    cases l with
    | nil => have : p = E := hr; omega
    | cons c m => have := hl c m rfl; have := hr.1; omega
  | cons c w ih =>
    intro p v k hc hr h8 hk
    obtain ⟨k, rfl⟩ : ∃ m, k = m + 1 := ⟨k - 1, by omega⟩
    rw [List.length_cons] at h8 hk
    have hcc := hc c (List.mem_cons_self)
    have hE := Rem_l _ _ hr
    rw [List.cons_append, List.length_cons] at hE
    have ht := hr.1
    obtain ⟨i1, i2⟩ := ih (p + 1) (v * 32 + c - 96) k (fun d hd => hc d (List.mem_cons_of_mem _ hd)) hr.2 (by omega) (by omega)
    have e : p + ((c :: w).length : Int) = p + 1 + w.length := by rw [List.length_cons]; omega
    rw [e]
    refine ⟨?_, i2⟩
    show (if p < E ∧ 97 ≤ T p ∧ T p ≤ 122 then woB T E s k (p + 1) (if 8 ≤ p - s then v else v * 32 + T p - 96) else (p, v)) = _
    rw [if_pos (by omega), if_neg (by omega), ht]
    exact i1
theorem Ktk_word {w l : List Int} {i : Nat} (hw : ∀ c ∈ w, 97 ≤ c ∧ c ≤ 122) (w1 : 1 ≤ w.length) (w8 : w.length ≤ 8) (hl : nl l) (hi : i < 26) (hk : lI (cdW w 0) = kwd i) : Ktk (w ++ l) l 1 i 0 0 := by
  intro T E M n s hR hn h3 h10 h7 h8 h9 s0 hr
  have hR0 := hR
  obtain ⟨r1, r2, r3, r4, r5, r6⟩ := hR
  have hE := Rem_l _ _ hr
  rw [List.length_append] at hE
  obtain ⟨c, w, rfl⟩ : ∃ c m, w = c :: m := by
    cases w with
    | nil => exact absurd w1 (by decide)
    | cons c m => exact ⟨c, m, rfl⟩
  have hcc := hw c (List.mem_cons_self)
  have ht : T s = c := hr.1
  obtain ⟨-, e2⟩ := wo_w (T := T) (E := E) (s := s) hl (c :: w) s 0 900 hw hr (by omega) (by omega)
  have e1 := (wo_w (T := T) (E := E) (s := s) hl (c :: w) s 0 900 hw hr (by omega) (by omega)).1
  obtain ⟨a, -, -⟩ := kA_at (T := T) (n := n) r5 r6 s0 r1 r2 h3 (r3 s s0 (by omega)) (by omega)
  obtain ⟨M', j, g1, g2, g3, g4, g5, g6, g7, g8, g9, g10, g11, g12, g13⟩ := c_word (T := T) (E := E) (s := s) (a := 5) (M := M) (n := n) (Or.inl rfl) r5 r6 s0 (by omega) (by omega) (by omega) r1 r2 r3 r4 h10 h3 h7 h9 hn
  rw [e1] at g2 g7 g8 g9 g10
  dsimp only at g2 g7 g8 g9 g10
  have hj : j = i := (g10 (by omega) i hi).mp hk
  have f : FC 5 M M' := ⟨fun c i h => g11 c i (by omega), fun c i h => g12 c i h, g13⟩
  refine ⟨M', (a (by omega)).trans g1, f, RC_F f hR0, g3, by rw [g4, hj], ?_, g7.mpr (by omega), _, g2, by omega, e2⟩
  rw [g11 _ _ (by omega)]; exact h8
theorem Ktk_name {w l : List Int} (hw : ∀ c ∈ w, 97 ≤ c ∧ c ≤ 122) (w1 : 1 ≤ w.length) (w8 : w.length ≤ 8) (hl : nl l) (hk : ∀ i : Nat, i < 26 → ¬ lI (cdW w 0) = kwd i) : Ktk (w ++ l) l 1 (-1) 0 (cdW w 0) := by
  intro T E M n s hR hn h3 h10 h7 h8 h9 s0 hr
  have hR0 := hR
  obtain ⟨r1, r2, r3, r4, r5, r6⟩ := hR
  have hE := Rem_l _ _ hr
  rw [List.length_append] at hE
  obtain ⟨c, w, rfl⟩ : ∃ c m, w = c :: m := by
    cases w with
    | nil => exact absurd w1 (by decide)
    | cons c m => exact ⟨c, m, rfl⟩
  have hcc := hw c (List.mem_cons_self)
  have ht : T s = c := hr.1
  obtain ⟨-, e2⟩ := wo_w (T := T) (E := E) (s := s) hl (c :: w) s 0 900 hw hr (by omega) (by omega)
  have e1 := (wo_w (T := T) (E := E) (s := s) hl (c :: w) s 0 900 hw hr (by omega) (by omega)).1
  obtain ⟨a, -, -⟩ := kA_at (T := T) (n := n) r5 r6 s0 r1 r2 h3 (r3 s s0 (by omega)) (by omega)
  obtain ⟨M', j, g1, g2, g3, g4, g5, g6, g7, g8, g9, g10, g11, g12, g13⟩ := c_word (T := T) (E := E) (s := s) (a := 5) (M := M) (n := n) (Or.inl rfl) r5 r6 s0 (by omega) (by omega) (by omega) r1 r2 r3 r4 h10 h3 h7 h9 hn
  rw [e1] at g2 g7 g8 g9 g10
  dsimp only at g2 g7 g8 g9 g10
  have hj : j = -1 := Classical.byContradiction fun z => hk j.toNat (by omega) ((g10 (by omega) j.toNat (by omega)).mpr (by omega))
  have f : FC 5 M M' := ⟨fun c i h => g11 c i (by omega), fun c i h => g12 c i h, g13⟩
  refine ⟨M', (a (by omega)).trans g1, f, RC_F f hR0, g3, by rw [g4, hj], ?_, g8 (fun z => (g7.mp z) ⟨by omega, hj⟩), _, g2, by omega, e2⟩
  rw [g11 _ _ (by omega)]; exact h8
def vlD : List Int → Int → Int
  | [], v => v
  | c :: w, v => vlD w (v * 10 + c - 48)
theorem nu_w {T : Int → Int} {E s : Int} {l : List Int} (hl : nd l) : ∀ (w : List Int) (p v : Int) (k : Nat), (∀ c ∈ w, 48 ≤ c ∧ c ≤ 57) → Rem T E p (w ++ l) → p - s + w.length ≤ 4 → w.length < k → nuB T E s k p v = (p + w.length, vlD w v) ∧ Rem T E (p + w.length) l := by
  intro w
  induction w with
  | nil =>
    intro p v k _ hr _ hk
    obtain ⟨k, rfl⟩ : ∃ m, k = m + 1 := ⟨k - 1, by omega⟩
    have e : p + (([] : List Int).length : Int) = p := Int.add_zero p
    rw [e]
    refine ⟨if_neg fun z => ?_, hr⟩
    cases l with
    | nil => have : p = E := hr; omega
    | cons c m => have := hl c m rfl; have := hr.1; omega
  | cons c w ih =>
    intro p v k hc hr h8 hk
    obtain ⟨k, rfl⟩ : ∃ m, k = m + 1 := ⟨k - 1, by omega⟩
    rw [List.length_cons] at h8 hk
    have hcc := hc c (List.mem_cons_self)
    have hE := Rem_l _ _ hr
    rw [List.cons_append, List.length_cons] at hE
    have ht := hr.1
    obtain ⟨i1, i2⟩ := ih (p + 1) (v * 10 + c - 48) k (fun d hd => hc d (List.mem_cons_of_mem _ hd)) hr.2 (by omega) (by omega)
    have e : p + ((c :: w).length : Int) = p + 1 + w.length := by rw [List.length_cons]; omega
    rw [e]
    refine ⟨?_, i2⟩
    show (if p < E ∧ 48 ≤ T p ∧ T p ≤ 57 then nuB T E s k (p + 1) (if 4 ≤ p - s then v else v * 10 + T p - 48) else (p, v)) = _
    rw [if_pos (by omega), if_neg (by omega), ht]
    exact i1
theorem Ktk_num {w l : List Int} (hw : ∀ c ∈ w, 48 ≤ c ∧ c ≤ 57) (w1 : 1 ≤ w.length) (w4 : w.length ≤ 4) (hl : nd l) : Ktk (w ++ l) l 2 (-1) (vlD w 0) 0 := by
  intro T E M n s hR hn h3 h10 h7 h8 h9 s0 hr
  have hR0 := hR
  obtain ⟨r1, r2, r3, r4, r5, r6⟩ := hR
  have hE := Rem_l _ _ hr
  rw [List.length_append] at hE
  obtain ⟨c, w, rfl⟩ : ∃ c m, w = c :: m := by
    cases w with
    | nil => exact absurd w1 (by decide)
    | cons c m => exact ⟨c, m, rfl⟩
  have hcc := hw c (List.mem_cons_self)
  have ht : T s = c := hr.1
  obtain ⟨e1, e2⟩ := nu_w (T := T) (E := E) (s := s) hl (c :: w) s 0 900 hw hr (by omega) (by omega)
  obtain ⟨-, a, -⟩ := kA_at (T := T) (n := n) r5 r6 s0 r1 r2 h3 (r3 s s0 (by omega)) (by omega)
  have g := c_num (T := T) (E := E) (s := s) (a := 5) (M := M) (n := n) (Or.inl rfl) r5 r6 s0 (by omega) (by omega) (by omega) r1 r2 r3 h10 h3 h8 hn
  rw [e1] at g
  dsimp only at g
  rw [if_pos (by omega)] at g
  have q0 : 0 ≤ s + ((c :: w).length : Int) := by omega
  generalize vlD (c :: w) 0 = V at *
  generalize s + ((c :: w).length : Int) = q at *
  have f : FC 5 M (uI (uI (uI M 5 8 (zI V)) 5 3 (zI q)) 5 6 (zI 2)) := ⟨fun c i h => by rw [uI_o (by omega), uI_o (by omega), uI_o (by omega)], fun c i h => rfl, rfl⟩
  have hq := Rem_l _ _ e2
  refine ⟨_, (a (by omega)).trans g, f, RC_F f hR0, uI_s, ?_, ?_, h9, q, ?_, q0, e2⟩
  · rw [uI_o (by omega), uI_o (by omega), uI_o (by omega)]; exact h7
  · rw [uI_o (by omega), uI_o (by omega), uI_s]
  · rw [uI_o (by omega), uI_s]
