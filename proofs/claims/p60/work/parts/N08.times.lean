/-! ===== all times: what holds of them ===== -/
/-- road r leads from f to t -/
def Ed (b : Int → Int) (r f t : Int) : Prop := 0 ≤ r ∧ r < b 1 ∧ ((f = b (10 + r) ∧ t = b (22 + r)) ∨ (f = b (22 + r) ∧ t = b (10 + r)))
theorem Ed_r {b : Int → Int} {r f t : Int} (hb : WB b) (h : Ed b r f t) : 0 ≤ f ∧ f < b 0 ∧ 0 ≤ t ∧ t < b 0 ∧ ¬ f = t ∧ b 0 ≤ 8 ∧ r < 12 := by
  have hh := hb.1
  unfold WH at hh
  have hR := hb.2.1 r h.1 h.2.1
  unfold WR at hR
  obtain ⟨h1, h2, h3⟩ := h
  omega
theorem TT_ind {b : Int → Int} {p q f s : Int} {P : (Int → Int) → Prop} (hb : WB b) (s1 : 0 ≤ s) (s2 : s ≤ 110000) (h0 : P (T0 f s)) (hs : ∀ r f t U, Ed b r f t → okB2 900000 U → P U → P (rlx b p q r f t U)) : P (TT b p q f s) := by
  have hh := hb.1
  unfold WH at hh
  have hi : 0 ≤ b 1 ∧ b 1 ≤ 12 ∧ b 0 ≤ 8 := by omega
  clear hh
  have step : ∀ (U : Int → Int) (B : Int), 0 ≤ B → B + 80000 ≤ 900000 → okB2 B U → P U → P (pass b p q U) := by
    intro U B B1 B2 hU hP
    have g := fI_ix (f := bth b p q) (V := fun i U => okB2 (B + 5760 * i) U ∧ P U) (R := b 1) (fun r U u v hV => ?_) (b 1).toNat 0 U (by omega) (by omega) ⟨by rw [Int.mul_zero, Int.add_zero]; exact hU, hP⟩
    · exact g.2
    · have e1 := bth_ok (p := p) (q := q) hb (show B + 5760 * r + 2880 ≤ 900000 by omega) hV.1 u v
      refine ⟨by rw [show B + 5760 * (r + 1) = B + 5760 * r + 5760 by omega]; exact e1, ?_⟩
      have hw : okB2 900000 U := fun j j1 j2 => by have := hV.1 j j1 j2; omega
      have h1 := hs r (b (10 + r)) (b (22 + r)) U ⟨u, v, Or.inl ⟨rfl, rfl⟩⟩ hw hV.2
      have hR := bRoad hb u v
      have o1 := rlx_ok (p := p) (q := q) (t := b (22 + r)) hb (show B + 5760 * r ≤ 900000 by omega) hV.1 u v hR.1.1 hR.1.2.1
      exact hs r _ _ _ ⟨u, v, Or.inr ⟨rfl, rfl⟩⟩ (fun j j1 j2 => by have := o1 j j1 j2; omega) h1
  have it : ∀ (k : Nat) (U : Int → Int) (B : Int), 0 ≤ B → B + 70000 * k + 80000 ≤ 900000 → okB2 B U → P U → P (itP b p q k U) := by
    intro k
    induction k with
    | zero => intro U B _ _ _ hP; exact hP
    | succ k ih =>
      intro U B B1 B2 hU hP
      exact ih (pass b p q U) (B + 70000) (by omega) (by omega) (pass_ok hb (by omega) hU) (step U B B1 (by omega) hU hP)
  exact it (b 0 - 1).toNat (T0 f s) 110000 (by omega) (by omega) (T0_ok s1 (by omega)) h0
/-- at f at s, elsewhere later -/
def Slf (f s : Int) (U : Int → Int) : Prop := U f = s ∧ ∀ j, 0 ≤ j → j < 8 → ¬ j = f → s < U j
theorem Slf_st {b U : Int → Int} {p q r f s f' t : Int} (hb : WB b) (h : Ed b r f' t) (hU : okB2 900000 U) (hS : Slf f s U) : Slf f s (rlx b p q r f' t U) ∧ (a2I b p q r (U f') < U t → ¬ t = f) := by
  have hr := Ed_r hb h
  have uf := hU f' hr.1 (by omega)
  have ra := a2I_r (p := p) (q := q) (r := r) (s := U f') hb h.1 h.2.1 uf.1 (by omega)
  have hs : s ≤ U f' := by
    by_cases e : f' = f
    · rw [e, hS.1]; omega
    · have := hS.2 f' hr.1 (by omega) e; omega
  have h2 : s < a2I b p q r (U f') ∨ a2I b p q r (U f') = 1000000000 := by omega
  unfold rlx
  by_cases w : a2I b p q r (U f') < U t
  · have ht : ¬ t = f := fun z => by
      rw [z, hS.1] at w; omega
    rw [if_pos w]
    refine ⟨⟨by rw [bu_o (fun z => ht z.symm)]; exact hS.1, fun j j1 j2 j3 => ?_⟩, fun _ => ht⟩
    by_cases e : j = t
    · rw [e, bu_s]
      have ut := hU t hr.2.2.1 (by omega)
      omega
    · rw [bu_o e]; exact hS.2 j j1 j2 j3
  · rw [if_neg w]
    exact ⟨hS, fun z => absurd z w⟩
theorem T0_Slf {f s : Int} (h : s < 1000000000) : Slf f s (T0 f s) := ⟨if_pos rfl, fun j _ _ e => by
  unfold T0; rw [if_neg e]; exact h⟩
theorem TT_Slf {b : Int → Int} {p q f s : Int} (hb : WB b) (s1 : 0 ≤ s) (s2 : s ≤ 110000) : Slf f s (TT b p q f s) :=
  TT_ind (P := Slf f s) hb s1 s2 (T0_Slf (by omega)) (fun r f' t U h hU hP => (Slf_st hb h hU hP).1)
theorem TT_ok9 {b : Int → Int} {p q f s : Int} (hb : WB b) (s1 : 0 ≤ s) (s2 : s ≤ 110000) : okB2 900000 (TT b p q f s) := fun j j1 j2 => by
  have := TT_ok (p := p) (q := q) (f := f) hb s1 (Or.inl s2) j j1 j2
  omega
theorem TT_min {b V : Int → Int} {p q f s : Int} (hb : WB b) (s1 : 0 ≤ s) (s2 : s ≤ 110000) (hV : okB2 900000 V) (hf : V f ≤ s) (hc : ∀ r f t, Ed b r f t → V t ≤ a2I b p q r (V f)) : ∀ j, 0 ≤ j → j < 8 → V j ≤ TT b p q f s j := by
  refine TT_ind (P := fun U => ∀ j, 0 ≤ j → j < 8 → V j ≤ U j) hb s1 s2 (fun j j1 j2 => ?_) (fun r f' t U h hU hP j j1 j2 => ?_)
  · have := hV j j1 j2
    unfold T0
    by_cases e : j = f
    · rw [if_pos e, e]; exact hf
    · rw [if_neg e]; omega
  · have hr := Ed_r hb h
    have vf := hV f' hr.1 (by omega)
    have uf := hU f' hr.1 (by omega)
    have m := a2I_mono (p := p) (q := q) (r := r) hb h.1 h.2.1 vf.1 (hP f' hr.1 (by omega)) (by omega) (by omega)
    have c := hc r f' t h
    have pj := hP j j1 j2
    unfold rlx
    by_cases w : a2I b p q r (U f') < U t
    · rw [if_pos w]
      by_cases e : j = t
      · rw [e, bu_s]; omega
      · rw [bu_o e]; exact pj
    · rw [if_neg w]; exact pj
theorem TT_SF {b : Int → Int} {p q f s r f' t : Int} (hb : WB b) (f1 : 0 ≤ f) (f2 : f < b 0) (s1 : 0 ≤ s) (s2 : s ≤ 110000) (h : Ed b r f' t) : TT b p q f s t ≤ a2I b p q r (TT b p q f s f') := by
  have e := T0_SF (p := p) (q := q) hb f1 f2 s1 s2 r h.1 h.2.1
  rcases h.2.2 with ⟨e1, e2⟩ | ⟨e1, e2⟩
  · rw [e1, e2]; exact e.1
  · rw [e1, e2]; exact e.2
theorem a2_1 {b : Int → Int} {p r s : Int} : a2I b p (-1) r s = aI b p r s := if_pos rfl
/-! by the first road -/
theorem TT_le1 {b : Int → Int} {p f s r i : Int} (hb : WB b) (s1 : 0 ≤ s) (s2 : s ≤ 100000) (h : Ed b r f i) (ha : aI b p r s < 1000000000) : ∀ j, 0 ≤ j → j < 8 → TT b p (-1) f s j ≤ TT b p (-1) i (aI b p r s) j := by
  have hr := Ed_r hb h
  have ra := aI_r (p := p) (r := r) (s := s) hb h.1 h.2.1 s1 (by omega)
  refine TT_min hb (by omega) (by omega) (TT_ok9 hb s1 (by omega)) ?_ (fun r' f' t h' => TT_SF hb hr.1 hr.2.1 s1 (by omega) h')
  have e := TT_SF (p := p) (q := -1) (s := s) hb hr.1 hr.2.1 s1 (by omega) h
  rw [(TT_Slf (p := p) (q := -1) (f := f) hb s1 (by omega)).1, a2_1] at e
  exact e
def Fst (b : Int → Int) (p f s : Int) (U : Int → Int) : Prop := ∀ j, 0 ≤ j → j < 8 → ¬ j = f → U j < 1000000000 → ∃ r i, Ed b r f i ∧ aI b p r s < 1000000000 ∧ TT b p (-1) i (aI b p r s) j ≤ U j
theorem TT_fst {b : Int → Int} {p f s : Int} (hb : WB b) (s1 : 0 ≤ s) (s2 : s ≤ 100000) : Slf f s (TT b p (-1) f s) ∧ Fst b p f s (TT b p (-1) f s) := by
  refine TT_ind (P := fun U => Slf f s U ∧ Fst b p f s U) hb s1 (by omega) ⟨T0_Slf (by omega), fun j _ _ e w => ?_⟩ (fun r f' t U h hU hP => ?_)
  · unfold T0 at w; rw [if_neg e] at w; omega
  · obtain ⟨hS, hF⟩ := hP
    have st := Slf_st (p := p) (q := -1) hb h hU hS
    refine ⟨st.1, fun j j1 j2 j3 w => ?_⟩
    have hr := Ed_r hb h
    have uf := hU f' hr.1 (by omega)
    have ra := a2I_r (p := p) (q := -1) (r := r) (s := U f') hb h.1 h.2.1 uf.1 (by omega)
    unfold rlx at w ⊢
    by_cases k : a2I b p (-1) r (U f') < U t
    · rw [if_pos k] at w ⊢
      by_cases e : j = t
      · subst e
        rw [bu_s] at w ⊢
        by_cases ef : f' = f
        · subst ef
          rw [hS.1, a2_1] at w ⊢
          have ra2 := aI_r (p := p) (r := r) (s := s) hb h.1 h.2.1 s1 (by omega)
          refine ⟨r, j, h, w, ?_⟩
          rw [(TT_Slf (p := p) (q := -1) (f := j) (s := aI b p r s) hb (by omega) (by omega)).1]
          exact Int.le_refl _
        · obtain ⟨r2, i, h2, a2, l2⟩ := hF f' hr.1 (by omega) ef (by omega)
          have hr2 := Ed_r hb h2
          have ra2 := aI_r (p := p) (r := r2) (s := s) hb h2.1 h2.2.1 s1 (by omega)
          refine ⟨r2, i, h2, a2, ?_⟩
          have sf := TT_SF (p := p) (q := -1) (f := i) (s := aI b p r2 s) hb hr2.2.2.1 hr2.2.2.2.1 (by omega) (by omega) h
          have to := TT_ok9 (p := p) (q := -1) (f := i) (s := aI b p r2 s) hb (by omega) (by omega) f' hr.1 (by omega)
          have m := a2I_mono (p := p) (q := -1) (r := r) hb h.1 h.2.1 to.1 l2 (by omega) (by omega)
          omega
      · rw [bu_o e] at w ⊢
        exact hF j j1 j2 j3 w
    · rw [if_neg k] at w ⊢
      exact hF j j1 j2 j3 w
/-- between two places one road at most -/
def UR (b : Int → Int) : Prop := ∀ r f t, Ed b r f t → btB b f t = r
theorem bt_Ed {b : Int → Int} {x y : Int} (h0 : 0 ≤ b 1) (h : 0 ≤ btB b x y) : Ed b (btB b x y) x y := by
  unfold btB at h ⊢
  by_cases e : x = y
  · rw [if_pos e] at h; omega
  · rw [if_neg e] at h ⊢
    unfold rdB at h ⊢
    rcases fst_r (P := fun r => decide ((b (10 + r) = x ∧ b (22 + r) = y) ∨ (b (10 + r) = y ∧ b (22 + r) = x))) (b 1).toNat 0 (by omega) with ⟨e1, -⟩ | ⟨e1, e2, e3, -⟩
    · rw [e1] at h; omega
    · refine ⟨by omega, by omega, ?_⟩
      have := of_decide_eq_true e3
      rcases this with ⟨a, c⟩ | ⟨a, c⟩
      · exact Or.inl ⟨a.symm, c.symm⟩
      · exact Or.inr ⟨c.symm, a.symm⟩
/-- the first place told leads to the goal in time -/
theorem fi_ok {b : Int → Int} {x y : Int} (hb : WB b) (hu : UR b) (h5 : b 5 ≤ 100000) (h1 : 0 ≤ x ∧ x < b 2) (y1 : 0 ≤ y ∧ y < b 0) (ny : ¬ y = b (58 + x)) (hT : TT b x (-1) (b (58 + x)) (b 5) y < 1000000000) : 0 ≤ fiB b x y ∧ fiB b x y < b 0 ∧ 0 ≤ btB b (b (58 + x)) (fiB b x y) ∧ aI b x (btB b (b (58 + x)) (fiB b x y)) (b 5) < 1000000000 ∧ TT b x (-1) (fiB b x y) (aI b x (btB b (b (58 + x)) (fiB b x y)) (b 5)) y = TT b x (-1) (b (58 + x)) (b 5) y := by
  have hh := hb.1
  unfold WH at hh
  have hi : 0 ≤ b 0 ∧ b 0 ≤ 8 ∧ 0 ≤ b 5 ∧ 0 ≤ b 1 := by omega
  clear hh
  obtain ⟨r, i, h, a, l⟩ := (TT_fst (p := x) (f := b (58 + x)) (s := b 5) hb hi.2.2.1 h5).2 y y1.1 (by omega) ny hT
  have hr := Ed_r hb h
  have l2 := TT_le1 (p := x) hb hi.2.2.1 h5 h a y y1.1 (by omega)
  have er := hu r _ _ h
  have hfs : fsP b x y i = true := by
    refine fsP_t (by rw [er]; exact h.1) (by rw [er]; exact a) (by rw [er]; omega)
  rcases fst_r (P := fsP b x y) (b 0).toNat 0 (by omega) with ⟨e1, e2⟩ | ⟨e1, e2, e3, -⟩
  · rw [e2 i (by omega) (by omega)] at hfs
    exact absurd hfs Bool.false_ne_true
  · unfold fiB
    have e4 := of_decide_eq_true e3
    exact ⟨by omega, by omega, e4.1, e4.2.1, e4.2.2⟩
/-! ===== lands in which one goes alike ===== -/
def Sm (b d : Int → Int) (p : Int) : Prop := d 0 = b 0 ∧ d 1 = b 1 ∧ d 3 = b 3 ∧ d 4 = b 4 ∧ ∀ r, 0 ≤ r → r < b 1 → d (10 + r) = b (10 + r) ∧ d (22 + r) = b (22 + r) ∧ d (34 + r) = b (34 + r) ∧ pcB d p r = pcB b p r
theorem aI_c {b d : Int → Int} {p r s : Int} (h : Sm b d p) (h1 : 0 ≤ r) (h2 : r < b 1) : aI d p r s = aI b p r s := by
  obtain ⟨-, -, e3, e4, e⟩ := h
  obtain ⟨-, -, e34, ep⟩ := e r h1 h2
  unfold aI
  rw [e3, e4, e34, ep]
theorem TT_c {b d : Int → Int} {p f s : Int} (h : Sm b d p) : TT d p (-1) f s = TT b p (-1) f s := by
  have h0 := h
  obtain ⟨e0, e1, e3, e4, e⟩ := h
  have eb : ∀ r, 0 ≤ r → r < b 1 → ∀ U, bth d p (-1) r U = bth b p (-1) r U := fun r h1 h2 U => by
    obtain ⟨r1, r2, -, -⟩ := e r h1 h2
    unfold bth rlx
    simp only [a2_1, r1, r2, aI_c h0 h1 h2]
  have ep : ∀ U, pass d p (-1) U = pass b p (-1) U := fun U => by
    unfold pass
    rw [e1]
    by_cases k : 0 ≤ b 1
    · exact fI_c _ _ _ (fun j v j1 j2 => eb j j1 (by omega) v)
    · rw [show (b 1).toNat = 0 by omega]; rfl
  have ei : ∀ (k : Nat) (U : Int → Int), itP d p (-1) k U = itP b p (-1) k U := by
    intro k
    induction k with
    | zero => intro U; rfl
    | succ k ih => intro U; show itP d p (-1) k (pass d p (-1) U) = itP b p (-1) k (pass b p (-1) U); rw [ep, ih]
  unfold TT
  rw [e0, ei]
/-! waiting in the glare -/
theorem TT_wait {b : Int → Int} {p f s : Int} (hb : WB b) (f1 : 0 ≤ f) (f2 : f < b 0) (s1 : 0 ≤ s) (s2 : s ≤ 100000) (h : ∀ r, 0 ≤ r → r < b 1 → aI b p r s = aI b p r (s + 1)) : ∀ j, 0 ≤ j → j < 8 → ¬ j = f → TT b p (-1) f (s + 1) j = TT b p (-1) f s j := by
  intro j j1 j2 j3
  have S0 := TT_Slf (p := p) (q := -1) (f := f) (s := s) hb s1 (by omega)
  have S1 := TT_Slf (p := p) (q := -1) (f := f) (s := s + 1) hb (by omega) (by omega)
  have o1 := TT_ok9 (p := p) (q := -1) (f := f) (s := s + 1) hb (by omega) (by omega)
  have l1 := TT_min (p := p) (q := -1) (f := f) (s := s + 1) (V := TT b p (-1) f s) hb (by omega) (by omega) (TT_ok9 hb s1 (by omega)) (by rw [S0.1]; omega) (fun r f' t h' => TT_SF hb f1 f2 s1 (by omega) h') j j1 j2
  have l2 := TT_min (p := p) (q := -1) (f := f) (s := s) (V := bu (TT b p (-1) f (s + 1)) f s) hb s1 (by omega) (fun i i1 i2 => ?_) (by rw [bu_s]; exact Int.le_refl _) (fun r f' t h' => ?_) j j1 j2
  · rw [bu_o j3] at l2
    omega
  · by_cases e : i = f
    · rw [e, bu_s]; omega
    · rw [bu_o e]; exact o1 i i1 i2
  · have hr := Ed_r hb h'
    have sf := TT_SF (p := p) (q := -1) (f := f) (s := s + 1) hb f1 f2 (by omega) (by omega) h'
    by_cases e : t = f
    · have nf : ¬ f' = f := fun z => hr.2.2.2.2.1 (z.trans e.symm)
      rw [e, bu_s, bu_o nf]
      have s3 := S1.2 f' hr.1 (by omega) nf
      have of := o1 f' hr.1 (by omega)
      have ra := a2I_r (p := p) (q := -1) (r := r) hb h'.1 h'.2.1 of.1 (by omega)
      omega
    · rw [bu_o e]
      by_cases ef : f' = f
      · rw [ef, bu_s, a2_1, h r h'.1 h'.2.1]
        rw [ef, S1.1, a2_1] at sf
        exact sf
      · rw [bu_o ef]; exact sf
theorem dn_wait {f t s k : Int} (h1 : 0 ≤ f) (h2 : f ≤ 23) (h3 : f < t) (h4 : t ≤ 24) (h5 : 0 ≤ s) (h6 : s ≤ 200000) (g : glH f t s) : dnI f t 1 (s + 1) k = dnI f t 1 s k := by
  have e := gB_step h1 h2 h3 h4 h5
  rw [if_pos g] at e
  by_cases w : f = 0 ∧ t = 24
  · obtain ⟨rfl, rfl⟩ := w
    rw [dnI_F (by omega), dnI_F (by omega)]
  · rw [dnI_1 (by omega) w, dnI_1 (by omega) w]
    unfold dnC
    rw [show s + 1 - gB f t (s + 1) = s - gB f t s by omega]
/-- the minute of arrival stays while one is on the way -/
theorem dn_next {f t pc s k : Int} (h1 : 0 ≤ f) (h2 : f ≤ 23) (h3 : f < t) (h4 : t ≤ 24) (h5 : 0 ≤ s) (h6 : s ≤ 200000) (hp : pc = 0 ∨ pc = 1 ∨ pc = 2) : dnI f t pc (s + 1) (k - mvI f t pc s 1) = dnI f t pc s k := by
  rcases hp with rfl | rfl | rfl
  · rw [mvI_0, dnI_0 (by omega), dnI_0 (by omega)]; omega
  · have e := gB_step h1 h2 h3 h4 h5
    rw [mvI_1, cl_step h1 h2 h3 h4 h5]
    by_cases g : glH f t s
    · rw [if_pos g, show k - (clB f t s + 0 - clB f t s) = k by omega]
      exact dn_wait h1 h2 h3 h4 h5 h6 g
    · rw [if_neg g] at e ⊢
      by_cases w : f = 0 ∧ t = 24
      · obtain ⟨rfl, rfl⟩ := w
        rw [dnI_F (by omega), dnI_F (by omega)]
      · rw [dnI_1 (by omega) w, dnI_1 (by omega) w]
        unfold dnC
        rw [show s + 1 - gB f t (s + 1) + (k - (clB f t s + 1 - clB f t s)) - 1 = s - gB f t s + k - 1 by omega]
  · rw [dnI_2, dnI_2]
/-! how late at most -/
theorem pass_b {b T : Int → Int} {p q B : Int} (hb : WB b) (hB : 0 ≤ B ∧ B + 80000 ≤ 900000) (hT : okB2 B T) : okB2 (B + 5760 * b 1) (pass b p q T) := by
  have hh := hb.1
  unfold WH at hh
  have hi : 0 ≤ b 1 ∧ b 1 ≤ 12 := by omega
  clear hh
  have g := fI_ix (f := bth b p q) (V := fun i U => okB2 (B + 5760 * i) U) (R := b 1) (fun r U u v hV => ?_) (b 1).toNat 0 T (by omega) (by omega) (by rw [Int.mul_zero, Int.add_zero]; exact hT)
  · rw [show (0 : Int) + ((b 1).toNat : Int) = b 1 by omega] at g
    exact g
  · have e1 := bth_ok (p := p) (q := q) hb (show B + 5760 * r + 2880 ≤ 900000 by omega) hV u v
    rw [show B + 5760 * (r + 1) = B + 5760 * r + 5760 by omega]
    exact e1
theorem itP_b {b : Int → Int} {p q : Int} (hb : WB b) (h4 : b 1 ≤ 4) : ∀ (k : Nat) (T : Int → Int) (B : Int), 0 ≤ B → B + 23040 * k + 80000 ≤ 900000 → okB2 B T → okB2 (B + 23040 * k) (itP b p q k T) := by
  have hh := hb.1
  unfold WH at hh
  intro k
  induction k with
  | zero => intro T B _ _ hT; rw [show B + 23040 * ((0 : Nat) : Int) = B by omega]; exact hT
  | succ k ih =>
    intro T B h1 h2 hT
    have e := pass_b (p := p) (q := q) hb (by omega) hT
    have e2 := ih (pass b p q T) (B + 23040) (by omega) (by omega) (fun j j1 j2 => by have := e j j1 j2; omega)
    rw [show B + 23040 * ((k + 1 : Nat) : Int) = B + 23040 + 23040 * k by omega]
    exact e2
theorem TT_b {b : Int → Int} {p q f s : Int} (hb : WB b) (h0 : b 0 ≤ 4) (h4 : b 1 ≤ 4) (s1 : 0 ≤ s) (s2 : s ≤ 100000) : okB2 (s + 69120) (TT b p q f s) := by
  have e := itP_b (p := p) (q := q) hb h4 (b 0 - 1).toNat (T0 f s) s s1 (by omega) (T0_ok s1 (by omega))
  intro j j1 j2
  have := e j j1 j2
  unfold TT
  omega
/-! by two no later than alone -/
theorem TT_two {b : Int → Int} {x y f s : Int} (hb : WB b) (f1 : 0 ≤ f) (f2 : f < b 0) (s1 : 0 ≤ s) (s2 : s ≤ 100000) (hy : ¬ y = -1) (j : Int) (j1 : 0 ≤ j) (j2 : j < 8) : TT b x y f s j ≤ TT b x (-1) f s j ∧ TT b x y f s j ≤ TT b y (-1) f s j := by
  have S0 := TT_Slf (p := x) (q := y) (f := f) (s := s) hb s1 (by omega)
  have l : ∀ r v, a2I b x y r v ≤ aI b x r v ∧ a2I b x y r v ≤ aI b y r v := fun r v => by
    unfold a2I
    rw [if_neg hy]
    by_cases w : aI b y r v < aI b x r v
    · rw [if_pos w]; omega
    · rw [if_neg w]; omega
  refine ⟨TT_min hb s1 (by omega) (TT_ok9 hb s1 (by omega)) (by rw [S0.1]; exact Int.le_refl _) (fun r f' t h => ?_) j j1 j2, TT_min hb s1 (by omega) (TT_ok9 hb s1 (by omega)) (by rw [S0.1]; exact Int.le_refl _) (fun r f' t h => ?_) j j1 j2⟩
  · have sf := TT_SF (p := x) (q := y) (f := f) (s := s) hb f1 f2 s1 (by omega) h
    have := (l r (TT b x y f s f')).1
    rw [a2_1]; omega
  · have sf := TT_SF (p := x) (q := y) (f := f) (s := s) hb f1 f2 s1 (by omega) h
    have := (l r (TT b x y f s f')).2
    rw [a2_1]; omega
