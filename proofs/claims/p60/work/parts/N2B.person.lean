/-! ===== one of the people, what one knows ===== -/
def peC (c : Int → Int) (x g b : Int) : Int → Int := bu (bu (bu (bu c (58 + c 2) x) (98 + c 2) g) (106 + c 2) b) 2 (c 2 + 1)
theorem peC_v {c : Int → Int} {x g b : Int} (h0 : 0 ≤ c 2) (h8 : c 2 < 8) : (∀ z, ¬ z = 2 → ¬ z = 58 + c 2 → ¬ z = 98 + c 2 → ¬ z = 106 + c 2 → peC c x g b z = c z) ∧ peC c x g b 2 = c 2 + 1 ∧ peC c x g b (58 + c 2) = x ∧ peC c x g b (98 + c 2) = g ∧ peC c x g b (106 + c 2) = b := by
  unfold peC
  refine ⟨fun z z1 z2 z3 z4 => ?_, bu_s, ?_, ?_, ?_⟩
  · rw [bu_o z1, bu_o z4, bu_o z3, bu_o z2]
  · rw [bu_o (by omega), bu_o (by omega), bu_o (by omega), bu_s]
  · rw [bu_o (by omega), bu_o (by omega), bu_s]
  · rw [bu_o (by omega), bu_s]
theorem LC_e {c : Int → Int} {M M' : KM} {x g b : Int} (h8 : c 2 < 8) (hx : 0 ≤ x ∧ x < c 0 ∧ 0 ≤ g ∧ g ≤ 1 ∧ 0 ≤ b ∧ b ≤ 1) (h1 : ∀ a k, 61 ≤ a → a < 99 → ¬ (a = 61 ∧ k = 10) → ¬ (61 + 14 + 3 * (c 2).toNat ≤ a ∧ a < 61 + 14 + 3 * (c 2).toNat + 3) → M'.1 a k = M.1 a k) (v10 : M'.1 61 10 = zI (c 2 + 1)) (w3 : M'.1 (61 + 14 + 3 * (c 2).toNat) 3 = zI (1 - b)) (w4 : M'.1 (61 + 14 + 3 * (c 2).toNat) 4 = zI g) (w5 : M'.1 (61 + 14 + 3 * (c 2).toNat) 5 = zI x) (w6 : M'.1 (61 + 14 + 3 * (c 2).toNat) 6 = zI (-1)) (w7 : M'.1 (61 + 14 + 3 * (c 2).toNat) 7 = zI (-1)) (w8 : M'.1 (61 + 14 + 3 * (c 2).toNat) 8 = zI (-1)) (w9 : M'.1 (61 + 14 + 3 * (c 2).toNat) 9 = zI (-1)) (wa : M'.1 (61 + 14 + 3 * (c 2).toNat) 10 = zI 0) (wb : M'.1 (61 + 14 + 3 * (c 2).toNat) 11 = zI 0) (wg : ∀ r : Int, 0 ≤ r → r < 12 → M'.1 (61 + 14 + 3 * (c 2).toNat + 1) r.toNat = zI 0) (wo : ∀ r : Int, 0 ≤ r → r < 8 → M'.1 (61 + 14 + 3 * (c 2).toNat + 2) r.toNat = zI 0) (h2 : ∀ a k, 61 ≤ a → a < 99 → ¬ (a = 61 + 14 + 3 * (c 2).toNat ∧ k = 2) → M'.2.1 a k = M.2.1 a k) (wn : M'.2.1 (61 + 14 + 3 * (c 2).toNat) 2 = lI (513 + c 2)) (h : LC c M) : LC (peC c x g b) M' := by
  obtain ⟨a1, a2, a3, a4, a5, a6⟩ := h
  have hh := a1.1
  have a15 := a1.2.2.2.2.1
  obtain ⟨o, s2, sx, sg, sb⟩ := peC_v (c := c) (x := x) (g := g) (b := b) (by omega) h8
  generalize peC c x g b = d at *
  have oo : ∀ z, z < 58 → ¬ z = 2 → d z = c z := fun z z1 z2 => o z z2 (by omega) (by omega) (by omega)
  obtain ⟨b0, b1, b2, b5, b6, b7, b8, b9, b3, b4, bd, br1, br2, br3, br4⟩ := a2
  refine ⟨CB_person a1 h8 (fun z _ _ z1 z2 z3 z4 => o z z1 z2 z3 z4) s2 sx sg sb hx, ?_, fun p u w => ?_, fun p hp => ?_, fun k u w => ?_, fun p u w => ?_⟩
  · unfold HL
    rw [oo 0 (by omega) (by omega), oo 1 (by omega) (by omega), s2, oo 3 (by omega) (by omega), oo 4 (by omega) (by omega), oo 5 (by omega) (by omega), oo 6 (by omega) (by omega), oo 7 (by omega) (by omega), oo 8 (by omega) (by omega), oo 9 (by omega) (by omega)]
    refine ⟨?_, ?_, v10, ?_, ?_, ?_, ?_, ?_, ?_, ?_, ?_, fun r u w => ?_, fun r u w => ?_, fun r u w => ?_, fun r u w => ?_⟩
    · rw [h1 _ _ (by omega) (by omega) (by omega) (by omega)]; exact b0
    · rw [h1 _ _ (by omega) (by omega) (by omega) (by omega)]; exact b1
    · rw [h1 _ _ (by omega) (by omega) (by omega) (by omega)]; exact b5
    · rw [h1 _ _ (by omega) (by omega) (by omega) (by omega)]; exact b6
    · rw [h1 _ _ (by omega) (by omega) (by omega) (by omega)]; exact b7
    · rw [h1 _ _ (by omega) (by omega) (by omega) (by omega)]; exact b8
    · rw [h1 _ _ (by omega) (by omega) (by omega) (by omega)]; exact b9
    · rw [h1 _ _ (by omega) (by omega) (by omega) (by omega)]; exact b3
    · rw [h1 _ _ (by omega) (by omega) (by omega) (by omega)]; exact b4
    · rw [h1 _ _ (by omega) (by omega) (by omega) (by omega)]; exact bd
    · rw [h1 _ _ (by omega) (by omega) (by omega) (by omega), oo (10 + r) (by omega) (by omega)]; exact br1 r u w
    · rw [h1 _ _ (by omega) (by omega) (by omega) (by omega), oo (22 + r) (by omega) (by omega)]; exact br2 r u w
    · rw [h1 _ _ (by omega) (by omega) (by omega) (by omega), oo (34 + r) (by omega) (by omega)]; exact br3 r u w
    · rw [h1 _ _ (by omega) (by omega) (by omega) (by omega), oo (46 + r) (by omega) (by omega)]; exact br4 r u w
  · rw [s2] at w
    by_cases e : p = c 2
    · subst e
      rw [sb, sg, sx]
      refine ⟨w3, w4, w5, w6, w7, w8, w9, wa, wb, fun r r1 r2 => ?_, fun q q1 q2 => wo q q1 q2⟩
      rw [wg r r1 r2, o _ (by omega) (by omega) (by omega) (by omega), (a15 (c 2) r (by omega) (by omega) r1 r2).2.2 (Or.inl (Int.le_refl _))]
    · obtain ⟨q3, q4, q5, q6, q7, q8, q9, q10, q11, qg, qo⟩ := a3 p u (by omega)
      have f : ∀ i k, i < 3 → M'.1 (61 + 14 + 3 * p.toNat + i) k = M.1 (61 + 14 + 3 * p.toNat + i) k := fun i k hi => h1 _ _ (by omega) (by omega) (by omega) (by omega)
      have f0 : ∀ k, M'.1 (61 + 14 + 3 * p.toNat) k = M.1 (61 + 14 + 3 * p.toNat) k := fun k => f 0 k (by omega)
      rw [f0, f0, f0, f0, f0, f0, f0, f0, f0, o _ (by omega) (by omega) (by omega) (by omega), o _ (by omega) (by omega) (by omega) (by omega), o _ (by omega) (by omega) (by omega) (by omega)]
      refine ⟨q3, q4, q5, q6, q7, q8, q9, q10, q11, fun r r1 r2 => ?_, fun q r1 r2 => ?_⟩
      · rw [f 1 _ (by omega), o _ (by omega) (by omega) (by omega) (by omega)]; exact qg r r1 r2
      · rw [f 2 _ (by omega)]; exact qo q r1 r2
  · by_cases e : p = (c 2).toNat
    · subst e
      rw [w3, w4]
      refine ⟨?_, ?_⟩
      · rcases (show b = 0 ∨ b = 1 by omega) with rfl | rfl
        · exact Or.inr rfl
        · exact Or.inl rfl
      · rcases (show g = 0 ∨ g = 1 by omega) with rfl | rfl
        · exact Or.inl rfl
        · exact Or.inr rfl
    · rw [h1 _ _ (by omega) (by omega) (by omega) (by omega), h1 _ _ (by omega) (by omega) (by omega) (by omega)]
      exact a4 p hp
  · rw [oo 0 (by omega) (by omega)] at w
    rw [h2 _ _ (by omega) (by omega) (by omega)]; exact a5 k u w
  · rw [s2] at w
    by_cases e : p = c 2
    · rw [e]; exact wn
    · rw [h2 _ _ (by omega) (by omega) (by omega)]; exact a6 p u (by omega)
def wA : List Int := [97, 116]
def wGl : List Int := [103, 108, 97, 115, 115, 101, 115]
theorem pt_person {T : Int → Int} {E : Int} {M : KM} {l : List Int} {c : Int → Int} {x g b t u : Int} {n : Nat} (hA : At T E M ((if b = 1 then sw 11 else sw 12) ++ (nam 112 (c 2) ++ (sw 13 ++ (nam 108 x ++ ((if g = 1 then sw 14 else sw 6) ++ l)))))) (hC : LC c M) (ho : To M t u) (h8 : c 2 < 8) (hx : 0 ≤ x ∧ x < c 0 ∧ 0 ≤ g ∧ g ≤ 1 ∧ 0 ≤ b ∧ b ≤ 1) (hg : g = 1 → b = 0) (hn : 1001 < n) (hL : Lx l) : ∃ M', Pa T E n M M' l (peC c x g b) t u := by
  have hh := hC.1.1
  have hn' : 1000 < n := by omega
  have k0 : ∃ j : Int, ((b = 1 ∧ j = 13) ∨ (b = 0 ∧ j = 10)) ∧ TK T E M (nam 112 (c 2) ++ (sw 13 ++ (nam 108 x ++ ((if g = 1 then sw 14 else sw 6) ++ l)))) 1 j 0 0 := by
    by_cases w : b = 1
    · rw [if_pos w] at hA
      exact ⟨13, Or.inl ⟨w, rfl⟩, hA.2 _ _ _ _ _ (nx_word (w := sw 11) (i := 13) (by decide) (by decide) (by decide) (nl_c (by decide)) (by decide) (by decide +kernel))⟩
    · rw [if_neg w] at hA
      exact ⟨10, Or.inr ⟨by omega, rfl⟩, hA.2 _ _ _ _ _ (nx_word (w := sw 12) (i := 10) (by decide) (by decide) (by decide) (nl_c (by decide)) (by decide) (by decide +kernel))⟩
  obtain ⟨j, hj, k0⟩ := k0
  obtain ⟨M1, e1, f1, k1⟩ := tk_adv k0 hn' (nx_P (k := c 2) (l := sw 13 ++ (nam 108 x ++ ((if g = 1 then sw 14 else sw 6) ++ l))) (by omega) h8 (nl_c (by decide)))
  have C1 := LC_F f1 hC
  have p1 := pn_L (n := n) (nm := 513 + c 2) C1 (by omega) (by omega) (by omega)
  have q1 := pr_L (n := n) (nm := 513 + c 2) C1 (by omega) (by omega) (by omega)
  rw [if_neg (by omega)] at p1 q1
  obtain ⟨M2, e2, f2, k2⟩ := tk_adv k1 hn' (show Nx (sw 13 ++ (nam 108 x ++ ((if g = 1 then sw 14 else sw 6) ++ l))) (nam 108 x ++ ((if g = 1 then sw 14 else sw 6) ++ l)) 1 ((11 : Nat) : Int) 0 0 from nx_word1 (w := wA) (i := 11) (by decide) (by decide) (by decide) (nl_c (by decide)) (by decide) (by decide +kernel))
  have C2 := LC_F f2 C1
  obtain ⟨M3, e3, f3, k3⟩ := tk_adv k2 hn' (nx_L (k := x) (l := (if g = 1 then sw 14 else sw 6) ++ l) (by omega) (by omega) (by
    by_cases w : g = 1
    · rw [if_pos w]; exact nl_c (by decide)
    · rw [if_neg w]; exact nl_c (by decide)))
  have C3 := LC_F f3 C2
  have fin : ∀ (M4 M5 : KM), f_X9_takePlace n 5 61 M3 = some (zI x, M4) → FC 5 M3 M5 → TK T E M5 l 3 (-1) 59 0 → ((b = 1 ∧ g = 0 ∧ M5 = M4) ∨ (b = 0 ∧ f_X9_skipWord n 5 (zI 12) M4 = some (zI g, M5))) → ∃ M', Pa T E n M M' l (peC c x g b) t u := by
    intro M4 M5 e4 f5 k5 hc
    have f15 := FC_t f1 (FC_t f2 (FC_t f3 f5))
    obtain ⟨N, a1, a2, a3, a4, a5, a6, a7, a8, a9, b6, b7, b8, b9, ba, bb, bg, bo⟩ := c_addPerson (S := 61) (n := n) (w := lI (513 + c 2)) (c := c 2) (q := 1 - b) (g := g) (x := x) (M := M5) (by rw [f15.1 _ _ (by omega)]; exact hC.2.1.2.2.1) (by omega) h8 (by omega) (by omega) (by omega)
    have k6 : TK T E N l 3 (-1) 59 0 := TK_F (fun c' i h => a5 _ _ (by omega) (by omega)) (fun c' i h => a3 _ _ (by omega)) (by rw [a2]) k5
    obtain ⟨M8, e8, f8, k8⟩ := tk_At k6.1 k6.2.2.2.2.2 hn' hL
    have fr : ∀ a k, ¬ (a = 5 ∧ 3 ≤ k ∧ k ≤ 11) → ¬ (a = 61 ∧ k = 10) → ¬ (61 + 14 + 3 * (c 2).toNat ≤ a ∧ a < 61 + 14 + 3 * (c 2).toNat + 3) → M8.1 a k = M.1 a k := fun a k y0 y1 y2 => by
      rw [f8.1 _ _ y0, a5 a k y1 y2, f15.1 _ _ y0]
    have f8' : ∀ a k, ¬ a = 5 → M8.1 a k = N.1 a k := fun a k h => f8.1 a k (by omega)
    refine ⟨M8, ?_, ⟨f8.2.2.trans (a2.trans f15.2.2), fun a k y0 y1 y2 => fr a k (by omega) (by omega) (by omega)⟩, k8, LC_e h8 hx (fun a k y0 y1 y2 y3 => fr a k (by omega) y2 y3) (by rw [f8' _ _ (by omega)]; exact a6) (by rw [f8' _ _ (by omega)]; exact a7) (by rw [f8' _ _ (by omega)]; exact a8) (by rw [f8' _ _ (by omega)]; exact a9) (by rw [f8' _ _ (by omega)]; exact b6) (by rw [f8' _ _ (by omega)]; exact b7) (by rw [f8' _ _ (by omega)]; exact b8) (by rw [f8' _ _ (by omega)]; exact b9) (by rw [f8' _ _ (by omega)]; exact ba) (by rw [f8' _ _ (by omega)]; exact bb) (fun r r1 r2 => by rw [f8' _ _ (by omega)]; exact bg r r1 r2) (fun r r1 r2 => by rw [f8' _ _ (by omega)]; exact bo r r1 r2) (fun a k y0 y1 y2 => by rw [f8.2.1 _ _ (by omega), a3 _ _ y2, f15.2.1 _ _ (by omega)]) (by rw [f8.2.1 _ _ (by omega)]; exact a4) hC, ⟨by rw [fr _ _ (by omega) (by omega) (by omega)]; exact ho.1, by rw [fr _ _ (by omega) (by omega) (by omega)]; exact ho.2⟩⟩
    have h7 := k0.2.2.1
    unfold f_X3_readPart
    simp only [zl]
    rw [lt_hd, h7]
    have body : ∀ s : Int, (s = 1 - b) → f_X3_readPerson n 5 61 (zI s) M1 = some (zI 1, M8) := fun s hs => by
      unfold f_X3_readPerson
      simp only [zl, ll]
      rw [k_new k1.2.2.2.2.1 (nm_nz (by omega) (by omega)) p1 q1 e2, Option.bind_some]
      dsimp only
      rw [if_neg (fun z => nm_nz (v := 513 + c 2) (by omega) (by omega) (by rw [lgz] at z; exact z)), show (zI 11) = zI ((11 : Nat) : Int) from rfl, k_word k2.2.2.1 e3, Option.bind_some]
      dsimp only
      rw [if_neg (show ¬ zI 1 = zI 0 by decide), e4, Option.bind_some]
      dsimp only [lt]
      rw [zneg, if_neg (eqN (by omega) (by omega) (by omega) (by omega) (by omega))]
      rcases hc with ⟨c1, c2, c3⟩ | ⟨c1, c2⟩
      · rw [if_pos (by rw [hs, c1]; rfl), hs, ← c3, show (zI 0) = zI g by rw [c2], a1, Option.bind_some, k_semi k6.2.1 k6.2.2.2.1 e8]
        rfl
      · rw [if_neg (by rw [hs, c1]; decide), c2, Option.bind_some]
        dsimp only
        by_cases w : g = 0
        · rw [if_pos (by rw [w]), hs, show (zI 0) = zI g by rw [w], a1, Option.bind_some, k_semi k6.2.1 k6.2.2.2.1 e8]
          rfl
        · have hg1 : g = 1 := by omega
          rw [hg1] at a1
          rw [if_neg (eqN w (by omega) (by omega) (by omega) (by omega)), hs, a1, Option.bind_some, k_semi k6.2.1 k6.2.2.2.1 e8]
          rfl
    rcases hj with ⟨hb, rfl⟩ | ⟨hb, rfl⟩
    · rw [if_neg (show ¬ zI 13 = zI 0 by decide), if_neg (show ¬ zI 13 = zI 1 by decide), if_neg (show ¬ zI 13 = zI 2 by decide), if_neg (show ¬ zI 13 = zI 3 by decide), if_neg (show ¬ zI 13 = zI 4 by decide), if_neg (show ¬ zI 13 = zI 5 by decide), if_neg (show ¬ zI 13 = zI 6 by decide), if_neg (show ¬ zI 13 = zI 7 by decide), if_neg (show ¬ zI 13 = zI 8 by decide), if_neg (show ¬ zI 13 = zI 9 by decide), if_neg (show ¬ zI 13 = zI 10 by decide), if_neg (show ¬ zI 13 = zI 11 by decide), if_neg (show ¬ zI 13 = zI 12 by decide), if_pos rfl, hC.2.1.2.2.1]
      exact sq11 (Y := fun M => f_X3_readPerson n 5 61 (zI 0) M) (k_start h8 (by omega) (by omega) e1) (body 0 (by omega))
    · rw [if_neg (show ¬ zI 10 = zI 0 by decide), if_neg (show ¬ zI 10 = zI 1 by decide), if_neg (show ¬ zI 10 = zI 2 by decide), if_neg (show ¬ zI 10 = zI 3 by decide), if_neg (show ¬ zI 10 = zI 4 by decide), if_neg (show ¬ zI 10 = zI 5 by decide), if_neg (show ¬ zI 10 = zI 6 by decide), if_neg (show ¬ zI 10 = zI 7 by decide), if_neg (show ¬ zI 10 = zI 8 by decide), if_neg (show ¬ zI 10 = zI 9 by decide), if_pos rfl, hC.2.1.2.2.1]
      exact sq11 (Y := fun M => f_X3_readPerson n 5 61 (zI 1) M) (k_start h8 (by omega) (by omega) e1) (body 1 (by omega))
  by_cases w : g = 1
  · have hb := hg w
    rw [if_pos w] at k3
    obtain ⟨M4, e4, f4, k4⟩ := k_place k3 C3 ⟨hx.1, hx.2.1⟩ hn' (show Nx (sw 14 ++ l) (sw 6 ++ l) 1 ((12 : Nat) : Int) 0 0 from nx_word1 (w := wGl) (i := 12) (by decide) (by decide) (by decide) (nl_c (by decide)) (by decide) (by decide +kernel))
    obtain ⟨M5, e5, f5, k5⟩ := tk_adv k4 hn' (nx_semi (l := l))
    exact fin M4 M5 e4 (FC_t f4 f5) k5 (Or.inr ⟨hb, by rw [w]; exact k_skipT k4.2.2.1 e5⟩)
  · rw [if_neg w] at k3
    obtain ⟨M4, e4, f4, k4⟩ := k_place k3 C3 ⟨hx.1, hx.2.1⟩ hn' (nx_semi (l := l))
    by_cases hb : b = 1
    · exact fin M4 M4 e4 f4 k4 (Or.inl ⟨hb, by omega, rfl⟩)
    · exact fin M4 M4 e4 f4 k4 (Or.inr ⟨by omega, by rw [show g = 0 by omega]; exact k_skipF k4.2.2.1 (by omega) (by omega) (by omega)⟩)
/-! what one knows -/
theorem LC_k {c : Int → Int} {M M' : KM} {p r : Int} (hp : 0 ≤ p ∧ p < c 2) (hr : 0 ≤ r ∧ r < c 1) (h1 : ∀ a k, 61 ≤ a → a < 99 → ¬ (a = 61 + 14 + 3 * p.toNat + 1 ∧ k = r.toNat) → M'.1 a k = M.1 a k) (v : M'.1 (61 + 14 + 3 * p.toNat + 1) r.toNat = zI (c 7)) (h2 : ∀ a k, 61 ≤ a → a < 99 → M'.2.1 a k = M.2.1 a k) (h : LC c M) : LC (bu c (130 + 12 * p + r) (c 7)) M' := by
  obtain ⟨a1, a2, a3, a4, a5, a6⟩ := h
  have hh := a1.1
  have o : ∀ z, ¬ z = 130 + 12 * p + r → bu c (130 + 12 * p + r) (c 7) z = c z := fun z hz => bu_o hz
  have s : bu c (130 + 12 * p + r) (c 7) (130 + 12 * p + r) = c 7 := bu_s
  generalize bu c (130 + 12 * p + r) (c 7) = d at *
  refine ⟨CB_known a1 hp.1 hp.2 hr.1 hr.2 (fun z _ _ z1 => o z z1) s, HL_b (HL_of (fun a k u w => h1 a k (by omega) (by omega) (by omega)) a2) (fun z u w => o z (by omega)) (by omega), fun q u w => ?_, fun q hq => ?_, fun k u w => ?_, fun q u w => ?_⟩
  · rw [o 2 (by omega)] at w
    obtain ⟨q3, q4, q5, q6, q7, q8, q9, q10, q11, qg, qo⟩ := a3 q u w
    have f0 : ∀ k, M'.1 (61 + 14 + 3 * q.toNat) k = M.1 (61 + 14 + 3 * q.toNat) k := fun k => h1 _ _ (by omega) (by omega) (by omega)
    rw [f0, f0, f0, f0, f0, f0, f0, f0, f0, o _ (by omega), o _ (by omega), o _ (by omega)]
    refine ⟨q3, q4, q5, q6, q7, q8, q9, q10, q11, fun i r1 r2 => ?_, fun i r1 r2 => ?_⟩
    · by_cases e : q = p ∧ i = r
      · rw [e.1, e.2, s]; exact v
      · rw [h1 _ _ (by omega) (by omega) (by omega), o _ (by omega)]; exact qg i r1 r2
    · rw [h1 _ _ (by omega) (by omega) (by omega)]; exact qo i r1 r2
  · rw [h1 _ _ (by omega) (by omega) (by omega), h1 _ _ (by omega) (by omega) (by omega)]
    exact a4 q hq
  · rw [o 0 (by omega)] at w
    rw [h2 _ _ (by omega) (by omega)]; exact a5 k u w
  · rw [o 2 (by omega)] at w
    rw [h2 _ _ (by omega) (by omega)]; exact a6 q u w
theorem pt_knows {T : Int → Int} {E : Int} {M : KM} {l : List Int} {c : Int → Int} {p x y t u : Int} {n : Nat} (hA : At T E M (sw 15 ++ (nam 112 p ++ (nam 108 x ++ (nam 108 y ++ (sw 6 ++ l)))))) (hC : LC c M) (ho : To M t u) (hp : 0 ≤ p ∧ p < c 2) (hx : 0 ≤ x ∧ x < c 0 ∧ 0 ≤ y ∧ y < c 0) (hb : 0 ≤ btB c x y) (hn : 1000 < n) (hL : Lx l) : ∃ M', Pa T E n M M' l (bu c (130 + 12 * p + btB c x y) (c 7)) t 1 := by
  have hh := hC.1.1
  have hbt := btB_r (b := c) (x := x) (y := y) (by omega)
  have k0 : TK T E M (nam 112 p ++ (nam 108 x ++ (nam 108 y ++ (sw 6 ++ l)))) 1 14 0 0 := hA.2 _ _ _ _ _ (nx_word (w := sw 15) (i := 14) (by decide) (by decide) (by decide) (nl_c (by decide)) (by decide) (by decide +kernel))
  have k0' : TK T E (uI M 5 13 (zI 1)) (nam 112 p ++ (nam 108 x ++ (nam 108 y ++ (sw 6 ++ l)))) 1 14 0 0 := TK_F (fun c i h => uI_o (by omega)) (fun c i h => rfl) rfl k0
  have C0 : LC c (uI M 5 13 (zI 1)) := LC_of (fun a k x y => uI_o (by omega)) (fun a k x y => rfl) hC
  obtain ⟨M1, e1, f1, k1⟩ := tk_adv k0' hn (nx_P (k := p) (l := nam 108 x ++ (nam 108 y ++ (sw 6 ++ l))) hp.1 (by omega) (nl_c (by decide)))
  have C1 := LC_F f1 C0
  obtain ⟨M2, e2, f2, k2⟩ := k_person k1 C1 hp hn (nx_L (k := x) (l := nam 108 y ++ (sw 6 ++ l)) hx.1 (by omega) (nl_c (by decide)))
  have C2 := LC_F f2 C1
  obtain ⟨M3, e3, f3, k3⟩ := k_place k2 C2 ⟨hx.1, hx.2.1⟩ hn (nx_L (k := y) (l := sw 6 ++ l) hx.2.2.1 (by omega) (nl_c (by decide)))
  have C3 := LC_F f3 C2
  obtain ⟨M4, e4, f4, k4⟩ := k_place k3 C3 hx.2.2 hn (nx_semi (l := l))
  have C4 := LC_F f4 C3
  have rb := rb_L (n := n) (x := x) (y := y) C4 (by omega) (by omega)
  have f14 := FC_t f1 (FC_t f2 (FC_t f3 f4))
  have k5 : TK T E (uI M4 (61 + 14 + 3 * p.toNat + 1) (btB c x y).toNat (zI (c 7))) l 3 (-1) 59 0 := TK_F (fun c i h => uI_o (by omega)) (fun c i h => rfl) rfl k4
  obtain ⟨M6, e6, f6, k6⟩ := tk_At k5.1 k5.2.2.2.2.2 hn hL
  have fr : ∀ a k, ¬ (a = 5 ∧ 3 ≤ k ∧ k ≤ 11) → ¬ (a = 5 ∧ k = 13) → ¬ (a = 61 + 14 + 3 * p.toNat + 1 ∧ k = (btB c x y).toNat) → M6.1 a k = M.1 a k := fun a k y0 y1 y2 => by
    rw [f6.1 _ _ y0, uI_o y2, f14.1 _ _ y0, uI_o y1]
  refine ⟨M6, ?_, ⟨f6.2.2.trans f14.2.2, fun a k y0 y1 y2 => fr a k (by omega) (by omega) (by omega)⟩, k6, LC_k hp ⟨hb, hbt.2⟩ (fun a k y0 y1 y2 => fr a k (by omega) (by omega) y2) (by rw [f6.1 _ _ (by omega), uI_s]) (fun a k y0 y1 => by rw [f6.2.1 _ _ (by omega)]; exact f14.2.1 a k (by omega)) hC, ⟨by rw [fr _ _ (by omega) (by omega) (by omega)]; exact ho.1, by rw [f6.1 _ _ (by omega), uI_o (by omega), f14.1 _ _ (by omega), uI_s]⟩⟩
  have h7 := k0.2.2.1
  unfold f_X3_readPart
  simp only [zl]
  rw [lt_hd, h7]
  rw [if_neg (show ¬ zI 14 = zI 0 by decide), if_neg (show ¬ zI 14 = zI 1 by decide), if_neg (show ¬ zI 14 = zI 2 by decide), if_neg (show ¬ zI 14 = zI 3 by decide), if_neg (show ¬ zI 14 = zI 4 by decide), if_neg (show ¬ zI 14 = zI 5 by decide), if_neg (show ¬ zI 14 = zI 6 by decide), if_neg (show ¬ zI 14 = zI 7 by decide), if_neg (show ¬ zI 14 = zI 8 by decide), if_neg (show ¬ zI 14 = zI 9 by decide), if_neg (show ¬ zI 14 = zI 10 by decide), if_neg (show ¬ zI 14 = zI 11 by decide), if_neg (show ¬ zI 14 = zI 12 by decide), if_neg (show ¬ zI 14 = zI 13 by decide), if_pos rfl]
  have g13 : M4.1 61 13 = zI (c 7) := C4.2.1.2.2.2.2.2.1
  have kk : f_X3_readKnows n 5 61 M = some (zI 1, M6) := by
    unfold f_X3_readKnows
    simp only [zl]
    rw [lt_hd, k_skip, e1, Option.bind_some, e2, Option.bind_some]
    dsimp only [lt]
    rw [zneg, if_neg (eqN (by omega) (by omega) (by omega) (by omega) (by omega)), e3, Option.bind_some]
    dsimp only
    rw [if_neg (eqN (by omega) (by omega) (by omega) (by omega) (by omega)), e4, Option.bind_some]
    dsimp only
    rw [if_neg (eqN (by omega) (by omega) (by omega) (by omega) (by omega)), rb, Option.bind_some, if_neg (eqN (by omega) (by omega) (by omega) (by omega) (by omega)), if_pos (ixP (by omega) (by omega) (by omega)), if_pos (ixP (by omega) (by omega) (by omega)), zidx (by omega) (by omega), zidx (by omega) (by omega), g13, show 61 + 6 + 8 + 3 * p.toNat + 1 = 61 + 14 + 3 * p.toNat + 1 by omega, k_semi k5.2.1 k5.2.2.2.1 e6]
    rfl
  rw [kk]
  rfl
