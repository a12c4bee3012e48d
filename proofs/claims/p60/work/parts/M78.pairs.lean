/-! ===== pairs: the order in which they ask is nothing to the end ===== -/
abbrev sgt (b : Int → Int) (p : Int) : Prop := 0 ≤ p ∧ p < b 2 ∧ b (106 + p) = 0
abbrev bld (b : Int → Int) (q : Int) : Prop := 0 ≤ q ∧ q < b 2 ∧ b (106 + q) = 1
/-- w likes x better than y -/
abbrev lk (b : Int → Int) (w x y : Int) : Prop := b (226 + 8 * y + w) < b (226 + 8 * x + w) ∨ (b (226 + 8 * x + w) = b (226 + 8 * y + w) ∧ x < y)
theorem lk_as {b : Int → Int} {w x y : Int} (h : lk b w x y) : ¬ lk b w y x := by omega
theorem lk_to {b : Int → Int} {w x y : Int} (h : ¬ x = y) (h2 : ¬ lk b w x y) : lk b w y x := by omega
theorem lk_tr {b : Int → Int} {w x y z : Int} (h : lk b w x y) (h2 : lk b w y z) : lk b w x z := by omega
def nxS (b : Int → Int) (p : Int) (P : Int → Bool) (q w : Int) : Int := if bld b q ∧ P q = false ∧ (w = -1 ∨ lk b p q w) then q else w
def nx (b : Int → Int) (p : Int) (P : Int → Bool) : Int := fI (nxS b p P) (b 2).toNat 0 (-1)
theorem nx_r {b : Int → Int} {p : Int} {P : Int → Bool} (h2 : 0 ≤ b 2) : (nx b p P = -1 ∧ ∀ q, bld b q → P q = true) ∨ (bld b (nx b p P) ∧ P (nx b p P) = false ∧ ∀ q, bld b q → P q = false → ¬ q = nx b p P → lk b p (nx b p P) q) := by
  have := fI_ix (f := nxS b p P) (V := fun i w => (w = -1 ∧ ∀ q, q < i → bld b q → P q = true) ∨ (bld b w ∧ w < i ∧ P w = false ∧ ∀ q, q < i → bld b q → P q = false → ¬ q = w → lk b p w q)) (R := b 2) (fun i w h1 _ h => ?_) (b 2).toNat 0 (-1) (by omega) (by omega) (Or.inl ⟨rfl, fun q h1 h2 => absurd h2.1 (by omega)⟩)
  · rw [show (0 : Int) + ((b 2).toNat : Int) = b 2 by omega] at this
    rcases this with ⟨e, h⟩ | ⟨a1, a2, a3, a4⟩
    · exact Or.inl ⟨e, fun q hq => h q hq.2.1 hq⟩
    · exact Or.inr ⟨a1, a3, fun q hq => a4 q hq.2.1 hq⟩
  · unfold nxS
    by_cases e : bld b i ∧ P i = false ∧ (w = -1 ∨ lk b p i w)
    · rw [if_pos e]
      refine Or.inr ⟨e.1, by omega, e.2.1, fun q q1 q2 q3 q4 => ?_⟩
      rcases h with ⟨h1, h2⟩ | ⟨a1, a2, a3, a4⟩
      · have := h2 q (by omega) q2
        rw [q3] at this
        exact absurd this (by decide)
      · have e3 := e.2.2.resolve_left (by have := a1.1; omega)
        by_cases y : q = w
        · rw [y]; exact e3
        · exact lk_tr e3 (a4 q (by omega) q2 q3 y)
    · rw [if_neg e]
      rcases h with ⟨h1, h2⟩ | ⟨a1, a2, a3, a4⟩
      · refine Or.inl ⟨h1, fun q q1 q2 => ?_⟩
        by_cases y : q = i
        · cases hP : P q with
          | true => rfl
          | false => exact absurd ⟨y ▸ q2, y ▸ hP, Or.inl h1⟩ e
        · exact h2 q (by omega) q2
      · refine Or.inr ⟨a1, by omega, a3, fun q q1 q2 q3 q4 => ?_⟩
        by_cases y : q = i
        · rw [y] at q2 q3 q4 ⊢
          exact lk_to q4 (fun z => e ⟨q2, q3, Or.inr z⟩)
        · exact a4 q (by omega) q2 q3 q4
def asM (m : Int → Int) (p q : Int) : Int → Int := bu (bu (if m q = -1 then m else bu m (m q) (-1)) q p) p q
def adP (A : Int → Int → Bool) (p q : Int) : Int → Int → Bool := fun i => if i = p then adA (A p) q else A i
theorem adP_s {A : Int → Int → Bool} {p q : Int} : adP A p q p q = true := by
  unfold adP
  rw [if_pos rfl]; exact adA_s
theorem adP_o {A : Int → Int → Bool} {p q i k : Int} (h : ¬ (i = p ∧ k = q)) : adP A p q i k = A i k := by
  unfold adP
  by_cases e : i = p
  · rw [if_pos e, adA_o (fun z => h ⟨e, z⟩), e]
  · rw [if_neg e]
theorem adP_up {A : Int → Int → Bool} {p q i k : Int} (h : A i k = true) : adP A p q i k = true := by
  by_cases e : i = p ∧ k = q
  · rw [e.1, e.2]; exact adP_s
  · rw [adP_o e]; exact h
abbrev PST : Type := (Int → Int) × (Int → Int → Bool)
def asS (b : Int → Int) (p : Int) (s : PST) : PST := if nx b p (s.2 p) = -1 then s else (if s.1 (nx b p (s.2 p)) = -1 ∨ lk b (nx b p (s.2 p)) p (s.1 (nx b p (s.2 p))) then asM s.1 p (nx b p (s.2 p)) else s.1, adP s.2 p (nx b p (s.2 p)))
def GS (b : Int → Int) (s : PST) : Prop := (∀ p q, s.2 p q = true → sgt b p ∧ bld b q) ∧
  (∀ p q k, sgt b p → bld b k → s.2 p q = true → s.2 p k = false → lk b p q k) ∧
  (∀ q, bld b q → (s.1 q = -1 ∧ ∀ p, s.2 p q = false) ∨ (sgt b (s.1 q) ∧ s.2 (s.1 q) q = true ∧ s.1 (s.1 q) = q ∧ ∀ p, s.2 p q = true → ¬ p = s.1 q → lk b q (s.1 q) p)) ∧
  (∀ p, sgt b p → s.1 p = -1 ∨ (bld b (s.1 p) ∧ s.1 (s.1 p) = p)) ∧
  (∀ j, ¬ (0 ≤ j ∧ j < b 2) → s.1 j = -1)
theorem ff {c : Bool} (h : ¬ c = true) : c = false := by cases c with
  | true => exact absurd rfl h
  | false => rfl
theorem tf {c : Bool} (h : c = false) : ¬ c = true := by rw [h]; decide
theorem GS_st {b : Int → Int} {p : Int} {s : PST} (h2 : 0 ≤ b 2) (h : GS b s) (hp : sgt b p) (hm : s.1 p = -1) : GS b (asS b p s) := by
  obtain ⟨ha, hb, hc, hd, he⟩ := h
  rcases nx_r (b := b) (p := p) (P := s.2 p) h2 with ⟨e, -⟩ | ⟨q1, q2, q3⟩
  · unfold asS
    rw [if_pos e]; exact ⟨ha, hb, hc, hd, he⟩
  · have ne : ¬ nx b p (s.2 p) = -1 := by have := q1.1; omega
    unfold asS
    rw [if_neg ne]
    generalize nx b p (s.2 p) = q at *
    have pq : ¬ p = q := fun z => by rw [z] at hp; have := hp.2.2; have := q1.2.2; omega
    have A1 : ∀ x y, adP s.2 p q x y = true → s.2 x y = true ∨ (x = p ∧ y = q) := fun x y hxy => by
      by_cases z : x = p ∧ y = q
      · exact Or.inr z
      · rw [adP_o z] at hxy; exact Or.inl hxy
    have B1 : ∀ x y k, sgt b x → bld b k → adP s.2 p q x y = true → adP s.2 p q x k = false → lk b x y k := fun x y k hx hk h1 h2 => by
      have n1 : ¬ (x = p ∧ k = q) := fun z => by rw [z.1, z.2, adP_s] at h2; exact absurd h2 (by decide)
      rw [adP_o n1] at h2
      rcases A1 x y h1 with z | z
      · exact hb x y k hx hk z h2
      · rw [z.1, z.2]
        rw [z.1] at h2 n1
        exact q3 k hk h2 (fun y => n1 ⟨rfl, y⟩)
    have fr : ∀ y, bld b y → ¬ s.1 y = p := fun y hy z => by
      rcases hc y hy with ⟨z1, -⟩ | ⟨-, -, z1, -⟩
      · rw [z1] at z; have := hp.1; omega
      · rw [z, hm] at z1; have := hy.1; omega
    by_cases w : s.1 q = -1 ∨ lk b q p (s.1 q)
    · rw [if_pos w]
      have mv : ∀ j, asM s.1 p q j = if j = p then q else if j = q then p else if ¬ s.1 q = -1 ∧ j = s.1 q then -1 else s.1 j := fun j => by
        unfold asM
        by_cases z1 : j = p
        · rw [if_pos z1, z1, bu_s]
        · rw [if_neg z1, bu_o z1]
          by_cases z2 : j = q
          · rw [if_pos z2, z2, bu_s]
          · rw [if_neg z2, bu_o z2]
            by_cases z3 : s.1 q = -1
            · rw [if_pos z3, if_neg (fun z => z.1 z3)]
            · rw [if_neg z3]
              by_cases z4 : j = s.1 q
              · rw [if_pos ⟨z3, z4⟩, z4, bu_s]
              · rw [if_neg (fun z => z4 z.2), bu_o z4]
      have kq : ¬ s.1 q = -1 → sgt b (s.1 q) ∧ s.1 (s.1 q) = q := fun z => by
        rcases hc q q1 with ⟨z1, -⟩ | ⟨z1, -, z2, -⟩
        · exact absurd z1 z
        · exact ⟨z1, z2⟩
      refine ⟨fun x y hxy => ?_, B1, fun y hy => ?_, fun x hx => ?_, fun j hj => ?_⟩
      · rcases A1 x y hxy with z | z
        · exact ha x y z
        · rw [z.1, z.2]; exact ⟨hp, q1⟩
      · have yp : ¬ y = p := fun z => by rw [z] at hy; have := hy.2.2; have := hp.2.2; omega
        show (asM s.1 p q y = -1 ∧ _) ∨ (sgt b (asM s.1 p q y) ∧ adP s.2 p q (asM s.1 p q y) y = true ∧ asM s.1 p q (asM s.1 p q y) = y ∧ ∀ x, adP s.2 p q x y = true → ¬ x = asM s.1 p q y → lk b y (asM s.1 p q y) x)
        by_cases yq : y = q
        · subst yq
          have e1 : asM s.1 p y y = p := by rw [mv, if_neg yp, if_pos rfl]
          rw [e1]
          refine Or.inr ⟨hp, adP_s, by rw [mv, if_pos rfl], fun x hx hn => ?_⟩
          rw [adP_o (fun z => hn z.1)] at hx
          rcases hc y hy with ⟨z1, z2⟩ | ⟨z1, z2, z3, z4⟩
          · exact absurd hx (tf (z2 x))
          · have w2 := w.resolve_left (by have := z1.1; omega)
            by_cases z : x = s.1 y
            · rw [z]; exact w2
            · exact lk_tr w2 (z4 x hx z)
        · have e1 : asM s.1 p q y = s.1 y := by
            rw [mv, if_neg yp, if_neg yq, if_neg (fun z => by have := (kq z.1).1.2.2; rw [← z.2] at this; have := hy.2.2; omega)]
          rw [e1]
          rcases hc y hy with ⟨z1, z2⟩ | ⟨z1, z2, z3, z4⟩
          · exact Or.inl ⟨z1, fun x => by show adP s.2 p q x y = false; rw [adP_o (fun z => yq z.2)]; exact z2 x⟩
          · refine Or.inr ⟨z1, adP_up z2, ?_, fun x hx hn => ?_⟩
            · rw [mv, if_neg (fr y hy), if_neg (fun z => by rw [z] at z1; have := z1.2.2; have := q1.2.2; omega), if_neg (fun z => by have := (kq z.1).2; rw [← z.2, z3] at this; exact yq this)]
              exact z3
            · rw [adP_o (fun z => yq z.2)] at hx
              exact z4 x hx hn
      · show asM s.1 p q x = -1 ∨ (bld b (asM s.1 p q x) ∧ asM s.1 p q (asM s.1 p q x) = x)
        by_cases xp : x = p
        · subst xp
          have e1 : asM s.1 x q x = q := by rw [mv, if_pos rfl]
          rw [e1]
          exact Or.inr ⟨q1, by rw [mv, if_neg (fun z => pq z.symm), if_pos rfl]⟩
        · have xq : ¬ x = q := fun z => by rw [z] at hx; have := hx.2.2; have := q1.2.2; omega
          by_cases xk : ¬ s.1 q = -1 ∧ x = s.1 q
          · exact Or.inl (by rw [mv, if_neg xp, if_neg xq, if_pos xk])
          · have e1 : asM s.1 p q x = s.1 x := by rw [mv, if_neg xp, if_neg xq, if_neg xk]
            rw [e1]
            rcases hd x hx with z | ⟨z1, z2⟩
            · exact Or.inl z
            · refine Or.inr ⟨z1, ?_⟩
              have zp : ¬ s.1 x = p := fun z => by rw [z] at z1; have := z1.2.2; have := hp.2.2; omega
              have zq : ¬ s.1 x = q := fun z => by
                have k1 : s.1 q = x := by rw [← z]; exact z2
                exact xk ⟨by rw [k1]; have := hx.1; omega, k1.symm⟩
              rw [mv, if_neg zp, if_neg zq, if_neg (fun z => by have := (kq z.1).1.2.2; rw [← z.2] at this; have := z1.2.2; omega)]
              exact z2
      · show asM s.1 p q j = -1
        rw [mv, if_neg (fun z : j = p => hj (by rw [z]; exact ⟨hp.1, hp.2.1⟩)), if_neg (fun z : j = q => hj (by rw [z]; exact ⟨q1.1, q1.2.1⟩)), if_neg (fun z => by have := (kq z.1).1; rw [← z.2] at this; exact hj ⟨this.1, this.2.1⟩)]
        exact he j hj
    · rw [if_neg w]
      refine ⟨fun x y hxy => ?_, B1, fun y hy => ?_, hd, he⟩
      · rcases A1 x y hxy with z | z
        · exact ha x y z
        · rw [z.1, z.2]; exact ⟨hp, q1⟩
      · rcases hc y hy with ⟨z1, z2⟩ | ⟨z1, z2, z3, z4⟩
        · refine Or.inl ⟨z1, fun x => ?_⟩
          show adP s.2 p q x y = false
          rw [adP_o (fun z => w (Or.inl (by rw [← z.2]; exact z1)))]; exact z2 x
        · refine Or.inr ⟨z1, adP_up z2, z3, fun x hx hn => ?_⟩
          rcases A1 x y hx with z | z
          · exact z4 x z hn
          · have hn2 : ¬ p = s.1 q := by rw [← z.1, ← z.2]; exact hn
            show lk b y (s.1 y) x
            rw [z.1, z.2]
            exact lk_to hn2 (fun y => w (Or.inr y))
def Fin8 (b : Int → Int) (s : PST) : Prop := ∀ p, sgt b p → ¬ s.1 p = -1 ∨ ∀ q, bld b q → s.2 p q = true
def Rk (b : Int → Int) (s : PST) : Prop := GS b s ∧ ∀ t, GS b t → Fin8 b t → ∀ p q, s.2 p q = true → t.2 p q = true
theorem asS_n {b : Int → Int} {p : Int} {s : PST} (h : nx b p (s.2 p) = -1) : asS b p s = s := if_pos h
theorem asS_2 {b : Int → Int} {p : Int} {s : PST} (h : ¬ nx b p (s.2 p) = -1) : (asS b p s).2 = adP s.2 p (nx b p (s.2 p)) := by
  unfold asS
  rw [if_neg h]
theorem Rk_st {b : Int → Int} {p : Int} {s : PST} (h2 : 0 ≤ b 2) (h : Rk b s) (hp : sgt b p) (hm : s.1 p = -1) : Rk b (asS b p s) := by
  refine ⟨GS_st h2 h.1 hp hm, fun t hG hF x y hxy => ?_⟩
  obtain ⟨⟨ha, hb, hc, hd, he⟩, hs⟩ := h
  rcases nx_r (b := b) (p := p) (P := s.2 p) h2 with ⟨e, -⟩ | ⟨q1, q2, q3⟩
  · rw [asS_n e] at hxy
    exact hs t hG hF x y hxy
  · have ne : ¬ nx b p (s.2 p) = -1 := by have := q1.1; omega
    rw [asS_2 ne] at hxy
    generalize nx b p (s.2 p) = q at *
    by_cases z : x = p ∧ y = q
    · rw [z.1, z.2]
      apply Classical.byContradiction
      intro hn
      have hs2 := hs t hG hF
      obtain ⟨ta, tb, tc, td, te⟩ := hG
      have f := (hF p hp).resolve_right (fun z => hn (z q q1))
      obtain ⟨d1, d2⟩ := (td p hp).resolve_left f
      have c2 : t.2 p (t.1 p) = true ∧ ∀ x, t.2 x (t.1 p) = true → ¬ x = p → lk b (t.1 p) p x := by
        rcases tc _ d1 with ⟨z1, -⟩ | ⟨-, z2, -, z4⟩
        · rw [d2] at z1; have := hp.1; omega
        · rw [d2] at z2 z4; exact ⟨z2, z4⟩
      have a1 : s.2 p (t.1 p) = true := by
        apply Classical.byContradiction
        intro hn2
        have nq : ¬ t.1 p = q := fun z => by rw [z] at c2; exact hn c2.1
        exact lk_as (q3 (t.1 p) d1 (ff hn2) nq) (tb p (t.1 p) q hp q1 c2.1 (ff hn))
      rcases hc _ d1 with ⟨-, z2⟩ | ⟨z1, z2, z3, z4⟩
      · exact absurd a1 (tf (z2 p))
      · have np : ¬ p = s.1 (t.1 p) := fun z => by
          rw [← z] at z3
          rw [hm] at z3; have := d1.1; omega
        exact lk_as (z4 p a1 np) (c2.2 _ (hs2 _ _ z2) (fun z => np z.symm))
    · rw [adP_o z] at hxy
      exact hs t hG hF x y hxy
theorem Rk_eq {b : Int → Int} {s t : PST} (hs : Rk b s) (ht : Rk b t) (fs : Fin8 b s) (ft : Fin8 b t) (h01 : ∀ j, 0 ≤ j → j < b 2 → b (106 + j) = 0 ∨ b (106 + j) = 1) : s.1 = t.1 := by
  have eA : ∀ p q, s.2 p q = t.2 p q := fun p q => by
    cases h1 : s.2 p q with
    | true => exact (hs.2 t ht.1 ft p q h1).symm
    | false =>
      cases h2 : t.2 p q with
      | true => have := ht.2 s hs.1 fs p q h2; rw [h1] at this; exact absurd this (by decide)
      | false => rfl
  obtain ⟨⟨sa, sb, sc, sd, se⟩, -⟩ := hs
  obtain ⟨⟨ta, tb, tc, td, te⟩, -⟩ := ht
  have eB : ∀ q, bld b q → s.1 q = t.1 q := fun q hq => by
    rcases sc q hq with ⟨z1, z2⟩ | ⟨z1, z2, z3, z4⟩
    · rcases tc q hq with ⟨y1, y2⟩ | ⟨y1, y2, y3, y4⟩
      · rw [z1, y1]
      · rw [← eA] at y2; exact absurd y2 (tf (z2 _))
    · rcases tc q hq with ⟨y1, y2⟩ | ⟨y1, y2, y3, y4⟩
      · rw [eA] at z2; exact absurd z2 (tf (y2 _))
      · apply Classical.byContradiction
        intro hn
        exact lk_as (z4 (t.1 q) (by rw [eA]; exact y2) (fun z => hn z.symm)) (y4 (s.1 q) (by rw [← eA]; exact z2) hn)
  funext j
  by_cases hj : 0 ≤ j ∧ j < b 2
  · by_cases h0 : bld b j
    · exact eB j h0
    · by_cases h1 : sgt b j
      · rcases sd j h1 with z | ⟨z1, z2⟩
        · rcases td j h1 with y | ⟨y1, y2⟩
          · rw [z, y]
          · have := eB _ y1
            rw [y2] at this
            rcases sc _ y1 with ⟨w, -⟩ | ⟨-, -, w, -⟩
            · have := hj.1; omega
            · rw [this, z] at w; have := y1.1; omega
        · have := eB _ z1
          rw [z2] at this
          rcases tc _ z1 with ⟨w, -⟩ | ⟨-, -, w, -⟩
          · have := hj.1; omega
          · rw [← this] at w
            exact w.symm
      · exfalso
        rcases h01 j hj.1 hj.2 with z | z
        · exact h1 ⟨hj.1, hj.2, z⟩
        · exact h0 ⟨hj.1, hj.2, z⟩
  · rw [se j hj, te j hj]

/-! ===== how many have been asked ===== -/
def rowA (A : Int → Int → Bool) (p : Int) : Int := sumB (fun q => if A p q = true then 1 else 0) 8
def cA (A : Int → Int → Bool) : Int := sumB (rowA A) 8
theorem row_ad {A : Int → Int → Bool} {p q : Int} (h1 : 0 ≤ q) (h2 : q < 8) (h : A p q = false) : rowA (adP A p q) p = rowA A p + 1 := by
  unfold rowA
  refine sumB_one (q := q) ?_ (fun i hi => ?_) h1 h2
  · simp only [adP_s, if_true, h]; decide
  · rw [adP_o (fun z => hi z.2)]
theorem cA_ad {A : Int → Int → Bool} {p q : Int} (p1 : 0 ≤ p) (p2 : p < 8) (h1 : 0 ≤ q) (h2 : q < 8) (h : A p q = false) : cA (adP A p q) = cA A + 1 := by
  unfold cA
  refine sumB_one (q := p) (row_ad h1 h2 h) (fun i hi => ?_) p1 p2
  unfold rowA
  exact sumB_c (fun j _ _ => by rw [adP_o (fun z => hi z.1)])
theorem cA_le {b : Int → Int} {s : PST} (h : GS b s) : cA s.2 ≤ 56 := by
  have r : ∀ p, 0 ≤ p → p < 8 → rowA s.2 p ≤ 7 := fun p p1 p2 => by
    have := sum_lt (f := fun q => if s.2 p q = true then 1 else 0) (h := fun _ => 1) (q := p) 8 0 0 0 0 (fun j j1 j2 => by
      by_cases w : j = p
      · have : s.2 p j = false := by
          apply ff
          intro z
          have := h.1 p j z
          rw [w] at this
          have a := this.1.2.2
          have c := this.2.2.2
          omega
        rw [if_neg (tf this), if_pos w]; decide
      · rw [if_neg w]
        by_cases z : s.2 p j = true
        · rw [if_pos z]; decide
        · rw [if_neg z]; decide) (by decide)
    rw [if_pos (by omega)] at this
    have this : rowA s.2 p + 0 + 1 ≤ 8 := this
    omega
  have := sum_lt (f := rowA s.2) (h := fun _ => 7) (q := -1) 8 0 0 0 0 (fun j j1 j2 => by
    rw [if_neg (by omega)]
    have := r j j1 (by omega)
    omega) (by decide)
  rw [if_neg (by omega)] at this
  have this : cA s.2 + 0 + 0 ≤ 56 := this
  omega
theorem asS_c {b : Int → Int} {p : Int} {s : PST} (h0 : 0 ≤ b 2) (h2 : b 2 ≤ 8) (hp : sgt b p) : asS b p s = s ∨ cA (asS b p s).2 = cA s.2 + 1 := by
  rcases nx_r (b := b) (p := p) (P := s.2 p) h0 with ⟨e, -⟩ | ⟨q1, q2, q3⟩
  · exact Or.inl (asS_n e)
  · refine Or.inr ?_
    rw [asS_2 (by have := q1.1; omega)]
    exact cA_ad hp.1 (by have := hp.2.1; omega) q1.1 (by have := q1.2.1; omega) q2

