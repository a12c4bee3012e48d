/-! ===== clouds ===== -/
theorem CR_fr {M M' : KM} {L : Nat} {b b' : Int → Int} (hb : 0 ≤ b 2 ∧ b 2 ≤ 8) (hL : L = 23 ∨ L = 61) (h1 : ∀ a k, KI L (M.2.2 L 7) a k → M'.1 a k = M.1 a k) (h2 : ∀ a k, KJ L a k → ¬ (a = 0 ∧ (k = 18 ∨ k = 19)) → ¬ (a = 227 ∧ (k = 2 ∨ k = 3)) → M'.2.1 a k = M.2.1 a k) (hf : M'.2.1 227 2 = M'.2.1 0 18) (hf2 : M'.2.1 227 3 = M'.2.1 0 19) (h3 : M'.2.2 L 7 = M.2.2 L 7) (h4 : ∀ z, 290 ≤ z → z < 2248 → b' z = b z) (h5 : b' 0 = b 0) (h6 : b' 2 = b 2) (h : CR M L b) : CR M' L b' := by
  obtain ⟨a1, a2, ⟨mk, a3, a4, a5, a6, a7⟩, ⟨tp, a8, a9, a10, a11⟩, a12, a13, a14, a15, a16, a17, a18, a19, a20⟩ := h
  refine ⟨?_, ?_, ⟨mk, a3, a4, ?_, ?_, fun i hi hi2 => ?_⟩, ⟨tp, a8, a9, ?_, ?_⟩, fun k hk => ?_, ?_, ?_, ?_, ?_, fun t ht ht2 => ?_, ?_, fun l hl hl2 p hp => ?_, fun k hk => ?_⟩
  · exact NM_of (fun a k x y => h2 a k (by unfold KJ; omega) (by omega) (by omega)) (fun z => h2 235 _ (by unfold KJ; omega) (by omega) (by omega)) h5 h6 hb.2 a1
  · rw [h3]; exact PR_of (fun a k x y => h1 a k (by unfold KI; omega)) (fun z x y => h4 z x (by omega)) h5 h6 a2
  · rw [h1 _ _ (by unfold KI; omega)]; exact a5
  · rw [h1 _ _ (by unfold KI; omega)]; exact a6
  · obtain ⟨c1, c2, c3⟩ := a7 i hi hi2
    have e : sh b' (562 * (i + 1)) = sh b (562 * (i + 1)) := by
      funext z
      simp only [sh]
      by_cases x : 0 ≤ z ∧ z < 562
      · rw [if_pos x, if_pos x]; exact h4 _ (by omega) (by omega)
      · rw [if_neg x, if_neg x]
    have e0 := c1.2.2.1.1
    unfold WH at e0
    rw [e]
    exact ⟨LOK_of (fun a k x y => h1 a k (by unfold KI; omega)) (fun a k x y => h1 a k (by unfold KI; omega)) c1, NM_of (fun a k x y => h2 a k (by unfold KJ; omega) (by omega) (by omega)) (fun z => h2 235 _ (by unfold KJ; omega) (by omega) (by omega)) rfl rfl (by omega) c2, PR_of (fun a k x y => h1 a k (by unfold KI; omega)) (fun z _ _ => rfl) rfl rfl c3⟩
  · rw [h1 _ _ (by unfold KI; omega)]; exact a10
  · rw [h1 _ _ (by unfold KI; omega)]; exact a11
  · rw [h1 231 _ (by unfold KI; omega), h1 2 _ (by unfold KI; omega)]; exact a12 k hk
  · rw [h1 227 _ (by unfold KI; omega), h1 0 _ (by unfold KI; omega)]; exact a13
  · rw [h1 227 _ (by unfold KI; omega), h1 0 _ (by unfold KI; omega)]; exact a14
  · exact hf
  · exact hf2
  · obtain ⟨s, m, c1, c2, c3, c4, c5, c6, c7, c8, c9⟩ := a17 t ht ht2
    refine ⟨s, m, c1, c2, c3, c4, ?_, ?_, ?_, ?_, fun k x y => ?_⟩
    · rw [h1 _ _ (by unfold KI; omega)]; exact c5
    · rw [h1 _ _ (by unfold KI; omega)]; exact c6
    · rw [h1 _ _ (by unfold KI; omega)]; exact c7
    · rw [h1 _ _ (by unfold KI; omega)]; exact c8
    · rw [h2 _ _ (by unfold KJ; omega) (by omega) (by omega), h2 230 _ (by unfold KJ; omega) (by omega) (by omega)]; exact c9 k x y
  · rcases a18 with ⟨c1, c2⟩ | ⟨c1, ⟨v, c2, c3, c4⟩, c5⟩
    · refine Or.inl ⟨?_, ?_⟩
      · rw [h1 _ _ (by unfold KI; omega)]; exact c1
      · rw [h1 _ _ (by unfold KI; omega)]; exact c2
    · refine Or.inr ⟨?_, ⟨v, c2, c3, ?_⟩, fun k hk => ?_⟩
      · rw [h1 _ _ (by unfold KI; omega)]; exact c1
      · rw [h1 _ _ (by unfold KI; omega)]; exact c4
      · rw [h1 243 _ (by unfold KI; omega), h1 4 _ (by unfold KI; omega)]; exact c5 k hk
  · rw [h1 _ _ (by unfold KI; omega), h1 _ _ (by unfold KI; omega)]; exact a19 l hl hl2 p hp
  · rw [h2 6 _ (by unfold KJ; omega) (by omega) (by omega), h2 9 _ (by unfold KJ; omega) (by omega) (by omega)]; exact a20 k hk

/-- a call that ends in a fraction: both told alike -/
theorem ok_fr {ρ : Type} {c m : KM → Option (ρ × KM)} (h : ∀ M L g b, Opn M L g b → (∃ (r : ρ) (s : Int32), c (ps (cs M b) L g) = some (r, ps (uI (cs M b) 0 15 s) L g) ∧ ∀ X, m (cs X b) = some (r, cs (uI (uI X 227 1 (zI 0)) 227 0 s) b)) ∨ (∃ (r : ρ) (t d : Int64), c (ps (cs M b) L g) = some (r, ps (cs (uI (uJ (uJ M 0 18 t) 0 19 d) 0 15 (zI 0)) b) L g) ∧ ∀ X, ∃ Y, m (cs X b) = some (r, cs (uJ (uJ Y 227 2 t) 227 3 d) b) ∧ Y.1 227 0 = zI 0 ∧ SM X Y)) : OKm c m := by
  intro M hI
  obtain ⟨M0, L, g, b, e, hO, -⟩ := Inv_open hI
  rcases h M0 L g b hO with ⟨r, s, e1, e2⟩ | ⟨r, t, d, e1, e2⟩
  · have hl := Ptr_L hO.1
    have hq := Ptr_P hO.1
    have e3 : ps (uI (cs M0 b) 0 15 s) L g = cs (ps (uI M0 0 15 s) L g) b := by rw [cu_o (by omega), cs_ps hl.2]
    refine ⟨r, _, _, by rw [e]; exact e1, by rw [e3]; exact e2 _, ?_⟩
    rw [pu_o (by omega), pu_o (by omega)]
    refine Inv_close (Opn_sc hO (fun a k x => ?_) (fun a k x y => ?_) (fun a k x => rfl) rfl) ?_
    · have w := KI_out hq x
      unfold KI at x
      rw [uI_o (by omega), uI_o (by omega), uI_o (by omega)]
    · rw [uI_o (by omega), uI_o (by omega), uI_o (by omega)]
    · rw [uI_o (by omega), uI_o (by omega), uI_s, uI_s]
  · have hl := Ptr_L hO.1
    have hq := Ptr_P hO.1
    obtain ⟨Y, e3, e4, e5, e6, e7⟩ := e2 (ps (uI (uJ (uJ M0 0 18 t) 0 19 d) 0 15 (zI 0)) L g)
    refine ⟨r, _, _, by rw [e]; exact e1, by rw [← cs_ps hl.2]; exact e3, ?_⟩
    have hY : ps (uJ (uJ Y 227 2 t) 227 3 d) L g = uJ (uJ Y 227 2 t) 227 3 d := by
      refine Prod.ext ?_ rfl
      funext a k
      by_cases w : L + 14 ≤ a ∧ a < L + 38
      · rw [ps_at w rfl rfl]
        show _ = Y.1 a k
        rw [e7 a k (by omega), ps_at w rfl rfl]
      · rw [ps_o w]
    obtain ⟨a1, a2, a3, a4, a5, a6⟩ := hO
    have hw := a4.1
    unfold WH at hw
    have hc : Inv (cs (ps (uJ (uJ Y 227 2 t) 227 3 d) L g) b) := by
      refine Inv_close ⟨?_, ?_, a3, a4, a5, CR_fr ⟨by omega, by omega⟩ (Ptr_l a1) (M := cs (ps M0 L g) b) (fun a k x => ?_) (fun a k x x2 x3 => ?_) ?_ ?_ ?_ (fun _ _ _ => rfl) rfl rfl a6⟩ ?_
      · unfold Ptr
        rw [show (uJ (uJ Y 227 2 t) 227 3 d).2.2 = M0.2.2 from e5]
        exact a1
      · rw [HL_cs hl.2]
        refine HL_of (fun a k x y => ?_) ((HL_cs hl.2).mp a2)
        show Y.1 a k = _
        rw [e7 a k (by omega), ps_o (by omega), uI_o (by omega)]; rfl
      · have x : KI L (M0.2.2 L 7) a k := x
        have w := KI_out hq x
        rw [cs_o w.2.2.1, cs_o w.2.2.1, ps_o w.1, ps_o w.1]
        have w2 := x
        unfold KI at w2
        show Y.1 a k = _
        rw [e7 a k (by omega), ps_o w.1, uI_o w.2.2.2]; rfl
      · show (uJ (uJ Y 227 2 t) 227 3 d).2.1 a k = M0.2.1 a k
        unfold KJ at x
        rw [uJ_o (by omega), uJ_o (by omega), e6 a k (by omega)]
        show (uJ (uJ M0 0 18 t) 0 19 d).2.1 a k = M0.2.1 a k
        rw [uJ_o (by omega), uJ_o (by omega)]
      · show (uJ (uJ Y 227 2 t) 227 3 d).2.1 227 2 = (uJ (uJ Y 227 2 t) 227 3 d).2.1 0 18
        rw [uJ_o (by omega), uJ_s, uJ_o (by omega), uJ_o (by omega), e6 0 18 (by omega)]
        show _ = (uJ (uJ M0 0 18 t) 0 19 d).2.1 0 18
        rw [uJ_o (by omega), uJ_s]
      · show (uJ (uJ Y 227 2 t) 227 3 d).2.1 227 3 = (uJ (uJ Y 227 2 t) 227 3 d).2.1 0 19
        rw [uJ_s, uJ_o (by omega), uJ_o (by omega), e6 0 19 (by omega)]
        show _ = (uJ (uJ M0 0 18 t) 0 19 d).2.1 0 19
        rw [uJ_s]
      · show Y.2.2 L 7 = M0.2.2 L 7
        rw [e5]; rfl
      · show Y.1 0 15 = Y.1 227 0
        rw [e4, e7 0 15 (by omega), ps_o (by omega), uI_s]
    rw [hY] at hc
    exact hc
