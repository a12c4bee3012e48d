/-! ===== back ===== -/
theorem k_back (n : Nat) (hn : 800 ≤ n) : OKm (f_X11_back n 0) (f_X12_back n 227) := by
  intro M hI
  obtain ⟨L, b, hP, hM, hL, hC, hs⟩ := Inv_ex hI
  have hq := Ptr_P hP
  have hl := Ptr_L hP
  have hP2 := hP
  unfold Ptr at hP2
  have hC0 := hC
  obtain ⟨c1, c2, ⟨mk, c3, c4, c5, c6, c7⟩, c8, c9, c10, c11, c12, c13, c14, c15, c16, c17⟩ := hC
  by_cases w : 1 ≤ mk
  · obtain ⟨sL, sN, sP⟩ := c7 (mk - 1) (by omega) (by omega)
    rw [show 562 * (mk - 1 + 1) = 562 * mk by omega] at sL sN sP
    generalize hsb : sh b (562 * mk) = sb at *
    have hh := sL.2.2.1.1
    unfold WH at hh
    have hi : sb 0 ≤ 8 ∧ sb 2 ≤ 8 ∧ 0 ≤ sb 9 ∧ sb 9 ≤ 1 ∧ 0 ≤ sb 2 := by omega
    clear hh
    have z01 : ∀ v : Int, 0 ≤ v → v ≤ 1 → zI v = zI 0 ∨ zI v = zI 1 := fun v h1 h2 => by
      have : v = 0 ∨ v = 1 := by omega
      rcases this with e | e
      · exact Or.inl (by rw [e])
      · exact Or.inr (by rw [e])
    have sP : PR M (113 + 38 * (mk - 1).toNat + 8) sb := by
      rw [show 113 + 38 * (mk - 1).toNat + 8 = 121 + 38 * (mk - 1).toNat by omega]
      exact sP
    have hS : M.2.2 (113 + 38 * (mk - 1).toNat) 7 = 113 + 38 * (mk - 1).toNat + 8 := by
      have : mk = 1 ∨ mk = 2 ∨ mk = 3 := by omega
      rcases this with e | e | e
      · subst e; exact hP2.2.2.2.2.2.2.2.2.1
      · subst e; exact hP2.2.2.2.2.2.2.2.2.2.1
      · subst e; exact hP2.2.2.2.2.2.2.2.2.2.2.1
    have rS : 113 ≤ 113 + 38 * (mk - 1).toNat ∧ 113 + 38 * (mk - 1).toNat ≤ 189 := by omega
    obtain ⟨S, hS0⟩ : ∃ S, 113 + 38 * (mk - 1).toNat = S := ⟨_, rfl⟩
    rw [hS0] at sL sN sP hS rS
    have eS : (0 : Nat) + 3 + 110 + 38 * (mk - 1).toNat = S := by omega
    have h15 : M.1 S 15 = zI 0 ∨ M.1 S 15 = zI 1 := by
      rw [show M.1 S 15 = zI (sb 9) from sL.1.2.2.2.2.2.2.2.1]
      exact z01 _ hi.2.2.1 hi.2.2.2.1
    have h7 : M.1 (S + 8) 7 = zI 0 ∨ M.1 (S + 8) 7 = zI 1 := by
      obtain ⟨j, p1, p2, p3, p4, p5, p6, p7, p8, p9, p10⟩ := sP
      rw [p9]; exact z01 _ p5 p6
    let M0 := uI M 0 14 (zI (mk - 1))
    have m0 : ∀ a k, ¬ a = 0 → M0.1 a k = M.1 a k := fun a k h => uI_o (by omega)
    have hap : apt L S (M.2.2 L 7) (S + 8) := by
      unfold apt
      omega
    obtain ⟨N, e1, hCo⟩ := c_landCopy (M := M0) (n := n) hap rfl hS (by rw [m0 _ _ (by omega)]; exact h15) (by rw [m0 _ _ (by omega)]; exact h7) (fun p hp => by rw [m0 _ _ (by omega), m0 _ _ (by omega)]; exact LOK_01 sL p hp) (by omega)
    have lok := LCo_LOK hCo (LOK_of (M := M) (fun a k x y => m0 a k (by omega)) (fun a k x y => m0 a k (by omega)) sL)
    have lnm := LCo_NM hCo hi.1 hi.2.1 (w := fun z => M.2.1 235 (16 * mk + z).toNat) (by
      have := NM_of (M := M) (M' := M0) (fun a k x y => rfl) (fun z => by rw [show 16 * mk + z = 16 * (mk - 1 + 1) + z by omega]) rfl rfl hi.2.1 sN (w' := fun z => M.2.1 235 (16 * mk + z).toNat)
      exact this)
    have lpr := LCo_PR hCo (PR_of (M := M) (fun a k x y => m0 a k (by omega)) (fun _ _ _ => rfl) rfl rfl sP)
    obtain ⟨d1, d2, d3, -, -, -, -, d8, -, -⟩ := hCo
    have p6 : ¬ (M.2.2 L 7 ≤ 0) := by omega
    have fN : ∀ a k, ¬ (L ≤ a ∧ a < L + 8) → ¬ (L + 14 ≤ a ∧ a < L + 38) → ¬ (M.2.2 L 7 ≤ a ∧ a < M.2.2 L 7 + 6) → ¬ a = 0 → N.1 a k = M.1 a k := fun a k h1 h2 h3 h4 => by rw [d2 a k h1 h2 h3]; exact m0 a k h4
    have fN0 : ∀ k, ¬ k = 14 → N.1 0 k = M.1 0 k := fun k h => by
      rw [d2 0 k (by omega) (by omega) (by omega)]
      exact uI_o (by omega)
    have fN14 : N.1 0 14 = zI (mk - 1) := by
      rw [d2 0 14 (by omega) (by omega) (by omega)]
      exact uI_s
    have fJ : ∀ a k, ¬ (L ≤ a ∧ a < L + 38) → N.2.1 a k = M.2.1 a k := fun a k h => d3 a k (by omega) (by omega)
    let M1 := uI N 0 15 (zI 0)
    have m1 : ∀ a k, ¬ (L ≤ a ∧ a < L + 8) → ¬ (L + 14 ≤ a ∧ a < L + 38) → ¬ (M.2.2 L 7 ≤ a ∧ a < M.2.2 L 7 + 6) → ¬ a = 0 → M1.1 a k = M.1 a k := fun a k h1 h2 h3 h4 => by
      show (uI N 0 15 (zI 0)).1 a k = _
      rw [uI_o (by omega)]; exact fN a k h1 h2 h3 h4
    have m10 : ∀ k, ¬ k = 14 → ¬ k = 15 → M1.1 0 k = M.1 0 k := fun k h h2 => by
      show (uI N 0 15 (zI 0)).1 0 k = _
      rw [uI_o (by omega)]; exact fN0 k h
    have hM1 : M1 = cs M1 b := cs_row hM (fun k => m1 232 k (by omega) (by omega) (by omega) (by omega))
    let X := uI (uI M1 227 1 (zI 0)) 227 0 (zI 0)
    let W : Int → Int64 := fun z => X.2.1 235 z.toNat
    let Y := uI (jw X (cpW W mk 0)) 227 24 (zI (mk - 1))
    have eX : X = jw X W := jw_ex X
    have e2 := m_copy (b := b) (W := W) (p := mk) (q := 0) (n := n) (X := X) (by omega) (by omega) (by omega) (by omega) (by omega) (by omega)
    rw [← eX] at e2
    have y1 : ∀ a k, ¬ a = 227 → ¬ a = 232 → (cs Y (cpB b mk 0)).1 a k = M1.1 a k := fun a k h1 h2 => by
      rw [cs_o h2]
      show (uI (jw X (cpW W mk 0)) 227 24 (zI (mk - 1))).1 a k = _
      rw [uI_o (by omega)]
      show (uI (uI M1 227 1 (zI 0)) 227 0 (zI 0)).1 a k = _
      rw [uI_o (by omega), uI_o (by omega)]
    have y227 : ∀ k, ¬ k = 0 → ¬ k = 1 → ¬ k = 24 → (cs Y (cpB b mk 0)).1 227 k = M.1 227 k := fun k h1 h2 h3 => by
      rw [cs_o (by omega)]
      show (uI (jw X (cpW W mk 0)) 227 24 (zI (mk - 1))).1 227 k = _
      rw [uI_o (by omega)]
      show (uI (uI M1 227 1 (zI 0)) 227 0 (zI 0)).1 227 k = _
      rw [uI_o (by omega), uI_o (by omega)]
      exact m1 _ _ (by omega) (by omega) (by omega) (by omega)
    have y2 : ∀ a k, ¬ a = 227 → ¬ a = 232 → ¬ (L ≤ a ∧ a < L + 8) → ¬ (L + 14 ≤ a ∧ a < L + 38) → ¬ (M.2.2 L 7 ≤ a ∧ a < M.2.2 L 7 + 6) → ¬ a = 0 → (cs Y (cpB b mk 0)).1 a k = M.1 a k := fun a k h1 h2 h3 h4 h5 h6 => by rw [y1 a k h1 h2, m1 a k h3 h4 h5 h6]
    have y20 : ∀ k, ¬ k = 14 → ¬ k = 15 → (cs Y (cpB b mk 0)).1 0 k = M.1 0 k := fun k h1 h2 => by rw [y1 0 k (by omega) (by omega), m10 k h1 h2]
    have yN : ∀ a k, ¬ a = 227 → ¬ a = 232 → ¬ a = 0 → (cs Y (cpB b mk 0)).1 a k = N.1 a k := fun a k h1 h2 h3 => by
      rw [y1 a k h1 h2]
      show (uI N 0 15 (zI 0)).1 a k = _
      rw [uI_o (by omega)]
    have yJ : ∀ a k, ¬ a = 235 → (cs Y (cpB b mk 0)).2.1 a k = N.2.1 a k := fun a k h => jw_o h
    have yJM : ∀ a k, ¬ a = 235 → ¬ (L ≤ a ∧ a < L + 38) → (cs Y (cpB b mk 0)).2.1 a k = M.2.1 a k := fun a k h h2 => by rw [yJ a k h, fJ a k h2]
    have wM : ∀ z, 0 ≤ z → W z = M.2.1 235 z.toNat := fun z _ => fJ 235 _ (by omega)
    have y24 : Y.1 227 24 = zI (mk - 1) := uI_s
    have yW : ∀ z : Int, 0 ≤ z → (cs Y (cpB b mk 0)).2.1 235 z.toNat = cpW W mk 0 z := fun z h => jw_s h
    have b0 : ∀ z, 562 ≤ z → cpB b mk 0 z = b z := fun z h => if_neg (by omega)
    have bS : ∀ z, 0 ≤ z → z < 562 → cpB b mk 0 z = sb z := fun z u v => by
      rw [← hsb]
      unfold sh cpB
      rw [if_pos ⟨u, v⟩, if_pos (by omega)]
      congr 1; omega
    have w0 : ∀ z, 16 ≤ z → cpW W mk 0 z = W z := fun z h => if_neg (by omega)
    refine ⟨zI (mk - 1), M1, cs Y (cpB b mk 0), ?_, ?_, L, cpB b mk 0, ?_, fun k => ?_, ?_, ?_, ?_⟩
    · have hp0 : M.2.2 0 10 = L := hP2.1
      have e1 : f_X2_copyFrom n L S (uI M 0 14 (zI (mk - 1))) = some N := e1
      unfold f_X11_back
      simp (disch := first | omega | assumption) only [↓lt, zl, c5, zleT, if_true, ixT, zidx, zsub, uI_s, uI_j2, eS, hp0, e1, Option.bind_some, fN14, f_X11_tell]
      rfl
    · have e24 : M1.1 227 24 = zI mk := by rw [m1 _ _ (by omega) (by omega) (by omega) (by omega)]; exact c6
      rw [hM1]
      unfold f_X12_back
      have x24 : (uI (uI M1 227 1 (zI 0)) 227 0 (zI 0)).1 227 24 = zI mk := by rw [uI_o (by omega), uI_o (by omega)]; exact e24
      have e2 : f_X12_copy n 227 (zI mk) (zI 0) (cs (uI (uI M1 227 1 (zI 0)) 227 0 (zI 0)) b) = some (cs (jw X (cpW W mk 0)) (cpB b mk 0)) := e2
      have j24 : (jw X (cpW W mk 0)).1 227 24 = zI mk := x24
      have y24 : (uI (jw X (cpW W mk 0)) 227 24 (zI (mk - 1))).1 227 24 = zI (mk - 1) := uI_s
      simp (disch := first | omega | assumption) only [↓lt, zl, cu_o, cs_o, x24, zeqF, if_false, zsub, e2, Option.bind_some, j24, y24]
      rfl
    · unfold Ptr
      have : (cs Y (cpB b mk 0)).2.2 = M.2.2 := d1
      rw [this]; exact hP2
    · simp only [cs, if_true]
    · exact LOK_c bS (LOK_of (fun a k x y => yN a k (by omega) (by omega) (by omega)) (fun a k x y => yN a k (by omega) (by omega) (by omega)) lok)
    · have p22 : (cs Y (cpB b mk 0)).2.2 = M.2.2 := d1
      refine ⟨?_, ?_, ⟨mk - 1, by omega, by omega, ?_, ?_, fun i i0 i2 => ?_⟩, ?_, fun k hk => ?_, ?_, ?_, ?_, ?_, fun t ht ht2 => ?_, ?_, fun l hl2 hl3 p hp => ?_, fun k hk => ?_⟩
      · refine NM_c (w := fun z => M.2.1 235 (16 * mk + z).toNat) bS (fun z u v => ?_) hi.1 hi.2.1 (NM_of (fun a k x y => yJ a k (by omega)) (fun _ => rfl) rfl rfl hi.2.1 lnm)
        show (cs Y (cpB b mk 0)).2.1 235 z.toNat = M.2.1 235 (16 * mk + z).toNat
        rw [yW z u]
        unfold cpW
        rw [if_pos (by omega), wM _ (by omega), show z - 16 * 0 + 16 * mk = 16 * mk + z by omega]
      · rw [p22]
        exact PR_c bS (PR_of (fun a k x y => yN a k (by omega) (by omega) (by omega)) (fun _ _ _ => rfl) rfl rfl lpr)
      · rw [y1 _ _ (by omega) (by omega)]
        show (uI N 0 15 (zI 0)).1 0 14 = _
        rw [uI_o (by omega)]; exact fN14
      · rw [cs_o (by omega)]
        exact y24
      · obtain ⟨k1, k2, k3⟩ := c7 i i0 (by omega)
        have bs : ∀ z, 0 ≤ z → z < 562 → sh (cpB b mk 0) (562 * (i + 1)) z = sh b (562 * (i + 1)) z := fun z u v => by
          unfold sh
          rw [if_pos ⟨u, v⟩, if_pos ⟨u, v⟩]
          exact b0 _ (by omega)
        have kk := k1.2.2.1.1
        unfold WH at kk
        refine ⟨LOK_c bs (LOK_of (fun a k x y => y2 a k (by omega) (by omega) (by omega) (by omega) (by omega) (by omega)) (fun a k x y => y2 a k (by omega) (by omega) (by omega) (by omega) (by omega) (by omega)) k1), NM_c (w := fun z => M.2.1 235 (16 * (i + 1) + z).toNat) bs (fun z u v => ?_) (by omega) (by omega) (NM_of (fun a k x y => yJM a k (by omega) (by omega)) (fun _ => rfl) rfl rfl (by omega) k2), PR_c bs (PR_of (fun a k x y => y2 a k (by omega) (by omega) (by omega) (by omega) (by omega) (by omega)) (fun _ _ _ => rfl) rfl rfl k3)⟩
        show (cs Y (cpB b mk 0)).2.1 235 (16 * (i + 1) + z).toNat = M.2.1 235 (16 * (i + 1) + z).toNat
        rw [yW _ (by omega), w0 _ (by omega), wM _ (by omega)]
      · obtain ⟨tp, t1, t2, t3, t4⟩ := c8
        exact ⟨tp, t1, t2, by rw [y20 _ (by omega) (by omega)]; exact t3, by rw [y227 _ (by omega) (by omega) (by omega)]; exact t4⟩
      · rw [y2 231 _ (by omega) (by omega) (by omega) (by omega) (by omega) (by omega), y2 2 _ (by omega) (by omega) (by omega) (by omega) (by omega) (by omega)]; exact c9 k hk
      · rw [y227 _ (by omega) (by omega) (by omega), y20 _ (by omega) (by omega)]; exact c10
      · rw [y227 _ (by omega) (by omega) (by omega), y20 _ (by omega) (by omega)]; exact c11
      · rw [yJM 227 _ (by omega) (by omega), yJM 0 _ (by omega) (by omega)]; exact c12
      · rw [yJM 227 _ (by omega) (by omega), yJM 0 _ (by omega) (by omega)]; exact c13
      · obtain ⟨s, m, k1, k2, k3, k4, k5, k6, k7, k8, k9⟩ := c14 t ht ht2
        refine ⟨s, m, k1, k2, k3, k4, ?_, ?_, ?_, ?_, fun k x y => ?_⟩
        · rw [y2 _ _ (by omega) (by omega) (by omega) (by omega) (by omega) (by omega)]; exact k5
        · rw [y2 _ _ (by omega) (by omega) (by omega) (by omega) (by omega) (by omega)]; exact k6
        · rw [y2 _ _ (by omega) (by omega) (by omega) (by omega) (by omega) (by omega)]; exact k7
        · rw [y2 _ _ (by omega) (by omega) (by omega) (by omega) (by omega) (by omega)]; exact k8
        · rw [yJM _ _ (by omega) (by omega), yJM 230 _ (by omega) (by omega)]; exact k9 k x y
      · rcases c15 with ⟨k1, k2⟩ | ⟨k1, ⟨v, k2, k3, k4⟩, k5⟩
        · exact Or.inl ⟨by rw [y227 _ (by omega) (by omega) (by omega)]; exact k1, by rw [y2 _ _ (by omega) (by omega) (by omega) (by omega) (by omega) (by omega)]; exact k2⟩
        · exact Or.inr ⟨by rw [y227 _ (by omega) (by omega) (by omega)]; exact k1, ⟨v, k2, k3, by rw [y2 _ _ (by omega) (by omega) (by omega) (by omega) (by omega) (by omega)]; exact k4⟩, fun k hk => by rw [y2 243 _ (by omega) (by omega) (by omega) (by omega) (by omega) (by omega), y2 4 _ (by omega) (by omega) (by omega) (by omega) (by omega) (by omega)]; exact k5 k hk⟩
      · rw [y2 _ _ (by omega) (by omega) (by omega) (by omega) (by omega) (by omega), y2 _ _ (by omega) (by omega) (by omega) (by omega) (by omega) (by omega)]
        exact c16 l hl2 hl3 p hp
      · rw [yJM 6 _ (by omega) (by omega), yJM 9 _ (by omega) (by omega)]; exact c17 k hk
    · rw [y1 _ _ (by omega) (by omega)]
      rw [show M1.1 0 15 = zI 0 from uI_s, cs_o (by omega)]
      show _ = (uI (jw X (cpW W mk 0)) 227 24 (zI (mk - 1))).1 227 0
      rw [uI_o (by omega)]
      show _ = (uI (uI M1 227 1 (zI 0)) 227 0 (zI 0)).1 227 0
      exact uI_s.symm
  · have : mk = 0 := by omega
    subst this
    refine ⟨zI (-1), uI M 0 15 (zI 8), cs (uI (uI (uI M 0 15 (zI 8)) 227 1 (zI 0)) 227 0 (zI 8)) b, ?_, ?_, st_no hP hM hL hC0⟩
    · unfold f_X11_back
      simp (disch := first | omega | assumption) only [↓lt, zl, c5, zleF, if_false, f_X11_refuse, zneg, Int.reduceNeg]
    · have e : uI M 0 15 (zI 8) = cs (uI M 0 15 (zI 8)) b := cs_row hM (fun k => uI_o (by omega))
      have x24 : (uI (uI (uI M 0 15 (zI 8)) 227 1 (zI 0)) 227 0 (zI 0)).1 227 24 = zI 0 := by rw [uI_o (by omega), uI_o (by omega), uI_o (by omega)]; exact c6
      rw [e]
      unfold f_X12_back
      rw [← e]
      simp (disch := first | omega | assumption) only [↓lt, zl, cu_o, cs_o, x24, zeqT, if_true, f_X12_refuse, zneg, Int.reduceNeg, uI_tw]
      rw [e]
      simp (disch := first | omega | assumption) only [↓lt, zl, cu_o, cs_o, uI_tw, cs_cs]
