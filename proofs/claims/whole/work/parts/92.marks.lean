/-! ===== mark ===== -/
theorem Inv_ex {M : KM} (hI : Inv M) : ∃ (L : Nat) (b : Int → Int), Ptr M L ∧ M = cs M b ∧ LOK M L b ∧ CR M L b ∧ M.1 0 15 = M.1 227 0 := by
  obtain ⟨L, b, h1, h2, h3, h4, h5⟩ := hI
  refine ⟨L, b, h1, ?_, h3, h4, h5⟩
  refine Prod.ext ?_ rfl
  funext a k
  simp only [cs]
  by_cases w : a = 232
  · rw [if_pos w, w]; exact h2 k
  · rw [if_neg w]
theorem cs_row {M N : KM} {b : Int → Int} (h : M = cs M b) (hN : ∀ k, N.1 232 k = M.1 232 k) : N = cs N b := by
  refine Prod.ext ?_ rfl
  funext a k
  simp only [cs]
  by_cases w : a = 232
  · rw [if_pos w, w, hN, h]; simp only [cs, if_true]
  · rw [if_neg w]
/-- a refused call, at the level of states -/
theorem st_no {M : KM} {L : Nat} {b : Int → Int} {s : Int32} (hP : Ptr M L) (hM : M = cs M b) (hL : LOK M L b) (hC : CR M L b) : Inv (cs (uI (uI (uI M 0 15 s) 227 1 (zI 0)) 227 0 s) b) := by
  have hq := Ptr_P hP
  have hl := Ptr_L hP
  have hh := hL.2.2.1.1
  unfold WH at hh
  have o : ∀ a k, ¬ (a = 0 ∧ k = 15) → ¬ (a = 227 ∧ (k = 0 ∨ k = 1)) → (cs (uI (uI (uI M 0 15 s) 227 1 (zI 0)) 227 0 s) b).1 a k = M.1 a k := fun a k h1 h2 => by
    by_cases w : a = 232
    · rw [w, hM]; simp only [cs, if_true]
    · rw [cs_o w, uI_o (by omega), uI_o (by omega), uI_o (by omega)]
  refine ⟨L, b, hP, fun k => ?_, LOK_of (fun a k x y => o a k (by omega) (by omega)) (fun a k x y => o a k (by omega) (by omega)) hL, CR_of (M := M) ⟨by omega, by omega⟩ hq.1 (fun a k x => ?_) (fun a k x => rfl) rfl (fun _ _ _ => rfl) rfl rfl hC, ?_⟩
  · simp only [cs, if_true]
  · have w := KI_out hq x
    unfold KI at x
    exact o a k w.2.2.2 (by omega)
  · rw [cs_o (by omega), cs_o (by omega), uI_o (by omega), uI_o (by omega), uI_s, uI_s]
theorem LOK_01 {M : KM} {L : Nat} {b : Int → Int} (h : LOK M L b) : ∀ p, p < 8 → (M.1 (L + 14 + 3 * p) 3 = zI 0 ∨ M.1 (L + 14 + 3 * p) 3 = zI 1) ∧ (M.1 (L + 14 + 3 * p) 4 = zI 0 ∨ M.1 (L + 14 + 3 * p) 4 = zI 1) := fun p hp => by
  have := h.2.1.2.2.2 (p : Int) (by omega) (by omega)
  simp only [pg, Int.toNat_natCast] at this
  have f : ∀ x : Int32, (x.toInt = 0 ∨ x.toInt = 1) → x = zI 0 ∨ x = zI 1 := fun x h => by
    rcases h with h | h
    · exact Or.inl (by rw [z_of x, h])
    · exact Or.inr (by rw [z_of x, h])
  exact ⟨f _ this.1, f _ this.2⟩
theorem k_mark (n : Nat) (hn : 800 ≤ n) : OKm (f_X11_mark n 0) (f_X12_mark n 227) := by
  intro M hI
  obtain ⟨L, b, hP, hM, hL, hC, hs⟩ := Inv_ex hI
  have hq := Ptr_P hP
  have hl := Ptr_L hP
  have hP2 := hP
  unfold Ptr at hP2
  have hC0 := hC
  obtain ⟨c1, c2, ⟨mk, c3, c4, c5, c6, c7⟩, c8, c9, c10, c11, c12, c13, c14, c15, c16, c17⟩ := hC
  by_cases w : mk < 3
  · have hh := hL.2.2.1.1
    unfold WH at hh
    have hi : b 0 ≤ 8 ∧ b 2 ≤ 8 ∧ 0 ≤ b 9 ∧ b 9 ≤ 1 ∧ 0 ≤ b 2 := by omega
    clear hh
    have z01 : ∀ v : Int, 0 ≤ v → v ≤ 1 → zI v = zI 0 ∨ zI v = zI 1 := fun v h1 h2 => by
      have : v = 0 ∨ v = 1 := by omega
      rcases this with e | e
      · exact Or.inl (by rw [e])
      · exact Or.inr (by rw [e])
    have h15 : M.1 L 15 = zI 0 ∨ M.1 L 15 = zI 1 := by
      rw [show M.1 L 15 = zI (b 9) from hL.1.2.2.2.2.2.2.2.1]
      exact z01 _ hi.2.2.1 hi.2.2.2.1
    have h7 : M.1 (M.2.2 L 7) 7 = zI 0 ∨ M.1 (M.2.2 L 7) 7 = zI 1 := by
      obtain ⟨j, p1, p2, p3, p4, p5, p6, p7, p8, p9, p10⟩ := c2
      rw [p9]; exact z01 _ p5 p6
    have hD : M.2.2 (113 + 38 * mk.toNat) 7 = 113 + 38 * mk.toNat + 8 := by
      have : mk = 0 ∨ mk = 1 ∨ mk = 2 := by omega
      rcases this with e | e | e
      · subst e; exact hP2.2.2.2.2.2.2.2.2.1
      · subst e; exact hP2.2.2.2.2.2.2.2.2.2.1
      · subst e; exact hP2.2.2.2.2.2.2.2.2.2.2.1
    have hap : apt (113 + 38 * mk.toNat) L (113 + 38 * mk.toNat + 8) (M.2.2 L 7) := by
      unfold apt
      omega
    obtain ⟨N, e1, hCo⟩ := c_landCopy (n := n) hap hD rfl h15 h7 (LOK_01 hL) (by omega)
    have lok := LCo_LOK hCo hL
    have lnm := LCo_NM hCo hi.1 hi.2.1 c1
    have lpr : PR N (121 + 38 * mk.toNat) b := by
      rw [show 121 + 38 * mk.toNat = 113 + 38 * mk.toNat + 8 by omega]
      exact LCo_PR hCo c2
    obtain ⟨d1, d2, d3, -, -, -, -, d8, -, -⟩ := hCo
    have fN : ∀ a k, ¬ (113 + 38 * mk.toNat ≤ a ∧ a < 113 + 38 * mk.toNat + 38) → N.1 a k = M.1 a k := fun a k h => d2 a k (by omega) (by omega) (by omega)
    have fJ : ∀ a k, ¬ (113 + 38 * mk.toNat ≤ a ∧ a < 113 + 38 * mk.toNat + 38) → N.2.1 a k = M.2.1 a k := fun a k h => d3 a k (by omega) (by omega)
    let M1 := uI (uI N 0 14 (zI (mk + 1))) 0 15 (zI 0)
    have m1 : ∀ a k, ¬ (113 + 38 * mk.toNat ≤ a ∧ a < 113 + 38 * mk.toNat + 38) → ¬ (a = 0 ∧ (k = 14 ∨ k = 15)) → M1.1 a k = M.1 a k := fun a k h1 h2 => by
      show (uI (uI N 0 14 (zI (mk + 1))) 0 15 (zI 0)).1 a k = _
      rw [uI_o (by omega), uI_o (by omega)]; exact fN a k h1
    have hM1 : M1 = cs M1 b := cs_row hM (fun k => m1 232 k (by omega) (by omega))
    let X := uI (uI (uI M1 227 1 (zI 0)) 227 0 (zI 0)) 227 24 (zI (mk + 1))
    let W : Int → Int64 := fun z => X.2.1 235 z.toNat
    let Y := jw X (cpW W 0 (mk + 1))
    have eX : X = jw X W := jw_ex X
    have e2 := m_copy (b := b) (W := W) (p := 0) (q := mk + 1) (n := n) (X := X) (by omega) (by omega) (by omega) (by omega) (by omega) (by omega)
    rw [← eX] at e2
    have y1 : ∀ a k, ¬ a = 227 → ¬ a = 232 → (cs Y (cpB b 0 (mk + 1))).1 a k = M1.1 a k := fun a k h1 h2 => by
      rw [cs_o h2]
      show (uI (uI (uI M1 227 1 (zI 0)) 227 0 (zI 0)) 227 24 (zI (mk + 1))).1 a k = _
      rw [uI_o (by omega), uI_o (by omega), uI_o (by omega)]
    have y227 : ∀ k, ¬ k = 0 → ¬ k = 1 → ¬ k = 24 → (cs Y (cpB b 0 (mk + 1))).1 227 k = M.1 227 k := fun k h1 h2 h3 => by
      rw [cs_o (by omega)]
      show (uI (uI (uI M1 227 1 (zI 0)) 227 0 (zI 0)) 227 24 (zI (mk + 1))).1 227 k = _
      rw [uI_o (by omega), uI_o (by omega), uI_o (by omega)]
      exact m1 _ _ (by omega) (by omega)
    have y2 : ∀ a k, ¬ a = 227 → ¬ a = 232 → ¬ (113 + 38 * mk.toNat ≤ a ∧ a < 113 + 38 * mk.toNat + 38) → ¬ (a = 0 ∧ (k = 14 ∨ k = 15)) → (cs Y (cpB b 0 (mk + 1))).1 a k = M.1 a k := fun a k h1 h2 h3 h4 => by rw [y1 a k h1 h2, m1 a k h3 h4]
    have yN : ∀ a k, ¬ a = 227 → ¬ a = 232 → ¬ a = 0 → (cs Y (cpB b 0 (mk + 1))).1 a k = N.1 a k := fun a k h1 h2 h3 => by
      rw [y1 a k h1 h2]
      show (uI (uI N 0 14 (zI (mk + 1))) 0 15 (zI 0)).1 a k = _
      rw [uI_o (by omega), uI_o (by omega)]
    have yJ : ∀ a k, ¬ a = 235 → (cs Y (cpB b 0 (mk + 1))).2.1 a k = N.2.1 a k := fun a k h => jw_o h
    have yJM : ∀ a k, ¬ a = 235 → ¬ (113 + 38 * mk.toNat ≤ a ∧ a < 113 + 38 * mk.toNat + 38) → (cs Y (cpB b 0 (mk + 1))).2.1 a k = M.2.1 a k := fun a k h h2 => by rw [yJ a k h, fJ a k h2]
    have wM : ∀ z, 0 ≤ z → W z = M.2.1 235 z.toNat := fun z _ => fJ 235 _ (by omega)
    have y24 : Y.1 227 24 = zI (mk + 1) := by
      show (uI (uI (uI M1 227 1 (zI 0)) 227 0 (zI 0)) 227 24 (zI (mk + 1))).1 227 24 = _
      exact uI_s
    have yW : ∀ z : Int, 0 ≤ z → (cs Y (cpB b 0 (mk + 1))).2.1 235 z.toNat = cpW W 0 (mk + 1) z := fun z h => jw_s h
    have b0 : ∀ z, z < 562 * (mk + 1) → cpB b 0 (mk + 1) z = b z := fun z h => if_neg (by omega)
    have b9 : ∀ z, 562 * (mk + 1) + 562 ≤ z → cpB b 0 (mk + 1) z = b z := fun z h => if_neg (by omega)
    have w0 : ∀ z, z < 16 * (mk + 1) → cpW W 0 (mk + 1) z = W z := fun z h => if_neg (by omega)
    refine ⟨zI (mk + 1), M1, cs Y (cpB b 0 (mk + 1)), ?_, ?_, L, cpB b 0 (mk + 1), ?_, fun k => ?_, ?_, ?_, ?_⟩
    · have n14 : N.1 0 14 = zI mk := by rw [fN 0 14 (by omega)]; exact c5
      have hp0 : M.2.2 0 10 = L := hP2.1
      have es : (0 : Nat) + 3 + 110 + 38 * mk.toNat = 113 + 38 * mk.toNat := by omega
      unfold f_X11_mark
      simp (disch := first | omega | assumption) only [↓lt, zl, c5, zltT, if_true, ixT, zidx, es, hp0, e1, Option.bind_some, n14, zadd, f_X11_tell, uI_s]
      rfl
    · have e24 : M1.1 227 24 = zI mk := by rw [m1 _ _ (by omega) (by omega)]; exact c6
      rw [hM1]
      unfold f_X12_mark
      have x24 : (uI (uI M1 227 1 (zI 0)) 227 0 (zI 0)).1 227 24 = zI mk := by rw [uI_o (by omega), uI_o (by omega)]; exact e24
      have e2 : f_X12_copy n 227 (zI 0) (zI (mk + 1)) (cs (uI (uI (uI M1 227 1 (zI 0)) 227 0 (zI 0)) 227 24 (zI (mk + 1))) b) = some (cs Y (cpB b 0 (mk + 1))) := e2
      simp (disch := first | omega | assumption) only [↓lt, zl, cu_o, cs_o, x24, zeqF, if_false, zadd, uI_s, e2, Option.bind_some, y24]
    · unfold Ptr
      have : (cs Y (cpB b 0 (mk + 1))).2.2 = M.2.2 := d1
      rw [this]; exact hP2
    · simp only [cs, if_true]
    · exact LOK_c (fun z u v => b0 z (by omega)) (LOK_of (fun a k x y => y2 a k (by omega) (by omega) (by omega) (by omega)) (fun a k x y => y2 a k (by omega) (by omega) (by omega) (by omega)) hL)
    · have p22 : (cs Y (cpB b 0 (mk + 1))).2.2 = M.2.2 := d1
      refine ⟨?_, ?_, ⟨mk + 1, by omega, by omega, ?_, ?_, fun i i0 i2 => ?_⟩, ?_, fun k hk => ?_, ?_, ?_, ?_, ?_, fun t ht ht2 => ?_, ?_, fun l hl2 hl3 p hp => ?_, fun k hk => ?_⟩
      · refine NM_c (w := fun z => M.2.1 235 z.toNat) (fun z u v => b0 z (by omega)) (fun z u v => ?_) hi.1 hi.2.1 (NM_of (fun a k x y => yJM a k (by omega) (by omega)) (fun _ => rfl) rfl rfl hi.2.1 c1)
        show (cs Y (cpB b 0 (mk + 1))).2.1 235 z.toNat = _
        rw [yW z u, w0 z (by omega), wM z u]
      · rw [p22]
        exact PR_c (fun z u v => b0 z (by omega)) (PR_of (fun a k x y => y2 a k (by omega) (by omega) (by omega) (by omega)) (fun _ _ _ => rfl) rfl rfl c2)
      · rw [y1 _ _ (by omega) (by omega)]
        show (uI (uI N 0 14 (zI (mk + 1))) 0 15 (zI 0)).1 0 14 = _
        rw [uI_o (by omega), uI_s]
      · rw [cs_o (by omega)]
        exact y24
      · by_cases y : i = mk
        · subst y
          have bs : ∀ z, 0 ≤ z → z < 562 → sh (cpB b 0 (i + 1)) (562 * (i + 1)) z = b z := fun z u v => by
            unfold sh cpB
            rw [if_pos ⟨u, v⟩, if_pos (by omega)]
            congr 1; omega
          refine ⟨LOK_c bs (LOK_of (fun a k x y => yN a k (by omega) (by omega) (by omega)) (fun a k x y => yN a k (by omega) (by omega) (by omega)) lok), NM_c (w := fun z => M.2.1 235 z.toNat) bs (fun z u v => ?_) hi.1 hi.2.1 (NM_of (fun a k x y => yJ a k (by omega)) (fun _ => rfl) rfl rfl hi.2.1 lnm), PR_c bs (PR_of (fun a k x y => yN a k (by omega) (by omega) (by omega)) (fun _ _ _ => rfl) rfl rfl lpr)⟩
          show (cs Y (cpB b 0 (i + 1))).2.1 235 (16 * (i + 1) + z).toNat = M.2.1 235 z.toNat
          rw [yW _ (by omega)]
          unfold cpW
          rw [if_pos (by omega), show 16 * (i + 1) + z - 16 * (i + 1) + 16 * 0 = z by omega, wM z u]
        · obtain ⟨k1, k2, k3⟩ := c7 i i0 (by omega)
          have bs : ∀ z, 0 ≤ z → z < 562 → sh (cpB b 0 (mk + 1)) (562 * (i + 1)) z = sh b (562 * (i + 1)) z := fun z u v => by
            unfold sh
            rw [if_pos ⟨u, v⟩, if_pos ⟨u, v⟩]
            exact b0 _ (by omega)
          have kk := k1.2.2.1.1
          unfold WH at kk
          refine ⟨LOK_c bs (LOK_of (fun a k x y => y2 a k (by omega) (by omega) (by omega) (by omega)) (fun a k x y => y2 a k (by omega) (by omega) (by omega) (by omega)) k1), NM_c (w := fun z => M.2.1 235 (16 * (i + 1) + z).toNat) bs (fun z u v => ?_) (by omega) (by omega) (NM_of (fun a k x y => yJM a k (by omega) (by omega)) (fun _ => rfl) rfl rfl (by omega) k2), PR_c bs (PR_of (fun a k x y => y2 a k (by omega) (by omega) (by omega) (by omega)) (fun _ _ _ => rfl) rfl rfl k3)⟩
          show (cs Y (cpB b 0 (mk + 1))).2.1 235 (16 * (i + 1) + z).toNat = M.2.1 235 (16 * (i + 1) + z).toNat
          rw [yW _ (by omega), w0 _ (by omega), wM _ (by omega)]
      · obtain ⟨tp, t1, t2, t3, t4⟩ := c8
        exact ⟨tp, t1, t2, by rw [y2 _ _ (by omega) (by omega) (by omega) (by omega)]; exact t3, by rw [y227 _ (by omega) (by omega) (by omega)]; exact t4⟩
      · rw [y2 231 _ (by omega) (by omega) (by omega) (by omega), y2 2 _ (by omega) (by omega) (by omega) (by omega)]; exact c9 k hk
      · rw [y227 _ (by omega) (by omega) (by omega), y2 0 _ (by omega) (by omega) (by omega) (by omega)]; exact c10
      · rw [y227 _ (by omega) (by omega) (by omega), y2 0 _ (by omega) (by omega) (by omega) (by omega)]; exact c11
      · rw [yJM 227 _ (by omega) (by omega), yJM 0 _ (by omega) (by omega)]; exact c12
      · rw [yJM 227 _ (by omega) (by omega), yJM 0 _ (by omega) (by omega)]; exact c13
      · obtain ⟨s, m, k1, k2, k3, k4, k5, k6, k7, k8, k9⟩ := c14 t ht ht2
        refine ⟨s, m, k1, k2, k3, k4, ?_, ?_, ?_, ?_, fun k x y => ?_⟩
        · rw [y2 _ _ (by omega) (by omega) (by omega) (by omega)]; exact k5
        · rw [y2 _ _ (by omega) (by omega) (by omega) (by omega)]; exact k6
        · rw [y2 _ _ (by omega) (by omega) (by omega) (by omega)]; exact k7
        · rw [y2 _ _ (by omega) (by omega) (by omega) (by omega)]; exact k8
        · rw [yJM _ _ (by omega) (by omega), yJM 230 _ (by omega) (by omega)]; exact k9 k x y
      · rcases c15 with ⟨k1, k2⟩ | ⟨k1, ⟨v, k2, k3, k4⟩, k5⟩
        · exact Or.inl ⟨by rw [y227 _ (by omega) (by omega) (by omega)]; exact k1, by rw [y2 _ _ (by omega) (by omega) (by omega) (by omega)]; exact k2⟩
        · exact Or.inr ⟨by rw [y227 _ (by omega) (by omega) (by omega)]; exact k1, ⟨v, k2, k3, by rw [y2 _ _ (by omega) (by omega) (by omega) (by omega)]; exact k4⟩, fun k hk => by rw [y2 243 _ (by omega) (by omega) (by omega) (by omega), y2 4 _ (by omega) (by omega) (by omega) (by omega)]; exact k5 k hk⟩
      · by_cases y : l = 113 + 38 * mk.toNat
        · have d := (d8 p hp).1
          rw [yN _ _ (by omega) (by omega) (by omega), yN _ _ (by omega) (by omega) (by omega), y, d 3 (by omega) (by omega), d 4 (by omega) (by omega)]
          exact LOK_01 hL p hp
        · rw [y2 _ _ (by omega) (by omega) (by omega) (by omega), y2 _ _ (by omega) (by omega) (by omega) (by omega)]
          exact c16 l hl2 hl3 p hp
      · rw [yJM 6 _ (by omega) (by omega), yJM 9 _ (by omega) (by omega)]; exact c17 k hk
    · rw [y1 _ _ (by omega) (by omega)]
      rw [show M1.1 0 15 = zI 0 from uI_s, cs_o (by omega)]
      show _ = (uI (uI (uI M1 227 1 (zI 0)) 227 0 (zI 0)) 227 24 (zI (mk + 1))).1 227 0
      rw [uI_o (by omega), uI_s]
  · have : mk = 3 := by omega
    subst this
    refine ⟨zI (-1), uI M 0 15 (zI 7), cs (uI (uI (uI M 0 15 (zI 7)) 227 1 (zI 0)) 227 0 (zI 7)) b, ?_, ?_, st_no hP hM hL hC0⟩
    · unfold f_X11_mark
      simp (disch := first | omega | assumption) only [↓lt, zl, c5, zltF, if_false, f_X11_refuse, zneg, Int.reduceNeg]
    · have e : uI M 0 15 (zI 7) = cs (uI M 0 15 (zI 7)) b := cs_row hM (fun k => uI_o (by omega))
      have x24 : (uI (uI (uI M 0 15 (zI 7)) 227 1 (zI 0)) 227 0 (zI 0)).1 227 24 = zI 3 := by rw [uI_o (by omega), uI_o (by omega), uI_o (by omega)]; exact c6
      rw [e]
      unfold f_X12_mark
      rw [← e]
      simp (disch := first | omega | assumption) only [↓lt, zl, cu_o, cs_o, x24, zeqT, if_true, f_X12_refuse, zneg, Int.reduceNeg, uI_tw]
      rw [e]
      simp (disch := first | omega | assumption) only [↓lt, zl, cu_o, cs_o, uI_tw, cs_cs]
