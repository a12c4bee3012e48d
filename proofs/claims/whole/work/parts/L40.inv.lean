/-! ===== the first memory keeps what stands between the calls ===== -/
theorem kwF_kwd : ∀ k, k < 26 → kwF k = kwd k := by decide +kernel
theorem em_0 {z : Int} (h : 90 ≤ z) : emB z = 0 := by
  unfold emB
  rw [if_neg (by omega), if_neg (by omega), if_neg (by omega), if_neg (by omega), if_neg (by omega), if_neg (by omega), if_neg (by omega), if_neg (by omega)]
theorem M00_cs : cs M00 (fun _ => 0) = M00 := by
  refine Prod.ext (funext fun a => ?_) rfl
  show (if a = 232 then (fun _ => zI 0) else M00.1 a) = M00.1 a
  by_cases c : a = 232
  · subst c
    rw [if_pos rfl]
    show _ = i0 (kty 232) 232
    rw [kt_232]
    exact funext fun _ => (show zI 0 = (0 : Int32) by decide +kernel)
  · rw [if_neg c]
theorem m1_at {b : Int → Int} {a k : Nat} (h : a ≠ 232) : (cs M00 b).1 a k = i0 (kty a) a k := by
  show (if a = 232 then (fun k : Nat => zI (b k)) else M00.1 a) k = _
  rw [if_neg h]
  rfl
theorem j0_24 (w : Nat → Int64) : j0 w 24 = w := rfl
theorem M00_j {b : Int → Int} {a k : Nat} : (cs M00 b).2.1 a k = j0 kwF (kty a) k := by
  have e : (cs M00 b).2 = M00.2 := rfl
  rw [e]
  unfold M00
  rfl
theorem tr_0 : ∀ q, q < 4 → i0 (kty (1 + 104 + 2 * q)) (1 + 104 + 2 * q) 1 = zI 0 ∧ i0 (kty 228) 228 q = zI 0 ∧ i0 (kty (1 + 104 + 2 * q)) (1 + 104 + 2 * q) 2 = zI (-1) ∧ i0 (kty 229) 229 q = zI (-1) := by decide +kernel
theorem pe_0 : ∀ q, q < 8 → ∀ l, l = 23 ∨ l = 61 ∨ l = 113 ∨ l = 151 ∨ l = 189 → i0 (kty (l + 14 + 3 * q)) (l + 14 + 3 * q) 3 = zI 0 ∧ i0 (kty (l + 14 + 3 * q)) (l + 14 + 3 * q) 4 = zI 0 := by
  have h : ∀ q, q < 8 → (i0 (kty (23 + 14 + 3 * q)) (23 + 14 + 3 * q) 3 = zI 0 ∧ i0 (kty (23 + 14 + 3 * q)) (23 + 14 + 3 * q) 4 = zI 0) ∧ (i0 (kty (61 + 14 + 3 * q)) (61 + 14 + 3 * q) 3 = zI 0 ∧ i0 (kty (61 + 14 + 3 * q)) (61 + 14 + 3 * q) 4 = zI 0) ∧ (i0 (kty (113 + 14 + 3 * q)) (113 + 14 + 3 * q) 3 = zI 0 ∧ i0 (kty (113 + 14 + 3 * q)) (113 + 14 + 3 * q) 4 = zI 0) ∧ (i0 (kty (151 + 14 + 3 * q)) (151 + 14 + 3 * q) 3 = zI 0 ∧ i0 (kty (151 + 14 + 3 * q)) (151 + 14 + 3 * q) 4 = zI 0) ∧ (i0 (kty (189 + 14 + 3 * q)) (189 + 14 + 3 * q) 3 = zI 0 ∧ i0 (kty (189 + 14 + 3 * q)) (189 + 14 + 3 * q) 4 = zI 0) := by decide +kernel
  intro q hq l hl
  obtain ⟨h1, h2, h3, h4, h5⟩ := h q hq
  rcases hl with rfl | rfl | rfl | rfl | rfl <;> assumption
theorem start_inv : ∃ y, f_X12_empties 700 227 (0 : Int32) M00 = some y ∧ Inv y := by
  obtain ⟨b, h1, -, h2⟩ := m_empties (X := M00) (b := fun _ => 0) (q := 0) (n := 700) (by omega) (by omega) (by omega)
  rw [M00_cs, show zI 0 = (0 : Int32) by decide +kernel] at h1
  have hb : ∀ i, 0 ≤ i → i < 562 → b i = emB i := fun i i0 i1 => by
    have h3 := h2 i i0 i1
    rw [show (562 : Int) * 0 + i = i by omega] at h3
    exact h3
  have b0 : b 0 = 0 := (hb 0 (by omega) (by omega)).trans (by decide +kernel)
  have b1 : b 1 = 0 := (hb 1 (by omega) (by omega)).trans (by decide +kernel)
  have b2 : b 2 = 0 := (hb 2 (by omega) (by omega)).trans (by decide +kernel)
  have b3 : b 3 = 10 := (hb 3 (by omega) (by omega)).trans (by decide +kernel)
  have b4 : b 4 = 16 := (hb 4 (by omega) (by omega)).trans (by decide +kernel)
  have b5 : b 5 = 480 := (hb 5 (by omega) (by omega)).trans (by decide +kernel)
  have b6 : b 6 = 9 := (hb 6 (by omega) (by omega)).trans (by decide +kernel)
  have b7 : b 7 = 3 := (hb 7 (by omega) (by omega)).trans (by decide +kernel)
  have b8 : b 8 = 4 := (hb 8 (by omega) (by omega)).trans (by decide +kernel)
  have b9 : b 9 = 0 := (hb 9 (by omega) (by omega)).trans (by decide +kernel)
  have b290 : b 290 = 0 := (hb 290 (by omega) (by omega)).trans (em_0 (by omega))
  have b291 : b 291 = 0 := (hb 291 (by omega) (by omega)).trans (em_0 (by omega))
  refine ⟨_, h1, 23, b, ?_, fun k => rfl, ⟨?_, ?_, ?_, by omega⟩, ?_, ?_⟩
  · refine ⟨?_, Or.inl ⟨rfl, ?_⟩, Or.inl ?_, Or.inr (Or.inl ?_), Or.inr (Or.inr ?_), ?_, ?_, ?_, ?_, ?_, ?_, Or.inl ⟨?_, ?_⟩⟩
    · show r0 (kty 0) 0 10 = 23; decide +kernel
    · show r0 (kty 0) 0 11 = 61; decide +kernel
    · show r0 (kty 23) 23 7 = 31; decide +kernel
    · show r0 (kty 61) 61 7 = 69; decide +kernel
    · show r0 (kty 0) 0 12 = 99; decide +kernel
    · show ¬ r0 (kty 23) 23 7 = r0 (kty 61) 61 7; decide +kernel
    · show ¬ r0 (kty 23) 23 7 = r0 (kty 0) 0 12; decide +kernel
    · show ¬ r0 (kty 61) 61 7 = r0 (kty 0) 0 12; decide +kernel
    · show r0 (kty 113) 113 7 = 121; decide +kernel
    · show r0 (kty 151) 151 7 = 159; decide +kernel
    · show r0 (kty 189) 189 7 = 197; decide +kernel
    · show r0 (kty 14) 14 2 = 17; decide +kernel
    · show r0 (kty 14) 14 3 = 18; decide +kernel
  · refine ⟨?_, ?_, ?_, ?_, ?_, ?_, ?_, ?_, ?_, ?_, ?_, fun r u v => absurd v (by omega), fun r u v => absurd v (by omega), fun r u v => absurd v (by omega), fun r u v => absurd v (by omega)⟩
    · rw [m1_at (by decide), b0]; decide +kernel
    · rw [m1_at (by decide), b1]; decide +kernel
    · rw [m1_at (by decide), b2]; decide +kernel
    · rw [m1_at (by decide), b5]; decide +kernel
    · rw [m1_at (by decide), b6]; decide +kernel
    · rw [m1_at (by decide), b7]; decide +kernel
    · rw [m1_at (by decide), b8]; decide +kernel
    · rw [m1_at (by decide), b9]; decide +kernel
    · rw [m1_at (by decide), b3]; decide +kernel
    · rw [m1_at (by decide), b4]; decide +kernel
    · rw [m1_at (by decide), b3, b4]; decide +kernel
  · refine ⟨fun p u v => absurd v (by omega), fun p r u v => absurd v (by omega), fun p q u v => absurd v (by omega), fun p u v => ?_⟩
    obtain ⟨e3, e4⟩ := pe_0 p.toNat (by omega) 23 (Or.inl rfl)
    refine ⟨Or.inl ?_, Or.inl ?_⟩
    · show ((cs M00 b).1 (23 + 14 + 3 * p.toNat + 0) 3).toInt = 0
      rw [m1_at (by omega), Nat.add_zero, e3]; decide +kernel
    · show ((cs M00 b).1 (23 + 14 + 3 * p.toNat + 0) 4).toInt = 0
      rw [m1_at (by omega), Nat.add_zero, e4]; decide +kernel
  · refine ⟨?_, fun r u v => absurd v (by omega), fun p u v => absurd v (by omega), fun p r p0 p1 r0 r1 => ?_, fun p q p0 p1 q0 q1 => ?_, fun p u v => absurd v (by omega)⟩
    · unfold WH; omega
    · rw [hb _ (by omega) (by omega), em_0 (by omega)]; omega
    · rw [hb (226 + 8 * p + q) (by omega) (by omega), hb (226 + 8 * q + p) (by omega) (by omega), em_0 (by omega), em_0 (by omega)]; omega
  · refine ⟨⟨fun k u v => absurd v (by omega), fun p u v => absurd v (by omega)⟩, ⟨0, by omega, by omega, by omega, by omega, by omega, by omega, ?_, ?_, ?_, Or.inl ⟨b291.symm, rfl⟩⟩, ⟨0, by omega, by omega, ?_, ?_, fun i u v => absurd v (by omega)⟩, ⟨0, by omega, by omega, ?_, ?_⟩, fun k hk => ⟨?_, 0, by omega, by omega, ?_⟩, ?_, ?_, ?_, ?_, fun t t0 t1 => ?_, Or.inl ⟨?_, ?_⟩, fun l hl hn p hp => ?_, fun k hk => ⟨?_, ?_⟩⟩
    · show (cs M00 b).1 (r0 (kty 23) 23 7) 5 = _
      rw [show r0 (kty 23) 23 7 = 31 by decide +kernel, m1_at (by decide)]; decide +kernel
    · show (cs M00 b).1 (r0 (kty 23) 23 7) 6 = _
      rw [show r0 (kty 23) 23 7 = 31 by decide +kernel, m1_at (by decide), b291]; decide +kernel
    · show (cs M00 b).1 (r0 (kty 23) 23 7) 7 = _
      rw [show r0 (kty 23) 23 7 = 31 by decide +kernel, m1_at (by decide), b290]; decide +kernel
    · rw [m1_at (by decide)]; decide +kernel
    · rw [m1_at (by decide)]; decide +kernel
    · rw [m1_at (by decide)]; decide +kernel
    · rw [m1_at (by decide)]; decide +kernel
    · rw [m1_at (by decide), m1_at (by decide), kt_231, kt_2]; rfl
    · rw [m1_at (by decide), kt_2]; exact (show (0 : Int32) = zI 0 by decide +kernel)
    · rw [m1_at (by decide), m1_at (by decide)]; decide +kernel
    · rw [m1_at (by decide), m1_at (by decide)]; decide +kernel
    · show j0 kwF (kty 227) 2 = j0 kwF (kty 0) 18
      rw [kt_227, kt_0]; rfl
    · show j0 kwF (kty 227) 3 = j0 kwF (kty 0) 19
      rw [kt_227, kt_0]; rfl
    · obtain ⟨e1, e2, e3, e4⟩ := tr_0 t.toNat (by omega)
      exact ⟨0, -1, by omega, by omega, by omega, by omega, by rw [m1_at (by omega)]; exact e1, by rw [m1_at (by decide)]; exact e2, by rw [m1_at (by omega)]; exact e3, by rw [m1_at (by decide)]; exact e4, fun k u v => absurd v (by omega)⟩
    · rw [m1_at (by decide)]; decide +kernel
    · rw [m1_at (by decide)]; decide +kernel
    · obtain ⟨e3, e4⟩ := pe_0 p hp l hl
      exact ⟨Or.inl (by rw [m1_at (by omega)]; exact e3), Or.inl (by rw [m1_at (by omega)]; exact e4)⟩
    · rw [M00_j, kt_6, j0_24]; exact kwF_kwd k hk
    · rw [M00_j, kt_9, j0_24]; exact kwF_kwd k hk
  · rw [m1_at (by decide), m1_at (by decide)]; decide +kernel
