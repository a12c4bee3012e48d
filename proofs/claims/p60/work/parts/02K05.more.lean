theorem kv_ri {ad : Nat → Nat} {cy : Nat → ClassId} {x : KX} {o : KO} {pc : Nat} {L : List (Nat × Value)} {rest : List Value} {M : KM} {r : Int32} (k : KV ad cy x o (pc) L (.int r :: rest) M) : KV ad cy x o pc L (((some (.int r), M) : KO).1.toList ++ rest) ((some (.int r), M) : KO).2 := k
theorem kv_rl {ad : Nat → Nat} {cy : Nat → ClassId} {x : KX} {o : KO} {pc : Nat} {L : List (Nat × Value)} {rest : List Value} {M : KM} {r : Int64} (k : KV ad cy x o (pc) L (.long r :: rest) M) : KV ad cy x o pc L (((some (.long r), M) : KO).1.toList ++ rest) ((some (.long r), M) : KO).2 := k
theorem kv_rv {ad : Nat → Nat} {cy : Nat → ClassId} {x : KX} {o : KO} {pc : Nat} {L : List (Nat × Value)} {rest : List Value} {M : KM}  (k : KV ad cy x o (pc) L (rest) M) : KV ad cy x o pc L (((none, M) : KO).1.toList ++ rest) ((none, M) : KO).2 := k
theorem lt_j {α β : Type} {e : α} {f : α → β} {y : β} (h : lt e f = y) : ∃ v, v = e ∧ f v = y := ⟨e, rfl, h⟩
/-- the length of a byte row, by its kind -/
theorem al_text {ad : Nat → Nat} {cy : Nat → ClassId} {x : KX} {o : KO} {cc : ByteArray} {own : String} {nL d pc pc2 : Nat} {ret : Option (Option FieldType)} {L : List (Nat × Value)} {rest : List Value} {M : KM} {a : Nat} {i : Int32} (G : KG ad cy x cc own nL ret d) (ht : kty a = 21 ∨ kty a = 25) (hin : ix i (ktl (kty a))) (hd : dc cc pc (.baload) 1 pc2) (kk : KV ad cy x o (pc2) L (.int (M.1 a i.toNatClampNeg) :: rest) M) : KV ad cy x o (pc) L (.int i :: .ref (ad a) :: rest) M := by
  rcases ht with h | h
  · rw [h] at hin; exact al_21 G h hin hd kk
  · rw [h] at hin; exact al_25 G h hin hd kk
theorem v_tlen {ad : Nat → Nat} {cy : Nat → ClassId} {x : KX} {o : KO} {cc : ByteArray} {own : String} {nL d pc pc2 : Nat} {ret : Option (Option FieldType)} {L : List (Nat × Value)} {rest : List Value} {M : KM} {a : Nat} (G : KG ad cy x cc own nL ret d) (ht : kty a = 21 ∨ kty a = 25) (hd : dc cc pc (.arraylength) 1 pc2) (kk : KV ad cy x o (pc2) L (.int (Int32.ofNat (ktl (kty a))) :: rest) M) : KV ad cy x o (pc) L (.ref (ad a) :: rest) M := by
  rcases ht with h | h
  · exact v_alen (t0 := 0) G h (by decide) rfl rfl (by rw [h]; rfl) hd kk
  · exact v_alen (t0 := 0) G h (by decide) rfl rfl (by rw [h]; rfl) hd kk
theorem v_copyI {ad : Nat → Nat} {cy : Nat → ClassId} {x : KX} {o : KO} {cc : ByteArray} {own : String} {nL d pc pc2 : Nat} {ret : Option (Option FieldType)} {L : List (Nat × Value)} {rest : List Value} {M : KM} {a0 a t0 t1 n0 n1 idx : Nat} {sp dp n : Int32} (G : KG ad cy x cc own nL ret d) (h1 : 1 ≤ d) (ht0 : kty a0 = t0) (ht1 : kty a = t1) (h00 : t0 ≠ 0) (h01 : t1 ≠ 0) (hk0 : kc ad cy t0 a0 (M.1 a0) (M.2.1 a0) (M.2.2 a0) = .inl (cy 1, n0, .inl (M.1 a0))) (hk1 : ∀ f : Nat → Int32, kc ad cy t1 a (f) (M.2.1 a) (M.2.2 a) = .inl (cy 1, n1, .inl f)) (w1 : Cond.methodLink own idx arraycopyName ∈ tb) (w2 : Cond.native arraycopyName ∈ tb) (w3 : Cond.static arraycopyName ∈ tb) (w4 : Cond.initialized "java/lang/System" ∈ tb) (hg : ¬ sp < 0 ∧ ¬ dp < 0 ∧ ¬ n < 0 ∧ sp.toNatClampNeg + n.toNatClampNeg ≤ n0 ∧ dp.toNatClampNeg + n.toNatClampNeg ≤ n1) (hrm : (rest.map fun v => v.category).sum ≤ 8) (hd : dc cc pc (.invokestatic idx) 3 pc2) (kk : KV ad cy x o (pc2) L (rest) (uIs M a (va_cpy (M.1 a0) (M.1 a) sp.toNatClampNeg dp.toNatClampNeg n.toNatClampNeg))) : KV ad cy x o (pc) L (.int n :: .int dp :: .ref (ad a) :: .int sp :: .ref (ad a0) :: rest) M := by
  obtain ⟨p, l, e, R, s, m, args, below, meth, c, D, z, nn, k1, k2, Q⟩ := x
  obtain ⟨hx, hb, hml, hnn, hown, hr, hlk, hts, hK, hA, ⟨hf, hkc, hks⟩, hlo, hz⟩ := G
  obtain ⟨hd, rfl⟩ := hd
  intro H locs ls hR hS hl
  subst ht0; subst ht1
  have hw : nativeFrameWords "java/lang/System" "arraycopy" 5 ≤ 19 := by decide
  refine va_copyi hx hb (by rw [hml, hl.1, hnn]) hown (hts _ w1) (hts _ w2) (hts _ w3) (hts _ w4) hK hR.1 (kws_D hA) hS a0 a 1 1 (by rw [kws_at (kty_lt rfl h00), hk0]) (by rw [kws_at (kty_lt rfl h01), hk1 (M.1 a)]) rfl rfl rfl hg.1 hg.2.1 hg.2.2.1 hg.2.2.2.1 hg.2.2.2.2 (fun _ _ => rfl) (by omega) (by omega) hd (fun H1 locs1 hP hD hS1 => kk H1 locs1 ls ⟨?_, hR.2⟩ hS1 hl)
  rw [kws_upd (M' := uIs M a (va_cpy (M.1 a0) (M.1 a) sp.toNatClampNeg dp.toNatClampNeg n.toNatClampNeg)) uIs_ne (by rw [uIs_at]; exact hk1 _)] at hP
  exact hP
theorem v_copyJ {ad : Nat → Nat} {cy : Nat → ClassId} {x : KX} {o : KO} {cc : ByteArray} {own : String} {nL d pc pc2 : Nat} {ret : Option (Option FieldType)} {L : List (Nat × Value)} {rest : List Value} {M : KM} {a0 a t0 t1 n0 n1 idx : Nat} {sp dp n : Int32} (G : KG ad cy x cc own nL ret d) (h1 : 1 ≤ d) (ht0 : kty a0 = t0) (ht1 : kty a = t1) (h00 : t0 ≠ 0) (h01 : t1 ≠ 0) (hk0 : kc ad cy t0 a0 (M.1 a0) (M.2.1 a0) (M.2.2 a0) = .inl (cy 2, n0, .inr (.inl (M.2.1 a0)))) (hk1 : ∀ f : Nat → Int64, kc ad cy t1 a (M.1 a) (f) (M.2.2 a) = .inl (cy 2, n1, .inr (.inl f))) (w1 : Cond.methodLink own idx arraycopyName ∈ tb) (w2 : Cond.native arraycopyName ∈ tb) (w3 : Cond.static arraycopyName ∈ tb) (w4 : Cond.initialized "java/lang/System" ∈ tb) (hg : ¬ sp < 0 ∧ ¬ dp < 0 ∧ ¬ n < 0 ∧ sp.toNatClampNeg + n.toNatClampNeg ≤ n0 ∧ dp.toNatClampNeg + n.toNatClampNeg ≤ n1) (hrm : (rest.map fun v => v.category).sum ≤ 8) (hd : dc cc pc (.invokestatic idx) 3 pc2) (kk : KV ad cy x o (pc2) L (rest) (uJs M a (va_cpy (M.2.1 a0) (M.2.1 a) sp.toNatClampNeg dp.toNatClampNeg n.toNatClampNeg))) : KV ad cy x o (pc) L (.int n :: .int dp :: .ref (ad a) :: .int sp :: .ref (ad a0) :: rest) M := by
  obtain ⟨p, l, e, R, s, m, args, below, meth, c, D, z, nn, k1, k2, Q⟩ := x
  obtain ⟨hx, hb, hml, hnn, hown, hr, hlk, hts, hK, hA, ⟨hf, hkc, hks⟩, hlo, hz⟩ := G
  obtain ⟨hd, rfl⟩ := hd
  intro H locs ls hR hS hl
  subst ht0; subst ht1
  have hw : nativeFrameWords "java/lang/System" "arraycopy" 5 ≤ 19 := by decide
  refine va_copyl hx hb (by rw [hml, hl.1, hnn]) hown (hts _ w1) (hts _ w2) (hts _ w3) (hts _ w4) hK hR.1 (kws_D hA) hS a0 a 2 2 (by rw [kws_at (kty_lt rfl h00), hk0]) (by rw [kws_at (kty_lt rfl h01), hk1 (M.2.1 a)]) rfl rfl rfl hg.1 hg.2.1 hg.2.2.1 hg.2.2.2.1 hg.2.2.2.2 (fun _ _ => rfl) (by omega) (by omega) hd (fun H1 locs1 hP hD hS1 => kk H1 locs1 ls ⟨?_, hR.2⟩ hS1 hl)
  rw [kws_upd (M' := uJs M a (va_cpy (M.2.1 a0) (M.2.1 a) sp.toNatClampNeg dp.toNatClampNeg n.toNatClampNeg)) uJs_ne (by rw [uJs_at]; exact hk1 _)] at hP
  exact hP
theorem ktu_11_10 {M : KM} {a v : Nat} (ha : kty a = 11) (hv : kty v = 3) : KT M.2.2 → KT (uR M a 10 v).2.2 := by
  intro h
  obtain ⟨h0, h1, h2, h3, h4, h5, h6, h7⟩ := h
  refine ⟨?_, ?_, ?_, ?_, ?_, ?_, ?_, ?_⟩
  · intro b hb
    by_cases hc : b = a
    · simp only [uR, hc, and_self, if_true]; exact hv
    · simp only [uR, hc, false_and, if_false]; exact h0 b hb
  · intro b hb
    simp only [uR, show (11 = 10) = False from eq_false (by decide), and_false, if_false]; exact h1 b hb
  · intro b hb
    simp only [uR, show (12 = 10) = False from eq_false (by decide), and_false, if_false]; exact h2 b hb
  · intro b hb
    have hc : b ≠ a := fun e => by rw [e, ha] at hb; exact absurd hb (by decide)
    simp only [uR, hc, false_and, if_false]; exact h3 b hb
  · intro b hb
    have hc : b ≠ a := fun e => by rw [e, ha] at hb; exact absurd hb (by decide)
    simp only [uR, hc, false_and, if_false]; exact h4 b hb
  · intro b hb
    have hc : b ≠ a := fun e => by rw [e, ha] at hb; exact absurd hb (by decide)
    simp only [uR, hc, false_and, if_false]; exact h5 b hb
  · intro b hb
    have hc : b ≠ a := fun e => by rw [e, ha] at hb; exact absurd hb (by decide)
    simp only [uR, hc, false_and, if_false]; exact h6 b hb
  · intro b hb
    have hc : b ≠ a := fun e => by rw [e, ha] at hb; exact absurd hb (by decide)
    simp only [uR, hc, false_and, if_false]; exact h7 b hb
theorem ktu_11_11 {M : KM} {a v : Nat} (ha : kty a = 11) (hv : kty v = 3) : KT M.2.2 → KT (uR M a 11 v).2.2 := by
  intro h
  obtain ⟨h0, h1, h2, h3, h4, h5, h6, h7⟩ := h
  refine ⟨?_, ?_, ?_, ?_, ?_, ?_, ?_, ?_⟩
  · intro b hb
    simp only [uR, show (10 = 11) = False from eq_false (by decide), and_false, if_false]; exact h0 b hb
  · intro b hb
    by_cases hc : b = a
    · simp only [uR, hc, and_self, if_true]; exact hv
    · simp only [uR, hc, false_and, if_false]; exact h1 b hb
  · intro b hb
    simp only [uR, show (12 = 11) = False from eq_false (by decide), and_false, if_false]; exact h2 b hb
  · intro b hb
    have hc : b ≠ a := fun e => by rw [e, ha] at hb; exact absurd hb (by decide)
    simp only [uR, hc, false_and, if_false]; exact h3 b hb
  · intro b hb
    have hc : b ≠ a := fun e => by rw [e, ha] at hb; exact absurd hb (by decide)
    simp only [uR, hc, false_and, if_false]; exact h4 b hb
  · intro b hb
    have hc : b ≠ a := fun e => by rw [e, ha] at hb; exact absurd hb (by decide)
    simp only [uR, hc, false_and, if_false]; exact h5 b hb
  · intro b hb
    have hc : b ≠ a := fun e => by rw [e, ha] at hb; exact absurd hb (by decide)
    simp only [uR, hc, false_and, if_false]; exact h6 b hb
  · intro b hb
    have hc : b ≠ a := fun e => by rw [e, ha] at hb; exact absurd hb (by decide)
    simp only [uR, hc, false_and, if_false]; exact h7 b hb
theorem ktu_11_12 {M : KM} {a v : Nat} (ha : kty a = 11) (hv : kty v = 9) : KT M.2.2 → KT (uR M a 12 v).2.2 := by
  intro h
  obtain ⟨h0, h1, h2, h3, h4, h5, h6, h7⟩ := h
  refine ⟨?_, ?_, ?_, ?_, ?_, ?_, ?_, ?_⟩
  · intro b hb
    simp only [uR, show (10 = 12) = False from eq_false (by decide), and_false, if_false]; exact h0 b hb
  · intro b hb
    simp only [uR, show (11 = 12) = False from eq_false (by decide), and_false, if_false]; exact h1 b hb
  · intro b hb
    by_cases hc : b = a
    · simp only [uR, hc, and_self, if_true]; exact hv
    · simp only [uR, hc, false_and, if_false]; exact h2 b hb
  · intro b hb
    have hc : b ≠ a := fun e => by rw [e, ha] at hb; exact absurd hb (by decide)
    simp only [uR, hc, false_and, if_false]; exact h3 b hb
  · intro b hb
    have hc : b ≠ a := fun e => by rw [e, ha] at hb; exact absurd hb (by decide)
    simp only [uR, hc, false_and, if_false]; exact h4 b hb
  · intro b hb
    have hc : b ≠ a := fun e => by rw [e, ha] at hb; exact absurd hb (by decide)
    simp only [uR, hc, false_and, if_false]; exact h5 b hb
  · intro b hb
    have hc : b ≠ a := fun e => by rw [e, ha] at hb; exact absurd hb (by decide)
    simp only [uR, hc, false_and, if_false]; exact h6 b hb
  · intro b hb
    have hc : b ≠ a := fun e => by rw [e, ha] at hb; exact absurd hb (by decide)
    simp only [uR, hc, false_and, if_false]; exact h7 b hb
theorem ktu_2_7 {M : KM} {a v : Nat} (ha : kty a = 3) (hv : kty v = 9) : KT M.2.2 → KT (uR M a 7 v).2.2 := by
  intro h
  obtain ⟨h0, h1, h2, h3, h4, h5, h6, h7⟩ := h
  refine ⟨?_, ?_, ?_, ?_, ?_, ?_, ?_, ?_⟩
  · intro b hb
    have hc : b ≠ a := fun e => by rw [e, ha] at hb; exact absurd hb (by decide)
    simp only [uR, hc, false_and, if_false]; exact h0 b hb
  · intro b hb
    have hc : b ≠ a := fun e => by rw [e, ha] at hb; exact absurd hb (by decide)
    simp only [uR, hc, false_and, if_false]; exact h1 b hb
  · intro b hb
    have hc : b ≠ a := fun e => by rw [e, ha] at hb; exact absurd hb (by decide)
    simp only [uR, hc, false_and, if_false]; exact h2 b hb
  · intro b hb
    by_cases hc : b = a
    · simp only [uR, hc, and_self, if_true]; exact hv
    · simp only [uR, hc, false_and, if_false]; exact h3 b hb
  · intro b hb
    have hc : b ≠ a := fun e => by rw [e, ha] at hb; exact absurd hb (by decide)
    simp only [uR, hc, false_and, if_false]; exact h4 b hb
  · intro b hb
    have hc : b ≠ a := fun e => by rw [e, ha] at hb; exact absurd hb (by decide)
    simp only [uR, hc, false_and, if_false]; exact h5 b hb
  · intro b hb
    have hc : b ≠ a := fun e => by rw [e, ha] at hb; exact absurd hb (by decide)
    simp only [uR, hc, false_and, if_false]; exact h6 b hb
  · intro b hb
    have hc : b ≠ a := fun e => by rw [e, ha] at hb; exact absurd hb (by decide)
    simp only [uR, hc, false_and, if_false]; exact h7 b hb
theorem ktu_3_1 {M : KM} {a v : Nat} (ha : kty a = 4) (hv : kty v = 21 ∨ kty v = 25) : KT M.2.2 → KT (uR M a 1 v).2.2 := by
  intro h
  obtain ⟨h0, h1, h2, h3, h4, h5, h6, h7⟩ := h
  refine ⟨?_, ?_, ?_, ?_, ?_, ?_, ?_, ?_⟩
  · intro b hb
    have hc : b ≠ a := fun e => by rw [e, ha] at hb; exact absurd hb (by decide)
    simp only [uR, hc, false_and, if_false]; exact h0 b hb
  · intro b hb
    have hc : b ≠ a := fun e => by rw [e, ha] at hb; exact absurd hb (by decide)
    simp only [uR, hc, false_and, if_false]; exact h1 b hb
  · intro b hb
    have hc : b ≠ a := fun e => by rw [e, ha] at hb; exact absurd hb (by decide)
    simp only [uR, hc, false_and, if_false]; exact h2 b hb
  · intro b hb
    have hc : b ≠ a := fun e => by rw [e, ha] at hb; exact absurd hb (by decide)
    simp only [uR, hc, false_and, if_false]; exact h3 b hb
  · intro b hb
    by_cases hc : b = a
    · simp only [uR, hc, and_self, if_true]; exact hv
    · simp only [uR, hc, false_and, if_false]; exact h4 b hb
  · intro b hb
    have hc : b ≠ a := fun e => by rw [e, ha] at hb; exact absurd hb (by decide)
    simp only [uR, hc, false_and, if_false]; exact h5 b hb
  · intro b hb
    have hc : b ≠ a := fun e => by rw [e, ha] at hb; exact absurd hb (by decide)
    simp only [uR, hc, false_and, if_false]; exact h6 b hb
  · intro b hb
    have hc : b ≠ a := fun e => by rw [e, ha] at hb; exact absurd hb (by decide)
    simp only [uR, hc, false_and, if_false]; exact h7 b hb
theorem ktu_0_1 {M : KM} {a v : Nat} (ha : kty a = 1) (hv : kty v = 21 ∨ kty v = 25) : KT M.2.2 → KT (uR M a 1 v).2.2 := by
  intro h
  obtain ⟨h0, h1, h2, h3, h4, h5, h6, h7⟩ := h
  refine ⟨?_, ?_, ?_, ?_, ?_, ?_, ?_, ?_⟩
  · intro b hb
    have hc : b ≠ a := fun e => by rw [e, ha] at hb; exact absurd hb (by decide)
    simp only [uR, hc, false_and, if_false]; exact h0 b hb
  · intro b hb
    have hc : b ≠ a := fun e => by rw [e, ha] at hb; exact absurd hb (by decide)
    simp only [uR, hc, false_and, if_false]; exact h1 b hb
  · intro b hb
    have hc : b ≠ a := fun e => by rw [e, ha] at hb; exact absurd hb (by decide)
    simp only [uR, hc, false_and, if_false]; exact h2 b hb
  · intro b hb
    have hc : b ≠ a := fun e => by rw [e, ha] at hb; exact absurd hb (by decide)
    simp only [uR, hc, false_and, if_false]; exact h3 b hb
  · intro b hb
    have hc : b ≠ a := fun e => by rw [e, ha] at hb; exact absurd hb (by decide)
    simp only [uR, hc, false_and, if_false]; exact h4 b hb
  · intro b hb
    by_cases hc : b = a
    · simp only [uR, hc, and_self, if_true]; exact hv
    · simp only [uR, hc, false_and, if_false]; exact h5 b hb
  · intro b hb
    have hc : b ≠ a := fun e => by rw [e, ha] at hb; exact absurd hb (by decide)
    simp only [uR, hc, false_and, if_false]; exact h6 b hb
  · intro b hb
    have hc : b ≠ a := fun e => by rw [e, ha] at hb; exact absurd hb (by decide)
    simp only [uR, hc, false_and, if_false]; exact h7 b hb
theorem ktu_6_2 {M : KM} {a v : Nat} (ha : kty a = 7) (hv : kty v = 29) : KT M.2.2 → KT (uR M a 2 v).2.2 := by
  intro h
  obtain ⟨h0, h1, h2, h3, h4, h5, h6, h7⟩ := h
  refine ⟨?_, ?_, ?_, ?_, ?_, ?_, ?_, ?_⟩
  · intro b hb
    have hc : b ≠ a := fun e => by rw [e, ha] at hb; exact absurd hb (by decide)
    simp only [uR, hc, false_and, if_false]; exact h0 b hb
  · intro b hb
    have hc : b ≠ a := fun e => by rw [e, ha] at hb; exact absurd hb (by decide)
    simp only [uR, hc, false_and, if_false]; exact h1 b hb
  · intro b hb
    have hc : b ≠ a := fun e => by rw [e, ha] at hb; exact absurd hb (by decide)
    simp only [uR, hc, false_and, if_false]; exact h2 b hb
  · intro b hb
    have hc : b ≠ a := fun e => by rw [e, ha] at hb; exact absurd hb (by decide)
    simp only [uR, hc, false_and, if_false]; exact h3 b hb
  · intro b hb
    have hc : b ≠ a := fun e => by rw [e, ha] at hb; exact absurd hb (by decide)
    simp only [uR, hc, false_and, if_false]; exact h4 b hb
  · intro b hb
    have hc : b ≠ a := fun e => by rw [e, ha] at hb; exact absurd hb (by decide)
    simp only [uR, hc, false_and, if_false]; exact h5 b hb
  · intro b hb
    by_cases hc : b = a
    · simp only [uR, hc, and_self, if_true]; exact hv
    · simp only [uR, hc, false_and, if_false]; exact h6 b hb
  · intro b hb
    simp only [uR, show (3 = 2) = False from eq_false (by decide), and_false, if_false]; exact h7 b hb
theorem ktu_6_3 {M : KM} {a v : Nat} (ha : kty a = 7) (hv : kty v = 29) : KT M.2.2 → KT (uR M a 3 v).2.2 := by
  intro h
  obtain ⟨h0, h1, h2, h3, h4, h5, h6, h7⟩ := h
  refine ⟨?_, ?_, ?_, ?_, ?_, ?_, ?_, ?_⟩
  · intro b hb
    have hc : b ≠ a := fun e => by rw [e, ha] at hb; exact absurd hb (by decide)
    simp only [uR, hc, false_and, if_false]; exact h0 b hb
  · intro b hb
    have hc : b ≠ a := fun e => by rw [e, ha] at hb; exact absurd hb (by decide)
    simp only [uR, hc, false_and, if_false]; exact h1 b hb
  · intro b hb
    have hc : b ≠ a := fun e => by rw [e, ha] at hb; exact absurd hb (by decide)
    simp only [uR, hc, false_and, if_false]; exact h2 b hb
  · intro b hb
    have hc : b ≠ a := fun e => by rw [e, ha] at hb; exact absurd hb (by decide)
    simp only [uR, hc, false_and, if_false]; exact h3 b hb
  · intro b hb
    have hc : b ≠ a := fun e => by rw [e, ha] at hb; exact absurd hb (by decide)
    simp only [uR, hc, false_and, if_false]; exact h4 b hb
  · intro b hb
    have hc : b ≠ a := fun e => by rw [e, ha] at hb; exact absurd hb (by decide)
    simp only [uR, hc, false_and, if_false]; exact h5 b hb
  · intro b hb
    simp only [uR, show (2 = 3) = False from eq_false (by decide), and_false, if_false]; exact h6 b hb
  · intro b hb
    by_cases hc : b = a
    · simp only [uR, hc, and_self, if_true]; exact hv
    · simp only [uR, hc, false_and, if_false]; exact h7 b hb
theorem sw_s {P : Nat → Prop} {lo hi : Nat} (h0 : P lo) (h : ∀ k, lo + 1 ≤ k → k ≤ hi → P k) : ∀ k, lo ≤ k → k ≤ hi → P k := fun k h1 h2 => by
  rcases Nat.lt_or_ge lo k with q | q
  · exact h k q h2
  · rw [Nat.le_antisymm q h1]; exact h0
theorem sw_e {P : Nat → Prop} {hi : Nat} : ∀ k, hi + 1 ≤ k → k ≤ hi → P k := fun k h1 h2 => absurd h1 (by omega)
theorem sw_out {a : Int32} (lo hi : Nat) (hh : hi < 2 ^ 31) (h : ∀ k, lo ≤ k → k ≤ hi → ¬ a = Int32.ofNat k) : a.toInt < (lo : Int) ∨ (hi : Int) < a.toInt := by
  rcases Int.lt_or_le a.toInt lo with q | q
  · exact Or.inl q
  · rcases Int.lt_or_le hi a.toInt with q2 | q2
    · exact Or.inr q2
    · exfalso
      refine h a.toInt.toNat (by omega) (by omega) ?_
      apply Int32.toInt_inj.mp
      rw [show Int32.ofNat a.toInt.toNat = nI a.toInt.toNat from rfl, nI_toInt (by omega)]
      omega
