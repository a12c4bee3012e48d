/-! ===== days: all steps, in both ===== -/
/-- one step of the reference, its blocks e deep -/
def rE (nn E : Nat) : Int32 → KM → Option KM := fun s M => f_X12_doOne_G (fun u v M => da_X12 E nn 227 u v M) nn 227 s M
theorem da_S {nn E : Nat} {u v : Int32} {M : KM} : da_X12 (E + 1) nn 227 u v M = lp_X12_doAll_2 nn (rE nn E) 227 v u M := rfl
theorem PSt_c {W W0 : KM} {P : Nat} {b b0 : Int → Int} {w i : Int} (hr : ∀ j k, 1 ≤ j → j ≤ 5 → W.1 (P + j) k = W0.1 (P + j) k) (hz : ∀ z, 290 ≤ z → b z = b0 z) (h0 : b 0 = b0 0) (h2 : b 2 = b0 2) (hw : 292 ≤ w) (h : PSt W0 P b0 w i) : PSt W P b w i := by
  unfold PSt at h ⊢
  rw [hr 1 _ (by omega) (by omega), hr 2 _ (by omega) (by omega), hr 3 _ (by omega) (by omega), hr 4 _ (by omega) (by omega), hz w (by omega), hz (w + 1) (by omega), hz (w + 2) (by omega), hz (w + 3) (by omega), h0, h2]
  exact h
theorem PBl_c {W W0 : KM} {P : Nat} {b b0 : Int → Int} {w i : Int} (hr : ∀ j k, 1 ≤ j → j ≤ 5 → W.1 (P + j) k = W0.1 (P + j) k) (hz : ∀ z, 290 ≤ z → b z = b0 z) (h0 : b 0 = b0 0) (h2 : b 2 = b0 2) (hw : 292 ≤ w) (h : PBl W0 P b0 w i) : PBl W P b w i := by
  unfold PBl at h ⊢
  rw [hr 1 _ (by omega) (by omega), hr 2 _ (by omega) (by omega), hr 3 _ (by omega) (by omega), hr 4 _ (by omega) (by omega), hz w (by omega), hz (w + 1) (by omega), hz (w + 2) (by omega), hz (w + 6) (by omega), hz (w + 7) (by omega), h0, h2]
  exact h
theorem PSt_kd {W : KM} {P : Nat} {b : Int → Int} {w i : Int} (h : PSt W P b w i) : ∃ kd, 0 ≤ kd ∧ kd ≤ 11 ∧ ¬ kd = 10 ∧ ¬ kd = 9 ∧ W.1 (P + 1) i.toNat = zI kd := by
  unfold PSt at h
  rcases h with h | h | h | h | h | h | h
  · exact ⟨0, by decide, by decide, by decide, by decide, h.2.1⟩
  · exact ⟨1, by decide, by decide, by decide, by decide, h.2.1⟩
  · exact ⟨2, by decide, by decide, by decide, by decide, h.2.1⟩
  · exact ⟨3, by decide, by decide, by decide, by decide, h.2⟩
  · exact ⟨4, by decide, by decide, by decide, by decide, h.2⟩
  · exact ⟨5, by decide, by decide, by decide, by decide, h.2⟩
  · exact ⟨11, by decide, by decide, by decide, by decide, h.2⟩
theorem PBl_kd {W : KM} {P : Nat} {b : Int → Int} {w i : Int} (h : PBl W P b w i) : ∃ kd, 0 ≤ kd ∧ kd ≤ 11 ∧ ¬ kd = 10 ∧ W.1 (P + 1) i.toNat = zI kd ∧ ((b w = 6 ∧ ¬ kd = 9) ∨ (b w = 7 ∧ kd = 9 ∧ W.1 (P + 2) i.toNat = zI (b (w + 1)) ∧ 1 ≤ b (w + 1) ∧ b (w + 1) ≤ 99)) := by
  unfold PBl at h
  rcases h with h | h | h | h
  · exact ⟨6, by decide, by decide, by decide, h.2.2.1, Or.inl ⟨h.1, by decide⟩⟩
  · exact ⟨7, by decide, by decide, by decide, h.2.2, Or.inl ⟨h.1, by decide⟩⟩
  · exact ⟨8, by decide, by decide, by decide, h.2.2.1, Or.inl ⟨h.1, by decide⟩⟩
  · exact ⟨9, by decide, by decide, by decide, h.2.1, Or.inr ⟨h.1, rfl, h.2.2.1, h.2.2.2⟩⟩
/-- a simple step that is no stop, whatever it is -/
theorem stp_all {W0 X0 : KM} {L P : Nat} {b0 b : Int → Int} {g : Int → Int → Int → Int} {W X : KM} {dr dn ms ar lf : Int} {n n2 : Nat} {i w : Int} (hl : 23 ≤ L) (hPL : P = L + 8 ∨ (31 ≤ P ∧ P + 6 ≤ L) ∨ L + 38 ≤ P) (hP : W.2.2 L 7 = P) (hR : RC W0 L b0 b g W dr dn ms ar lf) (hX : RX X0 b0 b X dr dn ms ar lf 0) (hi : 0 ≤ i ∧ i < 60) (hw : 292 ≤ w ∧ w ≤ 553) (hs : PSt W P b w i) (h8 : ¬ b w = 8) (hn : 800 < n) (hn2 : 800 < n2) : OneS W0 X0 L b0 b g W X dn ms lf n n2 i w := by
  unfold PSt at hs
  rcases hs with ⟨k, r1, r2, r3, r4⟩ | ⟨k, r1, r2, r3, r4, r5, r6, r7⟩ | ⟨k, r1, r2, r3, r4, r5, r6, r7, r8, r9, r10, r11⟩ | ⟨k, r1⟩ | ⟨k, r1⟩ | ⟨k, r1⟩ | ⟨k, r1⟩
  · exact stp_wait hl hPL hP hR hX hi hw k r1 r2 rfl r3 r4 hn hn2
  · exact stp_out (q := 0) hl hPL hP hR hX hi hw k r1 r2 r4 r5 r6 r7 rfl rfl (Or.inl ⟨rfl, r3⟩) hn hn2
  · exact stp_out hl hPL hP hR hX hi hw k r1 r2 r5 r6 r10 r11 rfl rfl (Or.inr ⟨rfl, r3, r4, rfl, r7, r8, r9⟩) hn hn2
  · exact stp_any hl hPL hP hR hX hi hw k r1 hn hn2
  · exact stp_cloud hl hPL hP hR hX hi hw k r1 (Or.inl ⟨rfl, rfl⟩) hn hn2
  · exact stp_cloud hl hPL hP hR hX hi hw k r1 (Or.inr ⟨rfl, rfl⟩) hn hn2
  · exact absurd k h8
