/-! ===== who goes, who leads; a round ===== -/
theorem nI_z (j : Nat) : (Int32.ofNat j) = zI (j : Int) := rfl
theorem and_lo (x : Int32) {m : Int32} (k : Nat) (hm : m.toBitVec.toNat = 2 ^ k - 1) : ∃ v : Int, 0 ≤ v ∧ v < ((2 ^ k : Nat) : Int) ∧ x &&& m = zI v := by
  obtain ⟨j, j1, j2⟩ := pk_andE x k hm
  exact ⟨(j : Int), by omega, by omega, j2.trans (nI_z j)⟩
theorem rem_z {a d : Int} (h1 : 0 ≤ a) (h2 : a < 2147483648) (h3 : 0 < d) (h4 : d < 2147483648) : zI a - zI a / zI d * zI d = zI (a % d) := by
  rw [zdiv h1 h2 h3 h4, zmul, zsub]
  congr 1
  have := Int.emod_add_mul_ediv a d
  have e : a / d * d = d * (a / d) := Int.mul_comm _ _
  omega
theorem lp1095 {c4 c5 c6 : Int32} {Ln : Nat} {xs : Nat → Int32} {κ : KM → Option Int32} :
    ∀ (k n : Nat) (X : KM) (b : Int → Int) (w : Int), SS X b none → 1 ≤ b 0 → 0 ≤ w → w + k = b 2 → k + 200 ≤ n → ∃ Y, (∃ b', SS Y b' none ∧ ∀ z, ¬ (58 ≤ z ∧ z < 130) → b' z = b z) ∧ lp_L_law_1095 n Ln xs 0 228 c4 c5 c6 (zI w) X κ = κ Y := by
  intro k
  induction k with
  | zero =>
    intro n X b w hX b0 w0 hk hn
    obtain ⟨m, rfl⟩ : ∃ m, n = m + 1 := ⟨n - 1, by omega⟩
    have h2 := (SS_h hX).2.2
    have : w = b 2 := by omega
    subst this
    have hh := (SS_WB hX).1.1
    unfold WH at hh
    refine ⟨X, ⟨b, hX, fun _ _ => rfl⟩, ?_⟩
    rw [lp_L_law_1095]
    simp only [zl]
    rw [if_pos (ixP (by omega) (by omega) (by omega)), h2, if_pos (leP (by omega) (by omega) (by omega))]
  | succ k ih =>
    intro n X b w hX b0 w0 hk hn
    obtain ⟨m, rfl⟩ : ∃ m, n = m + 1 := ⟨n - 1, by omega⟩
    have h2 := (SS_h hX).2.2
    have h0 := (SS_h hX).1
    obtain ⟨hb, h5⟩ := SS_WB hX
    have hh := hb.1
    unfold WH at hh
    obtain ⟨a, a0, a1, ea⟩ := and_lo (c6 >>> (zI (w + 2) &&& zI 31)) (m := zI 3) 2 rfl
    have ey := rem_z (a := a) (d := b 0) a0 (by omega) (by omega) (by omega)
    have y1 := Int.emod_nonneg a (show b 0 ≠ 0 by omega)
    have y2 := Int.emod_lt_of_pos a (show 0 < b 0 by omega)
    have nxt : ∀ (Z : KM) (d : Int → Int), SS Z d none → (∀ z, ¬ (58 ≤ z ∧ z < 130) → d z = b z) → ∃ Y, (∃ b', SS Y b' none ∧ ∀ z, ¬ (58 ≤ z ∧ z < 130) → b' z = b z) ∧ lp_L_law_1095 m Ln xs 0 228 c4 c5 c6 (zI (w + 1)) Z κ = κ Y := by
      intro Z d hZ hd
      have d0 := hd 0 (by omega)
      have d2 := hd 2 (by omega)
      obtain ⟨Y, ⟨b', q1, q2⟩, q3⟩ := ih m Z d (w + 1) hZ (by omega) (by omega) (by omega) (by omega)
      exact ⟨Y, ⟨b', q1, fun z hz => (q2 z hz).trans (hd z hz)⟩, q3⟩
    have goes : ∃ Y, (∃ b', SS Y b' none ∧ ∀ z, ¬ (58 ≤ z ∧ z < 130) → b' z = b z) ∧ ((f_X11_go m 0 (zI w) (zI (a % b 0)) X).bind fun (v176 : (Int32 × KM)) => lp_L_law_1095 m Ln xs 0 228 c4 c5 c6 (zI (w + 1)) v176.2 κ) = κ Y := by
      obtain ⟨r, Z, d, e, hZ, hd⟩ := s_go (b := b) (n := m) (x := w) (y := a % b 0) (by omega) (by omega) ⟨y1, y2⟩ X none hX
      rw [e, Option.bind_some]
      exact nxt Z d hZ hd
    have leads : ∀ s : Int32, ∃ Y, (∃ b', SS Y b' none ∧ ∀ z, ¬ (58 ≤ z ∧ z < 130) → b' z = b z) ∧ ((f_X11_lead m 0 (zI w) s (zI (a % b 0)) X).bind fun (v176 : (Int32 × KM)) => lp_L_law_1095 m Ln xs 0 228 c4 c5 c6 (zI (w + 1)) v176.2 κ) = κ Y := by
      intro s
      obtain ⟨r, Z, d, e, hZ, hd⟩ := s_lead (b := b) (n := m) (x := w) (y := a % b 0) (z := s.toInt) (by omega) (by omega) ⟨y1, y2⟩ (Int32.le_toInt s) (Int32.toInt_lt s) X none hX
      rw [← z_of] at e
      rw [e, Option.bind_some]
      exact nxt Z d hZ hd
    rw [lp_L_law_1095]
    simp only [zl]
    rw [if_pos (ixP (by omega) (by omega) (by omega)), h2, if_neg (leN (by omega) (by omega) (by omega)), if_pos (ixP (by omega) (by omega) (by omega)), h0, if_pos (eqN (by omega) (by omega) (by omega) (by omega) (by omega)), zadd, ea, ey]
    dsimp only [lt]
    rw [if_pos (ixP (by omega) (by omega) (by omega))]
    generalize (c6 >>> (zI 4 &&& zI 31) &&& zI 15 &&& (zI 1 <<< (zI (b 2) &&& zI 31) - zI 1) &&& (zI 1 <<< (zI w &&& zI 31) ^^^ -zI 1)) = s
    rw [zadd]
    by_cases q1 : (c6 >>> (zI w &&& zI 31)) &&& zI 1 = zI 0
    · rw [if_pos q1]
      by_cases q2 : s ≤ zI 0
      · rw [if_pos q2]; exact goes
      · rw [if_neg q2]; exact leads s
    · rw [if_neg q1]; exact goes
