/-! ===== one minute of the reference ===== -/
abbrev wkB (b : Int → Int) (q : Int) : Int := if 0 ≤ b (82 + q) then b (82 + q) else q
abbrev caB (b : Int → Int) (q : Int) : Prop := canB b (wkB b q) (b (122 + q)) (glB b (b 5))
abbrev thB (b : Int → Int) (q : Int) : Prop := caB b q ∧ b (74 + q) = 1
def mn99 (v : Int) : Int := if v + 1 < 99 then v + 1 else 99
def debt (v m : Int) : Int := if -9999 < (if v + m < 9999 then v + m else 9999) then (if v + m < 9999 then v + m else 9999) else -9999
def colF (b : Int → Int) (j q : Int) : Int := if caB b q then (if b (74 + q) = 1 then (if j = 0 then b (66 + q) else if j = 1 then -1 else if j = 2 then 0 else if j = 3 then -1 else b (58 + 8 * j + q)) else (if j = 2 then b (74 + q) - 1 else b (58 + 8 * j + q))) else (if j = 4 then b (90 + q) + 1 else b (58 + 8 * j + q))
/-- the block when those of A have had their minute -/
def bM (b : Int → Int) (A : Int → Bool) : Int → Int := fun z =>
  if 58 ≤ z ∧ z < 130 then (if A ((z - 58) % 8) = true then colF b ((z - 58) / 8) ((z - 58) % 8) else b z)
  else if 130 ≤ z ∧ z < 226 then (if A ((z - 130) / 12) = true ∧ thB b ((z - 130) / 12) ∧ (z - 130) % 12 = b (122 + (z - 130) / 12) then mn99 (b z) else b z)
  else if 226 ≤ z ∧ z < 290 then (if A ((z - 226) / 8) = true ∧ thB b ((z - 226) / 8) ∧ b (82 + (z - 226) / 8) = (z - 226) % 8 then debt (b z) (b (34 + b (122 + (z - 226) / 8))) else if A ((z - 226) % 8) = true ∧ thB b ((z - 226) % 8) ∧ b (82 + (z - 226) % 8) = (z - 226) / 8 then -debt (b (226 + 8 * ((z - 226) % 8) + (z - 226) / 8)) (b (34 + b (122 + (z - 226) % 8))) else b z)
  else b z
theorem bM_f {b : Int → Int} {A : Int → Bool} {q j : Int} (h1 : 0 ≤ q) (h2 : q < 8) (h3 : 0 ≤ j) (h4 : j < 9) : bM b A (58 + 8 * j + q) = if A q = true then colF b j q else b (58 + 8 * j + q) := by
  unfold bM
  rw [if_pos (by omega), show (58 + 8 * j + q - 58) % 8 = q by omega, show (58 + 8 * j + q - 58) / 8 = j by omega]
theorem bM_g {b : Int → Int} {A : Int → Bool} {q r : Int} (h1 : 0 ≤ q) (h2 : q < 8) (h3 : 0 ≤ r) (h4 : r < 12) : bM b A (130 + 12 * q + r) = if A q = true ∧ thB b q ∧ r = b (122 + q) then mn99 (b (130 + 12 * q + r)) else b (130 + 12 * q + r) := by
  unfold bM
  rw [if_neg (by omega), if_pos (by omega), show (130 + 12 * q + r - 130) % 12 = r by omega, show (130 + 12 * q + r - 130) / 12 = q by omega]
theorem bM_w {b : Int → Int} {A : Int → Bool} {x y : Int} (h1 : 0 ≤ x) (h2 : x < 8) (h3 : 0 ≤ y) (h4 : y < 8) : bM b A (226 + 8 * x + y) = if A x = true ∧ thB b x ∧ b (82 + x) = y then debt (b (226 + 8 * x + y)) (b (34 + b (122 + x))) else if A y = true ∧ thB b y ∧ b (82 + y) = x then -debt (b (226 + 8 * y + x)) (b (34 + b (122 + y))) else b (226 + 8 * x + y) := by
  unfold bM
  rw [if_neg (by omega), if_neg (by omega), if_pos (by omega), show (226 + 8 * x + y - 226) % 8 = y by omega, show (226 + 8 * x + y - 226) / 8 = x by omega]
theorem bM_o {b : Int → Int} {A : Int → Bool} {z : Int} (h : ¬ (58 ≤ z ∧ z < 290)) : bM b A z = b z := by
  unfold bM
  rw [if_neg (by omega), if_neg (by omega), if_neg (by omega)]
theorem bM_n {b : Int → Int} {A : Int → Bool} {q j : Int} (h1 : 0 ≤ q) (h2 : q < 8) (h3 : 0 ≤ j) (h4 : j < 9) (hA : A q = false) : bM b A (58 + 8 * j + q) = b (58 + 8 * j + q) := by
  rw [bM_f h1 h2 h3 h4, hA, if_neg (by decide)]
def adA (A : Int → Bool) (q : Int) : Int → Bool := fun i => A i || decide (i = q)
theorem adA_s {A : Int → Bool} {q : Int} : adA A q q = true := by unfold adA; simp
theorem adA_o {A : Int → Bool} {q i : Int} (h : ¬ i = q) : adA A q i = A i := by unfold adA; simp [h]
/-- two blocks are alike if they are, cell by cell -/
theorem cells_ext {b d : Int → Int} (h0 : ∀ z, ¬ (58 ≤ z ∧ z < 290) → b z = d z) (h1 : ∀ q j, 0 ≤ q → q < 8 → 0 ≤ j → j < 9 → b (58 + 8 * j + q) = d (58 + 8 * j + q)) (h2 : ∀ q r, 0 ≤ q → q < 8 → 0 ≤ r → r < 12 → b (130 + 12 * q + r) = d (130 + 12 * q + r)) (h3 : ∀ x y, 0 ≤ x → x < 8 → 0 ≤ y → y < 8 → b (226 + 8 * x + y) = d (226 + 8 * x + y)) : b = d := by
  funext z
  by_cases w : 58 ≤ z ∧ z < 290
  · by_cases v : z < 130
    · have e := h1 ((z - 58) % 8) ((z - 58) / 8) (by omega) (by omega) (by omega) (by omega)
      rw [show 58 + 8 * ((z - 58) / 8) + (z - 58) % 8 = z by omega] at e
      exact e
    · by_cases u : z < 226
      · have e := h2 ((z - 130) / 12) ((z - 130) % 12) (by omega) (by omega) (by omega) (by omega)
        rw [show 130 + 12 * ((z - 130) / 12) + (z - 130) % 12 = z by omega] at e
        exact e
      · have e := h3 ((z - 226) / 8) ((z - 226) % 8) (by omega) (by omega) (by omega) (by omega)
        rw [show 226 + 8 * ((z - 226) / 8) + (z - 226) % 8 = z by omega] at e
        exact e
  · exact h0 z w
/-- not able: lost a minute more -/
theorem bM_lost {b : Int → Int} {A : Int → Bool} {q : Int} (h1 : 0 ≤ q) (h2 : q < 8) (hA : A q = false) (hc : ¬ caB b q) : bu (bM b A) (90 + q) (b (90 + q) + 1) = bM b (adA A q) := by
  refine cells_ext (fun z h => ?_) (fun i j u v x y => ?_) (fun i r u v x y => ?_) (fun i k u v x y => ?_)
  · rw [bu_o (by omega), bM_o h, bM_o h]
  · rw [bM_f u v x y]
    by_cases e : i = q
    · subst e
      rw [adA_s, if_pos rfl]
      unfold colF
      rw [if_neg hc]
      by_cases w : j = 4
      · subst w
        rw [show 58 + 8 * 4 + i = 90 + i by omega, bu_s, if_pos rfl]
      · rw [bu_o (by omega), if_neg w, bM_n u v x y hA]
    · rw [bu_o (by omega), adA_o e, bM_f u v x y]
  · rw [bu_o (by omega), bM_g u v x y, bM_g u v x y]
    by_cases e : i = q
    · subst e
      rw [if_neg (fun z => hc z.2.1.1), if_neg (fun z => hc z.2.1.1)]
    · rw [adA_o e]
  · rw [bu_o (by omega), bM_w u v x y, bM_w u v x y]
    have e1 : ∀ i, (adA A q i = true ∧ thB b i) ↔ (A i = true ∧ thB b i) := fun i => by
      by_cases e : i = q
      · subst e
        exact ⟨fun z => absurd z.2.1 hc, fun z => absurd z.2.1 hc⟩
      · rw [adA_o e]
    have e2 : (adA A q i = true ∧ thB b i ∧ b (82 + i) = k) ↔ (A i = true ∧ thB b i ∧ b (82 + i) = k) := by rw [← and_assoc, e1, and_assoc]
    have e3 : (adA A q k = true ∧ thB b k ∧ b (82 + k) = i) ↔ (A k = true ∧ thB b k ∧ b (82 + k) = i) := by rw [← and_assoc, e1, and_assoc]
    simp only [e2, e3]
/-- able, not there yet: a minute less left -/
theorem bM_goes {b : Int → Int} {A : Int → Bool} {q : Int} (h1 : 0 ≤ q) (h2 : q < 8) (hA : A q = false) (hc : caB b q) (hn : ¬ b (74 + q) = 1) : bu (bM b A) (74 + q) (b (74 + q) - 1) = bM b (adA A q) := by
  refine cells_ext (fun z h => ?_) (fun i j u v x y => ?_) (fun i r u v x y => ?_) (fun i k u v x y => ?_)
  · rw [bu_o (by omega), bM_o h, bM_o h]
  · rw [bM_f u v x y]
    by_cases e : i = q
    · subst e
      rw [adA_s, if_pos rfl]
      unfold colF
      rw [if_pos hc, if_neg hn]
      by_cases w : j = 2
      · subst w
        rw [show 58 + 8 * 2 + i = 74 + i by omega, bu_s, if_pos rfl]
      · rw [bu_o (by omega), if_neg w, bM_n u v x y hA]
    · rw [bu_o (by omega), adA_o e, bM_f u v x y]
  · rw [bu_o (by omega), bM_g u v x y, bM_g u v x y]
    by_cases e : i = q
    · subst e
      rw [if_neg (fun z => hn z.2.1.2), if_neg (fun z => hn z.2.1.2)]
    · rw [adA_o e]
  · rw [bu_o (by omega), bM_w u v x y, bM_w u v x y]
    have e1 : ∀ i, (adA A q i = true ∧ thB b i) ↔ (A i = true ∧ thB b i) := fun i => by
      by_cases e : i = q
      · subst e
        exact ⟨fun z => absurd z.2.2 hn, fun z => absurd z.2.2 hn⟩
      · rw [adA_o e]
    have e2 : (adA A q i = true ∧ thB b i ∧ b (82 + i) = k) ↔ (A i = true ∧ thB b i ∧ b (82 + i) = k) := by rw [← and_assoc, e1, and_assoc]
    have e3 : (adA A q k = true ∧ thB b k ∧ b (82 + k) = i) ↔ (A k = true ∧ thB b k ∧ b (82 + k) = i) := by rw [← and_assoc, e1, and_assoc]
    simp only [e2, e3]
/-- there, who goes by himself -/
theorem bM_there {b : Int → Int} {A : Int → Bool} {q : Int} (h1 : 0 ≤ q) (h2 : q < 8) (hA : A q = false) (hc : caB b q) (hn : b (74 + q) = 1) (hl : b (82 + q) = -1) (hr1 : 0 ≤ b (122 + q)) (hr2 : b (122 + q) < 12) : bu (bu (bu (bu (bM b A) (58 + q) (b (66 + q))) (66 + q) (-1)) (74 + q) 0) (130 + 12 * q + b (122 + q)) (mn99 (b (130 + 12 * q + b (122 + q)))) = bM b (adA A q) := by
  refine cells_ext (fun z h => ?_) (fun i j u v x y => ?_) (fun i r u v x y => ?_) (fun i k u v x y => ?_)
  · rw [bu_o (by omega), bu_o (by omega), bu_o (by omega), bu_o (by omega), bM_o h, bM_o h]
  · rw [bM_f u v x y]
    by_cases e : i = q
    · subst e
      rw [adA_s, if_pos rfl]
      unfold colF
      rw [if_pos hc, if_pos hn, bu_o (by omega)]
      by_cases w0 : j = 0
      · subst w0
        rw [show 58 + 8 * 0 + i = 58 + i by omega, bu_o (by omega), bu_o (by omega), bu_s, if_pos rfl]
      · rw [if_neg w0]
        by_cases w1 : j = 1
        · subst w1
          rw [show 58 + 8 * 1 + i = 66 + i by omega, bu_o (by omega), bu_s, if_pos rfl]
        · rw [if_neg w1]
          by_cases w2 : j = 2
          · subst w2
            rw [show 58 + 8 * 2 + i = 74 + i by omega, bu_s, if_pos rfl]
          · rw [if_neg w2, bu_o (by omega), bu_o (by omega), bu_o (by omega), bM_n u v x y hA]
            by_cases w3 : j = 3
            · subst w3
              rw [if_pos rfl, show 58 + 8 * 3 + i = 82 + i by omega, hl]
            · rw [if_neg w3]
    · rw [bu_o (by omega), bu_o (by omega), bu_o (by omega), bu_o (by omega), adA_o e, bM_f u v x y]
  · rw [bM_g u v x y]
    by_cases e : i = q ∧ r = b (122 + q)
    · obtain ⟨rfl, rfl⟩ := e
      rw [bu_s, if_pos ⟨adA_s, ⟨hc, hn⟩, rfl⟩]
    · rw [bu_o (by omega), bu_o (by omega), bu_o (by omega), bu_o (by omega), bM_g u v x y]
      by_cases w : i = q
      · subst w
        rw [if_neg (fun z => e ⟨rfl, z.2.2⟩), if_neg (fun z => e ⟨rfl, z.2.2⟩)]
      · rw [adA_o w]
  · rw [bu_o (by omega), bu_o (by omega), bu_o (by omega), bu_o (by omega), bM_w u v x y, bM_w u v x y]
    have e1 : ∀ i k, 0 ≤ k → ((adA A q i = true ∧ thB b i ∧ b (82 + i) = k) ↔ (A i = true ∧ thB b i ∧ b (82 + i) = k)) := fun i k hk => by
      by_cases e : i = q
      · subst e
        exact ⟨fun z => by omega, fun z => by omega⟩
      · rw [adA_o e]
    simp only [e1 i k x, e1 k i u]
/-- there, who is led by p -/
theorem bM_led {b : Int → Int} {A : Int → Bool} {q p : Int} (h1 : 0 ≤ q) (h2 : q < 8) (hp1 : 0 ≤ p) (hp2 : p < 8) (hA : A q = false) (hc : caB b q) (hn : b (74 + q) = 1) (hl : b (82 + q) = p) (hpl : b (82 + p) = -1) (hpq : ¬ p = q) (hr1 : 0 ≤ b (122 + q)) (hr2 : b (122 + q) < 12) (hw : b (226 + 8 * p + q) = -b (226 + 8 * q + p)) : bu (bu (bu (bu (bu (bu (bu (bM b A) (58 + q) (b (66 + q))) (66 + q) (-1)) (74 + q) 0) (130 + 12 * q + b (122 + q)) (mn99 (b (130 + 12 * q + b (122 + q))))) (82 + q) (-1)) (226 + 8 * q + p) (debt (b (226 + 8 * q + p)) (b (34 + b (122 + q))))) (226 + 8 * p + q) (-debt (b (226 + 8 * q + p)) (b (34 + b (122 + q)))) = bM b (adA A q) := by
  refine cells_ext (fun z h => ?_) (fun i j u v x y => ?_) (fun i r u v x y => ?_) (fun i k u v x y => ?_)
  · rw [bu_o (by omega), bu_o (by omega), bu_o (by omega), bu_o (by omega), bu_o (by omega), bu_o (by omega), bu_o (by omega), bM_o h, bM_o h]
  · rw [bM_f u v x y, bu_o (by omega), bu_o (by omega)]
    by_cases e : i = q
    · subst e
      rw [adA_s, if_pos rfl]
      unfold colF
      rw [if_pos hc, if_pos hn]
      by_cases w0 : j = 0
      · subst w0
        rw [show 58 + 8 * 0 + i = 58 + i by omega, bu_o (by omega), bu_o (by omega), bu_o (by omega), bu_o (by omega), bu_s, if_pos rfl]
      · rw [if_neg w0]
        by_cases w1 : j = 1
        · subst w1
          rw [show 58 + 8 * 1 + i = 66 + i by omega, bu_o (by omega), bu_o (by omega), bu_o (by omega), bu_s, if_pos rfl]
        · rw [if_neg w1]
          by_cases w2 : j = 2
          · subst w2
            rw [show 58 + 8 * 2 + i = 74 + i by omega, bu_o (by omega), bu_o (by omega), bu_s, if_pos rfl]
          · rw [if_neg w2]
            by_cases w3 : j = 3
            · subst w3
              rw [show 58 + 8 * 3 + i = 82 + i by omega, bu_s, if_pos rfl]
            · rw [if_neg w3, bu_o (by omega), bu_o (by omega), bu_o (by omega), bu_o (by omega), bu_o (by omega), bM_n u v x y hA]
    · rw [bu_o (by omega), bu_o (by omega), bu_o (by omega), bu_o (by omega), bu_o (by omega), adA_o e, bM_f u v x y]
  · rw [bM_g u v x y, bu_o (by omega), bu_o (by omega), bu_o (by omega)]
    by_cases e : i = q ∧ r = b (122 + q)
    · obtain ⟨rfl, rfl⟩ := e
      rw [bu_s, if_pos ⟨adA_s, ⟨hc, hn⟩, rfl⟩]
    · rw [bu_o (by omega), bu_o (by omega), bu_o (by omega), bu_o (by omega), bM_g u v x y]
      by_cases w : i = q
      · subst w
        rw [if_neg (fun z => e ⟨rfl, z.2.2⟩), if_neg (fun z => e ⟨rfl, z.2.2⟩)]
      · rw [adA_o w]
  · rw [bM_w u v x y]
    by_cases w1 : i = q ∧ k = p
    · obtain ⟨rfl, rfl⟩ := w1
      rw [bu_o (by omega), bu_s, if_pos ⟨adA_s, ⟨hc, hn⟩, hl⟩]
    · by_cases w2 : i = p ∧ k = q
      · obtain ⟨rfl, rfl⟩ := w2
        rw [bu_s, if_neg (fun z => by rw [hpl] at z; omega), if_pos ⟨adA_s, ⟨hc, hn⟩, hl⟩]
      · rw [bu_o (by omega), bu_o (by omega), bu_o (by omega), bu_o (by omega), bu_o (by omega), bu_o (by omega), bu_o (by omega), bM_w u v x y]
        have e1 : ∀ i k, ¬ (i = q ∧ k = p) → ((adA A q i = true ∧ thB b i ∧ b (82 + i) = k) ↔ (A i = true ∧ thB b i ∧ b (82 + i) = k)) := fun i k hk => by
          by_cases e : i = q
          · subst e
            exact ⟨fun z => absurd ⟨rfl, by rw [← z.2.2, hl]⟩ hk, fun z => absurd ⟨rfl, by rw [← z.2.2, hl]⟩ hk⟩
          · rw [adA_o e]
        simp only [e1 i k w1, e1 k i (fun z => w2 ⟨z.2, z.1⟩)]

