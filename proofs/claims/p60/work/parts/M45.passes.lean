/-! ===== passes, as the class reckons it: its people, in one ===== -/
def gC (g : Int → Int → Int → Int) (b : Int → Int) (N : Int) (A B : Int → Bool) : Int → Int → Int → Int := fun p j k =>
  if j = 0 then (if k = 11 then (if A p = true then g p 0 11 + LO b N p else g p 0 11)
    else if B p = true then (if arQ b N p then (if k = 5 then b (66 + p) else if k = 6 then -1 else if k = 7 then -1 else if k = 8 then -1 else if k = 9 then -1 else if k = 10 then 0 else g p 0 k) else (if k = 10 ∧ b (82 + p) < 0 then g p 0 10 - kQ b N p else g p 0 k)) else g p 0 k)
  else if j = 1 then (if B p = true ∧ arQ b N p ∧ k = b (122 + p) then mn99 (g p 1 k) else g p 1 k)
  else if j = 2 then (if B p = true ∧ arQ b N p ∧ b (82 + p) = k ∧ 0 ≤ k then debt (g p 2 k) (b (34 + b (122 + p))) else if B k = true ∧ arQ b N k ∧ b (82 + k) = p ∧ 0 ≤ p then -debt (g k 2 p) (b (34 + b (122 + k))) else g p 2 k)
  else g p j k
theorem gC_11 {g : Int → Int → Int → Int} {b : Int → Int} {N p : Int} {A B : Int → Bool} : gC g b N A B p 0 11 = if A p = true then g p 0 11 + LO b N p else g p 0 11 := by
  unfold gC
  rw [if_pos rfl, if_pos rfl]
theorem gC_0 {g : Int → Int → Int → Int} {b : Int → Int} {N p k : Int} {A B : Int → Bool} (h : ¬ k = 11) : gC g b N A B p 0 k = if B p = true then (if arQ b N p then (if k = 5 then b (66 + p) else if k = 6 then -1 else if k = 7 then -1 else if k = 8 then -1 else if k = 9 then -1 else if k = 10 then 0 else g p 0 k) else (if k = 10 ∧ b (82 + p) < 0 then g p 0 10 - kQ b N p else g p 0 k)) else g p 0 k := by
  unfold gC
  rw [if_pos rfl, if_neg h]
theorem gC_1 {g : Int → Int → Int → Int} {b : Int → Int} {N p k : Int} {A B : Int → Bool} : gC g b N A B p 1 k = if B p = true ∧ arQ b N p ∧ k = b (122 + p) then mn99 (g p 1 k) else g p 1 k := by
  unfold gC
  rw [if_neg (by decide), if_pos rfl]
theorem gC_2 {g : Int → Int → Int → Int} {b : Int → Int} {N p k : Int} {A B : Int → Bool} : gC g b N A B p 2 k = if B p = true ∧ arQ b N p ∧ b (82 + p) = k ∧ 0 ≤ k then debt (g p 2 k) (b (34 + b (122 + p))) else if B k = true ∧ arQ b N k ∧ b (82 + k) = p ∧ 0 ≤ p then -debt (g k 2 p) (b (34 + b (122 + k))) else g p 2 k := by
  unfold gC
  rw [if_neg (by decide), if_neg (by decide), if_pos rfl]
theorem gC_x {g : Int → Int → Int → Int} {b : Int → Int} {N p j k : Int} {A B : Int → Bool} (h0 : ¬ j = 0) (h1 : ¬ j = 1) (h2 : ¬ j = 2) : gC g b N A B p j k = g p j k := by
  unfold gC
  rw [if_neg h0, if_neg h1, if_neg h2]
/-- what someone not yet reckoned has -/
theorem gC_n {g : Int → Int → Int → Int} {b : Int → Int} {N p k : Int} {A B : Int → Bool} (hB : B p = false) (h : ¬ k = 11) : gC g b N A B p 0 k = g p 0 k := by
  rw [gC_0 h, hB, if_neg (by decide)]
theorem gC_n1 {g : Int → Int → Int → Int} {b : Int → Int} {N p k : Int} {A B : Int → Bool} (hB : B p = false) : gC g b N A B p 1 k = g p 1 k := by
  rw [gC_1, hB, if_neg (fun z => absurd z.1 (by decide))]
theorem g_ext {g h : Int → Int → Int → Int} (h11 : ∀ p, g p 0 11 = h p 0 11) (h0 : ∀ p k, ¬ k = 11 → g p 0 k = h p 0 k) (h1 : ∀ p k, g p 1 k = h p 1 k) (h2 : ∀ p k, g p 2 k = h p 2 k) (hx : ∀ p j k, ¬ j = 0 → ¬ j = 1 → ¬ j = 2 → g p j k = h p j k) : g = h := by
  funext p j k
  by_cases j0 : j = 0
  · subst j0
    by_cases k11 : k = 11
    · subst k11; exact h11 p
    · exact h0 p k k11
  · by_cases j1 : j = 1
    · subst j1; exact h1 p k
    · by_cases j2 : j = 2
      · subst j2; exact h2 p k
      · exact hx p j k j0 j1 j2
/-- lost minutes of one more -/
theorem gC_A {g : Int → Int → Int → Int} {b : Int → Int} {N q v : Int} {A B : Int → Bool} (hA : A q = false) (hv : v = g q 0 11 + LO b N q) : gu (gC g b N A B) q 0 11 v = gC g b N (adA A q) B := by
  refine g_ext (fun p => ?_) (fun p k h => ?_) (fun p k => ?_) (fun p k => ?_) (fun p j k h0 h1 h2 => ?_)
  · rw [gC_11]
    by_cases e : p = q
    · subst e
      rw [gu_s, adA_s, if_pos rfl, hv]
    · rw [gu_o (fun z => e z.1), adA_o e, gC_11]
  · rw [gu_o (fun z => h z.2.2), gC_0 h, gC_0 h]
  · rw [gu_o (by omega), gC_1, gC_1]
  · rw [gu_o (by omega), gC_2, gC_2]
  · rw [gu_o (by omega), gC_x h0 h1 h2, gC_x h0 h1 h2]
/-- on, not there: the walker himself -/
theorem gC_N {g : Int → Int → Int → Int} {b : Int → Int} {N q v : Int} {A B : Int → Bool} (hB : B q = false) (hl : b (82 + q) < 0) (ha : ¬ arQ b N q) (hv : v = g q 0 10 - kQ b N q) : gu (gC g b N A B) q 0 10 v = gC g b N A (adA B q) := by
  refine g_ext (fun p => ?_) (fun p k h => ?_) (fun p k => ?_) (fun p k => ?_) (fun p j k h0 h1 h2 => ?_)
  · rw [gu_o (by omega), gC_11, gC_11]
  · rw [gC_0 h]
    by_cases e : p = q
    · subst e
      rw [adA_s, if_pos rfl, if_neg ha]
      by_cases e2 : k = 10
      · subst e2
        rw [gu_s, if_pos ⟨rfl, hl⟩, hv]
      · rw [gu_o (fun z => e2 z.2.2), gC_n hB h, if_neg (fun z => e2 z.1)]
    · rw [gu_o (fun z => e z.1), adA_o e, gC_0 h]
  · rw [gu_o (by omega), gC_1, gC_1]
    by_cases e : p = q
    · subst e
      rw [if_neg (fun z => ha z.2.1), if_neg (fun z => ha z.2.1)]
    · rw [adA_o e]
  · rw [gu_o (by omega), gC_2, gC_2]
    have e1 : ∀ i k, (adA B q i = true ∧ arQ b N i ∧ b (82 + i) = k ∧ 0 ≤ k) ↔ (B i = true ∧ arQ b N i ∧ b (82 + i) = k ∧ 0 ≤ k) := fun i k => by
      by_cases e : i = q
      · subst e
        exact ⟨fun z => absurd z.2.1 ha, fun z => absurd z.2.1 ha⟩
      · rw [adA_o e]
    simp only [e1]
  · rw [gu_o (by omega), gC_x h0 h1 h2, gC_x h0 h1 h2]
/-- on, not there: one who is led -/
theorem gC_L {g : Int → Int → Int → Int} {b : Int → Int} {N : Int} {A B B' : Int → Bool} (h : ∀ p, B' p = B p ∨ (¬ arQ b N p ∧ ¬ b (82 + p) < 0)) : gC g b N A B' = gC g b N A B := by
  have e : ∀ p (X : Prop), (B' p = true ∧ arQ b N p ∧ X) ↔ (B p = true ∧ arQ b N p ∧ X) := fun p X => by
    rcases h p with h | h
    · rw [h]
    · exact ⟨fun z => absurd z.2.1 h.1, fun z => absurd z.2.1 h.1⟩
  refine g_ext (fun p => ?_) (fun p k h2 => ?_) (fun p k => ?_) (fun p k => ?_) (fun p j k h0 h1 h2 => ?_)
  · rw [gC_11, gC_11]
  · rw [gC_0 h2, gC_0 h2]
    rcases h p with h | h
    · rw [h]
    · simp only [if_neg h.1, if_neg (show ¬ (k = 10 ∧ b (82 + p) < 0) from fun z => h.2 z.2), ite_self]
  · rw [gC_1, gC_1]
    simp only [e]
  · rw [gC_2, gC_2]
    simp only [e]
  · rw [gC_x h0 h1 h2, gC_x h0 h1 h2]
def stV (g : Int → Int → Int → Int) (q v : Int) : Int → Int → Int → Int := gu (gu (gu (gu (gu (gu g q 0 5 v) q 0 6 (-1)) q 0 7 (-1)) q 0 8 (-1)) q 0 9 (-1)) q 0 10 0
theorem stV_o {g : Int → Int → Int → Int} {q v p j k : Int} (h : ¬ (p = q ∧ j = 0 ∧ 5 ≤ k ∧ k ≤ 10)) : stV g q v p j k = g p j k := by
  unfold stV
  rw [gu_o (by omega), gu_o (by omega), gu_o (by omega), gu_o (by omega), gu_o (by omega), gu_o (by omega)]
theorem stV_s {g : Int → Int → Int → Int} {q v k : Int} (h1 : 5 ≤ k) (h2 : k ≤ 10) : stV g q v q 0 k = if k = 5 then v else if k = 10 then 0 else -1 := by
  have : k = 5 ∨ k = 6 ∨ k = 7 ∨ k = 8 ∨ k = 9 ∨ k = 10 := by omega
  unfold stV
  rcases this with rfl | rfl | rfl | rfl | rfl | rfl
  · rw [gu_o (by omega), gu_o (by omega), gu_o (by omega), gu_o (by omega), gu_o (by omega), gu_s, if_pos rfl]
  · rw [gu_o (by omega), gu_o (by omega), gu_o (by omega), gu_o (by omega), gu_s]; rfl
  · rw [gu_o (by omega), gu_o (by omega), gu_o (by omega), gu_s]; rfl
  · rw [gu_o (by omega), gu_o (by omega), gu_s]; rfl
  · rw [gu_o (by omega), gu_s]; rfl
  · rw [gu_s]; rfl
theorem gC_0s {g : Int → Int → Int → Int} {b : Int → Int} {N q k : Int} {A B : Int → Bool} (hB : B q = false) (ha : arQ b N q) (h : ¬ k = 11) (h5 : 5 ≤ k) (h6 : k ≤ 10) : gC g b N A (adA B q) q 0 k = if k = 5 then b (66 + q) else if k = 10 then 0 else -1 := by
  rw [gC_0 h, adA_s, if_pos rfl, if_pos ha]
  have : k = 5 ∨ k = 6 ∨ k = 7 ∨ k = 8 ∨ k = 9 ∨ k = 10 := by omega
  rcases this with rfl | rfl | rfl | rfl | rfl | rfl <;> rfl
theorem gC_0o {g : Int → Int → Int → Int} {b : Int → Int} {N q k : Int} {A B : Int → Bool} (hB : B q = false) (ha : arQ b N q) (h : ¬ k = 11) (h5 : ¬ (5 ≤ k ∧ k ≤ 10)) : gC g b N A (adA B q) q 0 k = g q 0 k := by
  rw [gC_0 h, adA_s, if_pos rfl, if_pos ha, if_neg (by omega), if_neg (by omega), if_neg (by omega), if_neg (by omega), if_neg (by omega), if_neg (by omega)]
/-- there: the walker himself -/
theorem gC_T {g : Int → Int → Int → Int} {b : Int → Int} {N q v : Int} {A B : Int → Bool} (hB : B q = false) (hl : b (82 + q) = -1) (ha : arQ b N q) (hv : v = mn99 (g q 1 (b (122 + q)))) : stV (gu (gC g b N A B) q 1 (b (122 + q)) v) q (b (66 + q)) = gC g b N A (adA B q) := by
  refine g_ext (fun p => ?_) (fun p k h => ?_) (fun p k => ?_) (fun p k => ?_) (fun p j k h0 h1 h2 => ?_)
  · rw [stV_o (by omega), gu_o (by omega), gC_11, gC_11]
  · by_cases e : p = q
    · subst e
      by_cases w : 5 ≤ k ∧ k ≤ 10
      · rw [stV_s w.1 w.2, gC_0s hB ha h w.1 w.2]
      · rw [stV_o (by omega), gu_o (by omega), gC_n hB h, gC_0o hB ha h w]
    · rw [stV_o (by omega), gu_o (by omega), gC_0 h, gC_0 h, adA_o e]
  · rw [stV_o (by omega)]
    by_cases e : p = q
    · subst e
      by_cases w : k = b (122 + p)
      · subst w
        rw [gu_s, gC_1, if_pos ⟨adA_s, ha, rfl⟩, hv]
      · rw [gu_o (fun z => w z.2.2), gC_n1 hB, gC_1, if_neg (fun z => w z.2.2)]
    · rw [gu_o (fun z => e z.1), gC_1, gC_1, adA_o e]
  · rw [stV_o (by omega), gu_o (by omega), gC_2, gC_2]
    have e1 : ∀ i k, (adA B q i = true ∧ arQ b N i ∧ b (82 + i) = k ∧ 0 ≤ k) ↔ (B i = true ∧ arQ b N i ∧ b (82 + i) = k ∧ 0 ≤ k) := fun i k => by
      by_cases e : i = q
      · subst e
        exact ⟨fun z => by omega, fun z => by omega⟩
      · rw [adA_o e]
    simp only [e1]
  · rw [stV_o (by omega), gu_o (by omega), gC_x h0 h1 h2, gC_x h0 h1 h2]
/-- there: one who is led -/
theorem gC_D {g : Int → Int → Int → Int} {b : Int → Int} {N q r v d : Int} {A B : Int → Bool} (hB : B q = false) (hl : b (82 + q) = r) (hr : 0 ≤ r) (hq : 0 ≤ q) (hr2 : b (82 + r) = -1) (hrq : ¬ r = q) (ha : arQ b N q) (hv : v = mn99 (g q 1 (b (122 + q)))) (hd : d = debt (g q 2 r) (b (34 + b (122 + q)))) : stV (gu (gu (gu (gC g b N A B) q 1 (b (122 + q)) v) q 2 r d) r 2 q (-d)) q (b (66 + q)) = gC g b N A (adA B q) := by
  refine g_ext (fun p => ?_) (fun p k h => ?_) (fun p k => ?_) (fun p k => ?_) (fun p j k h0 h1 h2 => ?_)
  · rw [stV_o (by omega), gu_o (by omega), gu_o (by omega), gu_o (by omega), gC_11, gC_11]
  · by_cases e : p = q
    · subst e
      by_cases w : 5 ≤ k ∧ k ≤ 10
      · rw [stV_s w.1 w.2, gC_0s hB ha h w.1 w.2]
      · rw [stV_o (by omega), gu_o (by omega), gu_o (by omega), gu_o (by omega), gC_n hB h, gC_0o hB ha h w]
    · rw [stV_o (by omega), gu_o (by omega), gu_o (by omega), gu_o (by omega), gC_0 h, gC_0 h, adA_o e]
  · rw [stV_o (by omega), gu_o (by omega), gu_o (by omega)]
    by_cases e : p = q
    · subst e
      by_cases w : k = b (122 + p)
      · subst w
        rw [gu_s, gC_1, if_pos ⟨adA_s, ha, rfl⟩, hv]
      · rw [gu_o (fun z => w z.2.2), gC_n1 hB, gC_1, if_neg (fun z => w z.2.2)]
    · rw [gu_o (fun z => e z.1), gC_1, gC_1, adA_o e]
  · rw [stV_o (by omega)]
    by_cases w1 : p = r ∧ k = q
    · obtain ⟨rfl, rfl⟩ := w1
      rw [gu_s, gC_2, if_neg (fun z => by omega), if_pos ⟨adA_s, ha, hl, hr⟩, hd]
    · rw [gu_o (by omega)]
      by_cases w2 : p = q ∧ k = r
      · obtain ⟨rfl, rfl⟩ := w2
        rw [gu_s, gC_2, if_pos ⟨adA_s, ha, hl, hr⟩, hd]
      · rw [gu_o (by omega), gu_o (by omega), gC_2, gC_2]
        have e1 : ∀ i k, ¬ (i = q ∧ k = r) → ((adA B q i = true ∧ arQ b N i ∧ b (82 + i) = k ∧ 0 ≤ k) ↔ (B i = true ∧ arQ b N i ∧ b (82 + i) = k ∧ 0 ≤ k)) := fun i k hn => by
          by_cases e : i = q
          · subst e
            exact ⟨fun z => by omega, fun z => by omega⟩
          · rw [adA_o e]
        simp only [e1 p k w2, e1 k p (fun z => w1 ⟨z.2, z.1⟩)]
  · rw [stV_o (by omega), gu_o (by omega), gu_o (by omega), gu_o (by omega), gC_x h0 h1 h2, gC_x h0 h1 h2]

