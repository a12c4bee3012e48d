/-! ===== many minutes, in one ===== -/
/-- the pace of p on road r: 0 always, 1 out of the glare, 2 never -/
def pcB (b : Int → Int) (p r : Int) : Int := if b (106 + p) = 1 then (if b (46 + r) = 1 ∨ b 7 ≤ b (130 + 12 * p + r) then 0 else 2) else (if b (98 + p) = 1 ∨ ¬ b 9 = 0 then 0 else 1)
def pcQ (b : Int → Int) (q : Int) : Int := pcB b (wkB b q) (b (122 + q))
def kQ (b : Int → Int) (n q : Int) : Int := mvI (b 3) (b 4) (pcQ b q) (b 5) n
def dQ (b : Int → Int) (q : Int) : Int := dnI (b 3) (b 4) (pcQ b q) (b 5) (b (74 + q)) - b 5
abbrev goQ (b : Int → Int) (q : Int) : Prop := 0 ≤ q ∧ q < b 2 ∧ 0 ≤ b (66 + q)
abbrev arQ (b : Int → Int) (n q : Int) : Prop := goQ b q ∧ b (74 + q) ≤ kQ b n q
def cF (b : Int → Int) (n j q : Int) : Int := if goQ b q then (if b (74 + q) ≤ kQ b n q then (if j = 0 then b (66 + q) else if j = 1 then -1 else if j = 2 then 0 else if j = 3 then -1 else if j = 4 then b (90 + q) + (dQ b q - b (74 + q)) else b (58 + 8 * j + q)) else (if j = 2 then b (74 + q) - kQ b n q else if j = 4 then b (90 + q) + (n - kQ b n q) else b (58 + 8 * j + q))) else b (58 + 8 * j + q)
def cI (b : Int → Int) (n : Int) : Int → Int := fun z =>
  if z = 5 then b 5 + n
  else if 58 ≤ z ∧ z < 130 then cF b n ((z - 58) / 8) ((z - 58) % 8)
  else if 130 ≤ z ∧ z < 226 then (if arQ b n ((z - 130) / 12) ∧ (z - 130) % 12 = b (122 + (z - 130) / 12) then mn99 (b z) else b z)
  else if 226 ≤ z ∧ z < 290 then (if arQ b n ((z - 226) / 8) ∧ b (82 + (z - 226) / 8) = (z - 226) % 8 then debt (b z) (b (34 + b (122 + (z - 226) / 8))) else if arQ b n ((z - 226) % 8) ∧ b (82 + (z - 226) % 8) = (z - 226) / 8 then -debt (b (226 + 8 * ((z - 226) % 8) + (z - 226) / 8)) (b (34 + b (122 + (z - 226) % 8))) else b z)
  else b z
theorem cI_5 {b : Int → Int} {n : Int} : cI b n 5 = b 5 + n := if_pos rfl
theorem cI_f {b : Int → Int} {n q j : Int} (h1 : 0 ≤ q) (h2 : q < 8) (h3 : 0 ≤ j) (h4 : j < 9) : cI b n (58 + 8 * j + q) = cF b n j q := by
  unfold cI
  rw [if_neg (by omega), if_pos (by omega), show (58 + 8 * j + q - 58) % 8 = q by omega, show (58 + 8 * j + q - 58) / 8 = j by omega]
theorem cI_g {b : Int → Int} {n q r : Int} (h1 : 0 ≤ q) (h2 : q < 8) (h3 : 0 ≤ r) (h4 : r < 12) : cI b n (130 + 12 * q + r) = if arQ b n q ∧ r = b (122 + q) then mn99 (b (130 + 12 * q + r)) else b (130 + 12 * q + r) := by
  unfold cI
  rw [if_neg (by omega), if_neg (by omega), if_pos (by omega), show (130 + 12 * q + r - 130) % 12 = r by omega, show (130 + 12 * q + r - 130) / 12 = q by omega]
theorem cI_w {b : Int → Int} {n x y : Int} (h1 : 0 ≤ x) (h2 : x < 8) (h3 : 0 ≤ y) (h4 : y < 8) : cI b n (226 + 8 * x + y) = if arQ b n x ∧ b (82 + x) = y then debt (b (226 + 8 * x + y)) (b (34 + b (122 + x))) else if arQ b n y ∧ b (82 + y) = x then -debt (b (226 + 8 * y + x)) (b (34 + b (122 + y))) else b (226 + 8 * x + y) := by
  unfold cI
  rw [if_neg (by omega), if_neg (by omega), if_neg (by omega), if_pos (by omega), show (226 + 8 * x + y - 226) % 8 = y by omega, show (226 + 8 * x + y - 226) / 8 = x by omega]
theorem cI_o {b : Int → Int} {n z : Int} (h : ¬ (58 ≤ z ∧ z < 290)) (h5 : ¬ z = 5) : cI b n z = b z := by
  unfold cI
  rw [if_neg h5, if_neg (by omega), if_neg (by omega), if_neg (by omega)]
theorem pcB_r {b : Int → Int} {p r : Int} : pcB b p r = 0 ∨ pcB b p r = 1 ∨ pcB b p r = 2 := by
  unfold pcB
  by_cases a : b (106 + p) = 1
  · rw [if_pos a]
    by_cases c : b (46 + r) = 1 ∨ b 7 ≤ b (130 + 12 * p + r)
    · rw [if_pos c]; exact Or.inl rfl
    · rw [if_neg c]; exact Or.inr (Or.inr rfl)
  · rw [if_neg a]
    by_cases c : b (98 + p) = 1 ∨ ¬ b 9 = 0
    · rw [if_pos c]; exact Or.inl rfl
    · rw [if_neg c]; exact Or.inr (Or.inl rfl)
/-- who can, by his pace -/
theorem can_pc {b : Int → Int} {p r m : Int} (h1 : 0 ≤ b (106 + p)) (h2 : b (106 + p) ≤ 1) : canB b p r (glB b m) ↔ (pcB b p r = 0 ∨ (pcB b p r = 1 ∧ ¬ glH (b 3) (b 4) m)) := by
  unfold pcB
  by_cases a : b (106 + p) = 1
  · rw [if_pos a]
    by_cases c : b (46 + r) = 1 ∨ b 7 ≤ b (130 + 12 * p + r)
    · rw [if_pos c]
      exact ⟨fun _ => Or.inl rfl, fun _ => Or.inl ⟨a, c⟩⟩
    · rw [if_neg c]
      exact ⟨fun z => z.elim (fun y => absurd y.2 c) (fun y => by omega), fun z => z.elim (fun y => absurd y (by decide)) (fun y => absurd y.1 (by decide))⟩
  · rw [if_neg a]
    by_cases c : b (98 + p) = 1 ∨ ¬ b 9 = 0
    · rw [if_pos c]
      refine ⟨fun _ => Or.inl rfl, fun _ => Or.inr ⟨by omega, ?_⟩⟩
      rcases c with c | c
      · exact Or.inr c
      · exact Or.inl (fun z => c z.1)
    · rw [if_neg c]
      constructor
      · intro z
        refine Or.inr ⟨rfl, ?_⟩
        rcases z with z | z
        · exact absurd z.1 a
        · rcases z.2 with y | y
          · intro g
            exact y ⟨by omega, g.1, g.2⟩
          · exact absurd (Or.inl y) c
      · intro z
        rcases z with z | z
        · exact absurd z (by decide)
        · exact Or.inr ⟨by omega, Or.inl (fun y => z.2 ⟨y.2.1, y.2.2⟩)⟩
theorem pcQ_led {b : Int → Int} {q p : Int} (hb : WB b) (h1 : 0 ≤ q) (h2 : q < b 2) (hp : 0 ≤ p) (h : b (82 + q) = p) : pcQ b p = pcQ b q := by
  obtain ⟨a1, a2, a3, a4, a5, a6, a7, a8, a9, a10, a11, a12⟩ := led_of hb h1 h2 hp h
  unfold pcQ
  rw [a9, a10, a6]
theorem wk_of {b : Int → Int} {q : Int} (hb : WB b) (h : goQ b q) : goQ b (wkB b q) ∧ pcQ b (wkB b q) = pcQ b q ∧ b (74 + wkB b q) = b (74 + q) ∧ b (122 + wkB b q) = b (122 + q) := by
  have e := WPb hb h.1 h.2.1
  by_cases l : 0 ≤ b (82 + q)
  · obtain ⟨a1, a2, a3, a4, a5, a6, a7, a8, a9, a10, a11, a12⟩ := led_of hb h.1 h.2.1 l rfl
    have ep := pcQ_led hb h.1 h.2.1 l rfl
    rw [wk_l l]
    exact ⟨⟨l, a1, by omega⟩, ep, a7, a6⟩
  · rw [wk_s l]
    exact ⟨h, rfl, rfl, rfl⟩
theorem cF_g0 {b : Int → Int} {n j q : Int} (h : ¬ goQ b q) : cF b n j q = b (58 + 8 * j + q) := by
  unfold cF
  rw [if_neg h]
theorem cF_on {b : Int → Int} {n j q : Int} (h : goQ b q) (ha : ¬ arQ b n q) : cF b n j q = (if j = 2 then b (74 + q) - kQ b n q else if j = 4 then b (90 + q) + (n - kQ b n q) else b (58 + 8 * j + q)) := by
  unfold cF
  rw [if_pos h, if_neg (fun z => ha ⟨h, z⟩)]
theorem cF_ar {b : Int → Int} {n j q : Int} (ha : arQ b n q) : cF b n j q = (if j = 0 then b (66 + q) else if j = 1 then -1 else if j = 2 then 0 else if j = 3 then -1 else if j = 4 then b (90 + q) + (dQ b q - b (74 + q)) else b (58 + 8 * j + q)) := by
  unfold cF
  rw [if_pos ha.1, if_pos ha.2]
/-- someone on his way after n minutes: whether he can get on -/
theorem ca_on {b : Int → Int} {n q : Int} (hb : WB b) (h : goQ b q) (ha : ¬ arQ b n q) : caB (cI b n) q ↔ (pcQ b q = 0 ∨ (pcQ b q = 1 ∧ ¬ glH (b 3) (b 4) (b 5 + n))) := by
  have hh := hb.1
  unfold WH at hh
  have ep := WP_of hb h.1 h.2.1
  unfold WP at ep
  obtain ⟨w1, w2, w3, w4⟩ := wk_of hb h
  have c82 : cI b n (82 + q) = b (82 + q) := by
    have e := cI_f (b := b) (n := n) (q := q) (j := 3) h.1 (by omega) (by omega) (by omega)
    rw [cF_on h ha] at e
    exact e
  have c122 : cI b n (122 + q) = b (122 + q) := by
    have e := cI_f (b := b) (n := n) (q := q) (j := 8) h.1 (by omega) (by omega) (by omega)
    rw [cF_on h ha] at e
    exact e
  have ew : wkB (cI b n) q = wkB b q := by
    show (if 0 ≤ cI b n (82 + q) then cI b n (82 + q) else q) = _
    rw [c82]
  show canB (cI b n) (wkB (cI b n) q) (cI b n (122 + q)) (glB (cI b n) (cI b n 5)) ↔ _
  rw [ew, c122, cI_5]
  unfold pcQ
  have aw : ¬ arQ b n (wkB b q) := fun z => ha ⟨h, by
    have e := z.2
    unfold kQ at e ⊢
    rw [w2, w3] at e
    exact e⟩
  generalize wkB b q = w at *
  have ez := WPb hb w1.1 w1.2.1
  have hr : 0 ≤ b (122 + q) ∧ b (122 + q) < b 1 := by omega
  have k : ∀ j, 5 ≤ j → j < 9 → cI b n (58 + 8 * j + w) = b (58 + 8 * j + w) := fun j u v => by
    rw [cI_f w1.1 (by omega) (by omega) v, cF_on w1 aw, if_neg (by omega), if_neg (by omega)]
  have k98 : cI b n (98 + w) = b (98 + w) := k 5 (by omega) (by omega)
  have k106 : cI b n (106 + w) = b (106 + w) := k 6 (by omega) (by omega)
  have k130 : cI b n (130 + 12 * w + b (122 + q)) = b (130 + 12 * w + b (122 + q)) := by
    rw [cI_g w1.1 (by omega) hr.1 (by omega), if_neg (fun z => aw z.1)]
  have o : ∀ z, z < 58 → ¬ z = 5 → cI b n z = b z := fun z u v => cI_o (by omega) v
  have e := can_pc (b := cI b n) (p := w) (r := b (122 + q)) (m := b 5 + n) (by omega) (by omega)
  have ex : pcB (cI b n) w (b (122 + q)) = pcB b w (b (122 + q)) := by
    unfold pcB
    rw [k106, k98, k130, o (46 + b (122 + q)) (by omega) (by omega), o 7 (by omega) (by omega), o 9 (by omega) (by omega)]
  rw [ex, o 3 (by omega) (by omega), o 4 (by omega) (by omega)] at e
  exact e

