/-! ===== days: a whole run, in both ===== -/
/-- what a run leaves -/
def RunR (M : KM) (L : Nat) (b b' : Int → Int) (g' : Int → Int → Int → Int) (W : KM) (dn ms ar lf : Int) : Prop := W.2 = M.2 ∧ (∀ a k, ¬ (a = 12 ∨ a = 13) → ¬ (a = L ∧ (k = 11 ∨ k = 15)) → W.1 a k = M.1 a k) ∧ W.1 12 2 = zI dn ∧ W.1 12 3 = zI ms ∧ W.1 12 4 = zI (b' 5 - b 5) ∧ W.1 12 5 = zI ar ∧ W.1 12 6 = zI (sL b' - sL b) ∧ W.1 12 7 = zI lf ∧ HL W L b' ∧ GR g' b' ∧ WB b' ∧ b' 5 ≤ 99999 ∧ (∀ z, z < 58 → ¬ z = 5 → ¬ z = 9 → b' z = b z) ∧ (∀ z, 290 ≤ z → b' z = b z) ∧ (0 ≤ ms ∧ ms ≤ dn ∧ dn ≤ 300) ∧ (lf = 0 ∨ lf = 1)
def RunX (X : KM) (b b' : Int → Int) (X' : KM) (dn ms ar lf : Int) : Prop := X'.2 = X.2 ∧ (∀ a k, ¬ (a = 227 ∧ (k = 28 ∨ k = 29 ∨ (39 ≤ k ∧ k ≤ 46))) → X'.1 a k = X.1 a k) ∧ X'.1 227 41 = zI dn ∧ X'.1 227 42 = zI ms ∧ X'.1 227 43 = zI (b' 5 - b 5) ∧ X'.1 227 44 = zI ar ∧ X'.1 227 45 = zI (sL b' - sL b) ∧ X'.1 227 46 = zI lf
theorem sL_r {b : Int → Int} (hb : WB b) (hm : b 5 ≤ 99999) : 0 ≤ sL b ∧ sL b ≤ 800000 := by
  have hh := hb.1
  unfold WH at hh
  have i8 : 0 ≤ b 2 ∧ b 2 ≤ 8 := by omega
  clear hh
  have key : ∀ (k : Nat) (i w : Int), 0 ≤ i → i + k ≤ b 2 → w ≤ fI (fun i w => w + b (90 + i)) k i w ∧ fI (fun i w => w + b (90 + i)) k i w ≤ w + k * 100000 := by
    intro k
    induction k with
    | zero => intro i w _ _; simp [fI]
    | succ k ih =>
      intro i w h1 h2
      have z := WPb hb h1 (show i < b 2 by omega)
      have := ih (i + 1) (w + b (90 + i)) (by omega) (by omega)
      simp only [fI]
      omega
  have h := key (b 2).toNat 0 0 (by omega) (by omega)
  show 0 ≤ fI (fun i w => w + b (90 + i)) (b 2).toNat 0 0 ∧ fI (fun i w => w + b (90 + i)) (b 2).toNat 0 0 ≤ 800000
  omega
theorem run_both {M X : KM} {L P n : Nat} {b : Int → Int} {g : Int → Int → Int → Int} {x : Int} (hl : 23 ≤ L) (hPL : P = L + 8 ∨ (31 ≤ P ∧ P + 6 ≤ L) ∨ L + 38 ≤ P) (hP : M.2.2 L 7 = P) (hL : HL M L b) (hg : GR g b) (hb : WB b) (hm : b 5 ≤ 99999) (hR : PR M P b) (hx : 0 ≤ x ∧ x < 65536) (hn : 41100 ≤ n) : ∃ b' g' W X' dn ms ar lf, f_X4_run n 12 L (zI x) (ps M L g) = some (ps W L g') ∧ f_X12_runsDays n 227 (zI x) (cs X b) = some (cs X' b') ∧ RunR M L b b' g' W dn ms ar lf ∧ RunX X b b' X' dn ms ar lf := by
  obtain ⟨jt, r1, r2, r3, r4, r5, r6, r7, r8, r9, r10⟩ := hR
  obtain ⟨F, rfl⟩ : ∃ F, n = F + 40000 := ⟨n - 40000, by omega⟩
  have hC : Ctx M L P jt F (F + 40000) := ⟨hl, hPL, hP, r7, ⟨r1, r2⟩, by omega, by omega⟩
  let W := uI (uI (uI (uI (uI M 12 1 (zI x)) 12 2 (zI 0)) 12 3 (zI 0)) 12 5 (zI 0)) 12 7 (zI 0)
  let Xi := uI (uI (uI (uI (uI (uI (uI (uI X 227 40 (zI x)) 227 41 (zI 0)) 227 42 (zI 0)) 227 43 (zI 0)) 227 44 (zI 0)) 227 45 (zI 0)) 227 46 (zI 0)) 227 39 (zI 0)
  have hRC : RC M L b b g W x 0 0 0 0 := by
    refine ⟨⟨HL_12 hl (HL_12 hl (HL_12 hl (HL_12 hl (HL_12 hl hL)))), hg, hb, hm⟩, fun _ _ _ _ => rfl, fun _ _ => rfl, rfl, fun a k u v => ?_, ?_, ?_, ?_, ?_, uI_s, hx, by decide, by decide⟩
    · show (uI (uI (uI (uI (uI M 12 1 (zI x)) 12 2 (zI 0)) 12 3 (zI 0)) 12 5 (zI 0)) 12 7 (zI 0)).1 a k = _
      rw [uI_o (by omega), uI_o (by omega), uI_o (by omega), uI_o (by omega), uI_o (by omega)]
    · show (uI (uI (uI (uI (uI M 12 1 (zI x)) 12 2 (zI 0)) 12 3 (zI 0)) 12 5 (zI 0)) 12 7 (zI 0)).1 12 1 = _
      rw [uI_o (by omega), uI_o (by omega), uI_o (by omega), uI_o (by omega), uI_s]
    · show (uI (uI (uI (uI (uI M 12 1 (zI x)) 12 2 (zI 0)) 12 3 (zI 0)) 12 5 (zI 0)) 12 7 (zI 0)).1 12 2 = _
      rw [uI_o (by omega), uI_o (by omega), uI_o (by omega), uI_s]
    · show (uI (uI (uI (uI (uI M 12 1 (zI x)) 12 2 (zI 0)) 12 3 (zI 0)) 12 5 (zI 0)) 12 7 (zI 0)).1 12 3 = _
      rw [uI_o (by omega), uI_o (by omega), uI_s]
    · show (uI (uI (uI (uI (uI M 12 1 (zI x)) 12 2 (zI 0)) 12 3 (zI 0)) 12 5 (zI 0)) 12 7 (zI 0)).1 12 5 = _
      rw [uI_o (by omega), uI_s]
  have hRX : RX X b b Xi x 0 0 0 0 0 := by
    have z : ∀ a k, Xi.1 a k = (uI (uI (uI (uI (uI (uI (uI (uI X 227 40 (zI x)) 227 41 (zI 0)) 227 42 (zI 0)) 227 43 (zI 0)) 227 44 (zI 0)) 227 45 (zI 0)) 227 46 (zI 0)) 227 39 (zI 0)).1 a k := fun _ _ => rfl
    refine ⟨rfl, fun a k u => ?_, ?_, ?_, ?_, ?_, ?_, ?_, ?_, uI_s⟩
    · rw [z, uI_o (by omega), uI_o (by omega), uI_o (by omega), uI_o (by omega), uI_o (by omega), uI_o (by omega), uI_o (by omega), uI_o (by omega)]
    · rw [z, uI_o (by omega), uI_o (by omega), uI_o (by omega), uI_o (by omega), uI_o (by omega), uI_o (by omega), uI_o (by omega), uI_s]
    · rw [z, uI_o (by omega), uI_o (by omega), uI_o (by omega), uI_o (by omega), uI_o (by omega), uI_o (by omega), uI_s]
    · rw [z, uI_o (by omega), uI_o (by omega), uI_o (by omega), uI_o (by omega), uI_o (by omega), uI_s]
    · rw [z, uI_o (by omega), uI_o (by omega), uI_o (by omega), uI_o (by omega), uI_s, Int.sub_self]
    · rw [z, uI_o (by omega), uI_o (by omega), uI_o (by omega), uI_s]
    · rw [z, uI_o (by omega), uI_o (by omega), uI_s, Int.sub_self]
    · rw [z, uI_o (by omega), uI_s]
  let κ : KM → Option KM := fun M24 => lt (uI M24 12 4 ((M24.1 L 11) - zI (b 5))) fun (M25 : KM) => (f_X2_lostOfAll (F + 40000) L M25).bind fun (v26 : Int32) => lt (uI M25 12 6 (v26 - zI (sL b))) fun (M27 : KM) => some M27
  obtain ⟨b', g', W', X', dr', dn', ms', ar', lf', ov', t', hd, hq, kR, kX, km, kdn, klf, kfr⟩ := sim (κ := κ) (c4 := zI (b 5)) (c5 := zI (sL b)) (X0 := X) hC 61 3 0 (b 291) 0 jt r10 (Int.le_refl _) r4 (Int.le_refl _) (Int.le_refl _) 9 (by decide) b g W Xi x 0 0 0 0 ⟨hRC, hRX, ⟨by decide, by decide⟩, by decide, by decide⟩
  obtain ⟨⟨a1, a2, a3, a4⟩, a5, a6, a7, a8, a9, a10, a11, a12, a13, a14, a15⟩ := id kR
  have hk : RN F L P (zI (b 5)) (zI (sL b)) κ 0 0 W g = κ (ps W' L g') := by
    rcases hd with ⟨o1, o2, o3, o4, o5⟩ | ⟨o1, o2⟩
    · rw [o5]
      unfold RN
      have e : F + (40000 - t').toNat = F + (40000 - (t' + 1)).toNat + 1 := by omega
      rw [e]
      exact t_out hl hPL (RC_P hC kR).2.1 ⟨r1, r2⟩ ⟨by omega, by omega⟩
    · exact o2
  have hh := hb.1
  unfold WH at hh
  have i5 : 0 ≤ b 5 := by omega
  clear hh
  have hh := a3.1
  unfold WH at hh
  have i5' : 0 ≤ b' 5 := by omega
  clear hh
  have s1 := sL_r hb hm
  have s2 := sL_r a3 a4
  have w11 : W'.1 L 11 = zI (b' 5) := a1.2.2.2.1
  have hL4 : HL (uI W' 12 4 (zI (b' 5 - b 5))) L b' := HL_12 hl a1
  have e2 := c_lostOfAll (n := F + 40000) (g := g') hL4 a2 a3 (by omega)
  have e2' : f_X2_lostOfAll (F + 40000) L (ps (uI W' 12 4 (zI (b' 5 - b 5))) L g') = some (zI (sL b')) := e2
  have hκ : κ (ps W' L g') = some (ps (uI (uI W' 12 4 (zI (b' 5 - b 5))) 12 6 (zI (sL b' - sL b))) L g') := by
    show (lt (uI (ps W' L g') 12 4 (((ps W' L g').1 L 11) - zI (b 5))) fun (M25 : KM) => (f_X2_lostOfAll (F + 40000) L M25).bind fun (v26 : Int32) => lt (uI M25 12 6 (v26 - zI (sL b))) fun (M27 : KM) => some M27) = _
    simp (disch := first | omega | assumption) only [↓lt, ↓reduceIte, Option.bind_some, zl, zneg, zadd, zsub, zmul, Int.reduceNeg, Int.reduceMul, ixT, zidx, if_true, if_false, zeqT, zeqF, zltT, zltF, zleT, zleF, ps_2, pu_o, uI_o, uI_s, uI_j, uI_j2, ps_o, Nat.reduceAdd, cs_o, cu_o, w11, e2']
  have e1 := c_lostOfAll (n := F + 40000) (g := g) (M := W) hRC.1.1 hg hb (by omega)
  have e1' : f_X2_lostOfAll (F + 40000) L (ps (uI (uI (uI (uI (uI M 12 1 (zI x)) 12 2 (zI 0)) 12 3 (zI 0)) 12 5 (zI 0)) 12 7 (zI 0)) L g) = some (zI (sL b)) := e1
  have q11 : M.1 L 11 = zI (b 5) := hL.2.2.2.1
  refine ⟨b', g', uI (uI W' 12 4 (zI (b' 5 - b 5))) 12 6 (zI (sL b' - sL b)), X', dn', ms', ar', lf', ?_, ?_, ?_, ⟨kX.1, kX.2.1, kX.2.2.2.1, kX.2.2.2.2.1, kX.2.2.2.2.2.1, kX.2.2.2.2.2.2.1, kX.2.2.2.2.2.2.2.1, kX.2.2.2.2.2.2.2.2.1⟩⟩
  · unfold f_X4_run
    have hk2 : lp_X4_run_48 (F + 40000) 12 L P (zI (b 5)) (zI (sL b)) (zI 0) (zI 0) (ps (uI (uI (uI (uI (uI M 12 1 (zI x)) 12 2 (zI 0)) 12 3 (zI 0)) 12 5 (zI 0)) 12 7 (zI 0)) L g) κ = some (ps (uI (uI W' 12 4 (zI (b' 5 - b 5))) 12 6 (zI (sL b' - sL b))) L g') := by rw [← hκ]; exact hk
    simp (disch := first | omega | assumption) only [↓lt, ↓reduceIte, Option.bind_some, zl, zneg, zadd, zsub, zmul, Int.reduceNeg, Int.reduceMul, ixT, zidx, if_true, if_false, zeqT, zeqF, zltT, zltF, zleT, zleF, ps_2, pu_o, uI_o, uI_s, uI_j, uI_j2, ps_o, Nat.reduceAdd, cs_o, cu_o, hP, q11, e1']
    exact hk2
  · unfold f_X12_runsDays f_X12_doAll
    have ed : ∀ u v M, da_X12 10 (F + 40000) 227 u v M = lp_X12_doAll_2 (F + 40000) (rE (F + 40000) 9) 227 v u M := fun u v M => da_S
    have hq2 := hq (F + 40000) (by omega)
    have c291 : ∀ X : KM, (cs X b).1 232 (291 : Int).toNat = zI (b 291) := fun X => cs_c (by omega)
    have hq3 : lp_X12_doAll_2 (F + 40000) (rE (F + 40000) 9) 227 (zI (b 291)) (zI 0) (cs (uI (uI (uI (uI (uI (uI (uI (uI X 227 40 (zI x)) 227 41 (zI 0)) 227 42 (zI 0)) 227 43 (zI 0)) 227 44 (zI 0)) 227 45 (zI 0)) 227 46 (zI 0)) 227 39 (zI 0)) b) = some (cs X' b') := hq2
    simp (disch := first | omega | assumption) only [↓lt, ↓reduceIte, Option.bind_some, zl, zneg, zadd, zsub, zmul, Int.reduceNeg, Int.reduceMul, ixT, zidx, if_true, if_false, zeqT, zeqF, zltT, zltF, zleT, zleF, ps_2, pu_o, uI_o, uI_s, uI_j, uI_j2, ps_o, Nat.reduceAdd, cs_o, cu_o, ed, c291, hq3]
  · refine ⟨a7, fun a k u v => by rw [uI_o (by omega), uI_o (by omega)]; exact a8 a k u v, ?_, ?_, ?_, ?_, uI_s, ?_, HL_12 hl hL4, a2, a3, a4, a5, a6, ⟨km.1, km.2, a15.2⟩, klf⟩
    · rw [uI_o (by omega), uI_o (by omega)]; exact a10
    · rw [uI_o (by omega), uI_o (by omega)]; exact a11
    · rw [uI_o (by omega), uI_s]
    · rw [uI_o (by omega), uI_o (by omega)]; exact a12
    · rw [uI_o (by omega), uI_o (by omega)]; exact a13
