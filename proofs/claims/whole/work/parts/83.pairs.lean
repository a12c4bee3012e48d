/-! ===== pair, pairs, pairsOwe: both alike ===== -/

theorem mr_of {b : Int → Int} {m : Int → Int} {A : Int → Int → Bool} (hb : WB b) (hG : GS b (m, A)) {j : Int} : m j = -1 ∨ ((0 ≤ m j ∧ m j < b 2) ∧ 0 ≤ j ∧ j < b 2) := by
  by_cases hj : 0 ≤ j ∧ j < b 2
  · by_cases hs : b (106 + j) = 0
    · rcases hG.2.2.2.1 j ⟨hj.1, hj.2, hs⟩ with z | ⟨z, -⟩
      · exact Or.inl z
      · exact Or.inr ⟨⟨z.1, z.2.1⟩, hj⟩
    · have := WPb hb hj.1 hj.2
      rcases hG.2.2.1 j ⟨hj.1, hj.2, by omega⟩ with ⟨z, -⟩ | ⟨z, -⟩
      · exact Or.inl z
      · exact Or.inr ⟨⟨z.1, z.2.1⟩, hj⟩
  · exact Or.inl (hG.2.2.2.2 j hj)
theorem k_pair (p : Int32) (n : Nat) (hn : 300 ≤ n) : OKm (f_X11_pair n 0 p) (f_X12_pair n 227 p) := by
  obtain ⟨x, hx1, hx2, rfl⟩ := z_ex p
  refine ok_sc (fun M L g b hO => ?_)
  have hO2 := hO
  obtain ⟨hP, hL, hg, hb, hm, hC⟩ := hO; have hp0 : M.2.2 0 10 = L := hP.1; have hl := Ptr_L hP; have hM := (HL_cs hl.2).mp hL; have hh := hb.1; unfold WH at hh
  have hi : 0 ≤ b 2 ∧ b 2 ≤ 8 ∧ 0 ≤ b 0 ∧ b 0 ≤ 8 ∧ 0 ≤ b 5 := by omega
  clear hC hh
  by_cases w : 0 ≤ x ∧ x < b 2
  · have ec := c_findPairs (n := n) (M := M) (g := g) hL hl hg hb (by omega)
    have em := fun X => m_laysPairs (n := n) (X := X) hb (by omega)
    have hG := (itS_R hi.1 64 s0 s0_R).1
    have hG : GS b ((itS b 64 s0).1, (itS b 64 s0).2) := hG
    have mr := mr_of hb hG (j := x)
    generalize (itS b 64 s0).2 = A at *
    generalize (itS b 64 s0).1 = m at *
    by_cases k : m x = -1
    · refine ⟨zI (-1), zI 8, uI (pq M 20 21 m A) 0 15 (zI 8), ?_, uI_s, SC_of hP rfl (fun a k h1 h2 => by rw [uI_o h1, pq_o (by omega) (by omega)]), fun X => ?_⟩
      · unfold f_X11_pair
        simp (disch := first | omega | assumption) only [↓lt, Option.bind_some, zl, ll, zadd, zsub, zmul, zneg, ladd, lsub, lmul, lneg, zltT, zltF, zleT, zleF, zeqT, zeqF, zidx, ixT, zwide, bIT, bIF, if_true, if_false, ↓reduceIte, Nat.reduceAdd, Int.reduceAdd, Int.reduceMul, Int.reduceSub, Int.reduceNeg, cs_c, cs_o, cs_2, cu_c, cu_o, Int.cast_ofNat_Int, ps_f, ps_g, ps_w, ps_o, ps_2, pu_f, pu_g, pu_w, pu_o, uI_s, uI_o, uI_j, uI_j1, uI_j2, uI_tw, or0, true_or, or_true, false_or, or_false, nar0, nar1, pq_m, pq_a, pq_o, pq_um, pq_uA, f_X11_tell, f_X11_refuse, f_X11_tellIf, f_X11_tellOrNone, f_X11_tellSooner, f_X11_deny, f_X11_succeed, f_X12_refuse, f_X12_no, hp0, c_hasPerson hL, ec]
      · obtain ⟨B, e⟩ := em (uI (uI X 227 1 (zI 0)) 227 0 (zI 0))
        refine ⟨uI (pq (uI (uI X 227 1 (zI 0)) 227 0 (zI 0)) 240 241 m B) 227 0 (zI 8), ?_, uI_s, SM_tr (SM_tr SM_st SM_pq) SM_s⟩
        unfold f_X12_pair
        simp (disch := first | omega | assumption) only [↓lt, Option.bind_some, zl, ll, zadd, zsub, zmul, zneg, ladd, lsub, lmul, lneg, zltT, zltF, zleT, zleF, zeqT, zeqF, zidx, ixT, zwide, bIT, bIF, if_true, if_false, ↓reduceIte, Nat.reduceAdd, Int.reduceAdd, Int.reduceMul, Int.reduceSub, Int.reduceNeg, cs_c, cs_o, cs_2, cu_c, cu_o, Int.cast_ofNat_Int, ps_f, ps_g, ps_w, ps_o, ps_2, pu_f, pu_g, pu_w, pu_o, uI_s, uI_o, uI_j, uI_j1, uI_j2, uI_tw, or0, true_or, or_true, false_or, or_false, nar0, nar1, pq_m, pq_a, pq_o, pq_um, pq_uA, f_X11_tell, f_X11_refuse, f_X11_tellIf, f_X11_tellOrNone, f_X11_tellSooner, f_X11_deny, f_X11_succeed, f_X12_refuse, f_X12_no, hp0, m_isPerson, e]
    · have mr2 := mr.resolve_left k
      refine ⟨zI (m x), zI 0, uI (pq M 20 21 m A) 0 15 (zI 0), ?_, uI_s, SC_of hP rfl (fun a k h1 h2 => by rw [uI_o h1, pq_o (by omega) (by omega)]), fun X => ?_⟩
      · unfold f_X11_pair
        simp (disch := first | omega | assumption) only [↓lt, Option.bind_some, zl, ll, zadd, zsub, zmul, zneg, ladd, lsub, lmul, lneg, zltT, zltF, zleT, zleF, zeqT, zeqF, zidx, ixT, zwide, bIT, bIF, if_true, if_false, ↓reduceIte, Nat.reduceAdd, Int.reduceAdd, Int.reduceMul, Int.reduceSub, Int.reduceNeg, cs_c, cs_o, cs_2, cu_c, cu_o, Int.cast_ofNat_Int, ps_f, ps_g, ps_w, ps_o, ps_2, pu_f, pu_g, pu_w, pu_o, uI_s, uI_o, uI_j, uI_j1, uI_j2, uI_tw, or0, true_or, or_true, false_or, or_false, nar0, nar1, pq_m, pq_a, pq_o, pq_um, pq_uA, f_X11_tell, f_X11_refuse, f_X11_tellIf, f_X11_tellOrNone, f_X11_tellSooner, f_X11_deny, f_X11_succeed, f_X12_refuse, f_X12_no, hp0, c_hasPerson hL, ec]
      · obtain ⟨B, e⟩ := em (uI (uI X 227 1 (zI 0)) 227 0 (zI 0))
        refine ⟨pq (uI (uI X 227 1 (zI 0)) 227 0 (zI 0)) 240 241 m B, ?_, by rw [pq_o (by decide) (by decide), uI_s], SM_tr SM_st SM_pq⟩
        unfold f_X12_pair
        simp (disch := first | omega | assumption) only [↓lt, Option.bind_some, zl, ll, zadd, zsub, zmul, zneg, ladd, lsub, lmul, lneg, zltT, zltF, zleT, zleF, zeqT, zeqF, zidx, ixT, zwide, bIT, bIF, if_true, if_false, ↓reduceIte, Nat.reduceAdd, Int.reduceAdd, Int.reduceMul, Int.reduceSub, Int.reduceNeg, cs_c, cs_o, cs_2, cu_c, cu_o, Int.cast_ofNat_Int, ps_f, ps_g, ps_w, ps_o, ps_2, pu_f, pu_g, pu_w, pu_o, uI_s, uI_o, uI_j, uI_j1, uI_j2, uI_tw, or0, true_or, or_true, false_or, or_false, nar0, nar1, pq_m, pq_a, pq_o, pq_um, pq_uA, f_X11_tell, f_X11_refuse, f_X11_tellIf, f_X11_tellOrNone, f_X11_tellSooner, f_X11_deny, f_X11_succeed, f_X12_refuse, f_X12_no, hp0, m_isPerson, e]
  · refine sc_no (c := f_X11_pair n 0 (zI x)) (m := f_X12_pair n 227 (zI x)) hO2 (r := zI (-1)) (s := zI 2) ?_ (fun X => ?_)
    · unfold f_X11_pair
      simp (disch := first | omega | assumption) only [↓lt, Option.bind_some, zl, ll, zadd, zsub, zmul, zneg, ladd, lsub, lmul, lneg, zltT, zltF, zleT, zleF, zeqT, zeqF, zidx, ixT, zwide, bIT, bIF, if_true, if_false, ↓reduceIte, Nat.reduceAdd, Int.reduceAdd, Int.reduceMul, Int.reduceSub, Int.reduceNeg, cs_c, cs_o, cs_2, cu_c, cu_o, Int.cast_ofNat_Int, ps_f, ps_g, ps_w, ps_o, ps_2, pu_f, pu_g, pu_w, pu_o, uI_s, uI_o, uI_j, uI_j1, uI_j2, uI_tw, or0, true_or, or_true, false_or, or_false, nar0, nar1, f_X11_tell, f_X11_refuse, f_X11_tellIf, f_X11_tellOrNone, f_X11_tellSooner, f_X11_deny, f_X11_succeed, f_X12_refuse, f_X12_no, hp0, c_hasPerson hL]
    · unfold f_X12_pair
      simp (disch := first | omega | assumption) only [↓lt, Option.bind_some, zl, ll, zadd, zsub, zmul, zneg, ladd, lsub, lmul, lneg, zltT, zltF, zleT, zleF, zeqT, zeqF, zidx, ixT, zwide, bIT, bIF, if_true, if_false, ↓reduceIte, Nat.reduceAdd, Int.reduceAdd, Int.reduceMul, Int.reduceSub, Int.reduceNeg, cs_c, cs_o, cs_2, cu_c, cu_o, Int.cast_ofNat_Int, ps_f, ps_g, ps_w, ps_o, ps_2, pu_f, pu_g, pu_w, pu_o, uI_s, uI_o, uI_j, uI_j1, uI_j2, uI_tw, or0, true_or, or_true, false_or, or_false, nar0, nar1, f_X11_tell, f_X11_refuse, f_X11_tellIf, f_X11_tellOrNone, f_X11_tellSooner, f_X11_deny, f_X11_succeed, f_X12_refuse, f_X12_no, hp0, m_isPerson]
theorem sum_in {f : Int → Int} {k : Int} (h0 : 0 ≤ k) (h8 : k ≤ 8) (hz : ∀ j, k ≤ j → j < 8 → f j = 0) : sumB f k = sumB f 8 := sumB_z h0 h8 hz
theorem k_pairs (n : Nat) (hn : 300 ≤ n) : OKm (f_X11_pairs n 0) (f_X12_pairs n 227) := by
  refine ok_sc (fun M L g b hO => ?_)
  have hO2 := hO
  obtain ⟨hP, hL, hg, hb, hm, hC⟩ := hO; have hp0 : M.2.2 0 10 = L := hP.1; have hl := Ptr_L hP; have hM := (HL_cs hl.2).mp hL; have hh := hb.1; unfold WH at hh
  have hi : 0 ≤ b 2 ∧ b 2 ≤ 8 ∧ 0 ≤ b 0 ∧ b 0 ≤ 8 ∧ 0 ≤ b 5 := by omega
  clear hC hh
  have w2 : M.1 L 10 = zI (b 2) := hM.2.2.1
  have ec := c_findPairs (n := n) (M := M) (g := g) hL hl hg hb (by omega)
  have em := fun X => m_laysPairs (n := n) (X := X) hb (by omega)
  have hG := (itS_R hi.1 64 s0 s0_R).1
  have hG : GS b ((itS b 64 s0).1, (itS b 64 s0).2) := hG
  have mr := fun j => mr_of hb hG (j := j)
  generalize (itS b 64 s0).2 = A at *
  generalize (itS b 64 s0).1 = m at *
  have tw := two_ways (v := fun _ _ => 1) hi.1 hi.2.1 hG (fun j j1 j2 => by have := WPb hb j1 j2; omega) (fun _ _ _ _ => rfl)
  have e1 : lp_X5_countPairs_4 n 19 L (ps (cs (pq M 20 21 m A) b) L g) (zI 0) (zI 0) = some (zI (sumB (fun p => if sgt b p ∧ ¬ m p = -1 then 1 else 0) (b 2))) := by
    refine loop_sum (lp := fun n i w => lp_X5_countPairs_4 n 19 L (ps (cs (pq M 20 21 m A) b) L g) w i) (fun p => if sgt b p ∧ ¬ m p = -1 then 1 else 0) (fin := fun w => some w) (N := 1) (R := b 2) hi.1 (fun k i w hk u v => ?_) (fun k w _ => ?_) (by omega)
    · have gp := hg.1 i u v
      have ez := WPb hb u v
      unfold GP at gp
      have g3 : g i 0 3 = 1 - b (106 + i) := gp.1
      have i3 : 0 ≤ b (106 + i) ∧ b (106 + i) ≤ 1 := by omega
      have mi := mr i
      clear gp ez
      show lp_X5_countPairs_4 (k + 1) 19 L (ps (cs (pq M 20 21 m A) b) L g) (zI w) (zI i) = lp_X5_countPairs_4 k 19 L (ps (cs (pq M 20 21 m A) b) L g) (zI (w + if sgt b i ∧ ¬ m i = -1 then 1 else 0)) (zI (i + 1))
      by_cases h1 : b (106 + i) = 0
      · by_cases h2 : m i = -1
        · rw [if_neg (show ¬ (sgt b i ∧ ¬ m i = -1) from fun z => z.2 h2), lp_X5_countPairs_4]
          simp (disch := first | omega | assumption) only [↓lt, Option.bind_some, zl, ll, zadd, zsub, zmul, zneg, ladd, lsub, lmul, lneg, zltT, zltF, zleT, zleF, zeqT, zeqF, zidx, ixT, zwide, bIT, bIF, if_true, if_false, ↓reduceIte, Nat.reduceAdd, Int.reduceAdd, Int.reduceMul, Int.reduceSub, Int.reduceNeg, cs_c, cs_o, cs_2, cu_c, cu_o, Int.cast_ofNat_Int, ps_f, ps_g, ps_w, ps_o, ps_2, pu_f, pu_g, pu_w, pu_o, uI_s, uI_o, uI_j, uI_j1, uI_j2, uI_tw, or0, true_or, or_true, false_or, or_false, nar0, nar1, pq_m, pq_a, pq_o, pq_um, pq_uA, w2, g3, h2, Int.add_zero]
        · rw [if_pos (show sgt b i ∧ ¬ m i = -1 from ⟨⟨u, v, h1⟩, h2⟩), lp_X5_countPairs_4]
          simp (disch := first | omega | assumption) only [↓lt, Option.bind_some, zl, ll, zadd, zsub, zmul, zneg, ladd, lsub, lmul, lneg, zltT, zltF, zleT, zleF, zeqT, zeqF, zidx, ixT, zwide, bIT, bIF, if_true, if_false, ↓reduceIte, Nat.reduceAdd, Int.reduceAdd, Int.reduceMul, Int.reduceSub, Int.reduceNeg, cs_c, cs_o, cs_2, cu_c, cu_o, Int.cast_ofNat_Int, ps_f, ps_g, ps_w, ps_o, ps_2, pu_f, pu_g, pu_w, pu_o, uI_s, uI_o, uI_j, uI_j1, uI_j2, uI_tw, or0, true_or, or_true, false_or, or_false, nar0, nar1, pq_m, pq_a, pq_o, pq_um, pq_uA, w2, g3]
      · rw [if_neg (show ¬ (sgt b i ∧ ¬ m i = -1) from fun z => h1 z.1.2.2), lp_X5_countPairs_4]
        simp (disch := first | omega | assumption) only [↓lt, Option.bind_some, zl, ll, zadd, zsub, zmul, zneg, ladd, lsub, lmul, lneg, zltT, zltF, zleT, zleF, zeqT, zeqF, zidx, ixT, zwide, bIT, bIF, if_true, if_false, ↓reduceIte, Nat.reduceAdd, Int.reduceAdd, Int.reduceMul, Int.reduceSub, Int.reduceNeg, cs_c, cs_o, cs_2, cu_c, cu_o, Int.cast_ofNat_Int, ps_f, ps_g, ps_w, ps_o, ps_2, pu_f, pu_g, pu_w, pu_o, uI_s, uI_o, uI_j, uI_j1, uI_j2, uI_tw, or0, true_or, or_true, false_or, or_false, nar0, nar1, pq_m, pq_a, pq_o, pq_um, pq_uA, w2, g3, Int.add_zero]
    · show lp_X5_countPairs_4 (k + 1) 19 L (ps (cs (pq M 20 21 m A) b) L g) (zI w) (zI (b 2)) = _
      rw [lp_X5_countPairs_4]
      simp (disch := first | omega | assumption) only [↓lt, Option.bind_some, zl, ll, zadd, zsub, zmul, zneg, ladd, lsub, lmul, lneg, zltT, zltF, zleT, zleF, zeqT, zeqF, zidx, ixT, zwide, bIT, bIF, if_true, if_false, ↓reduceIte, Nat.reduceAdd, Int.reduceAdd, Int.reduceMul, Int.reduceSub, Int.reduceNeg, cs_c, cs_o, cs_2, cu_c, cu_o, Int.cast_ofNat_Int, ps_f, ps_g, ps_w, ps_o, ps_2, pu_f, pu_g, pu_w, pu_o, uI_s, uI_o, uI_j, uI_j1, uI_j2, uI_tw, or0, true_or, or_true, false_or, or_false, nar0, nar1, pq_m, pq_a, pq_o, pq_um, pq_uA, w2]
  rw [sum_in hi.1 hi.2.1 (fun j j1 j2 => if_neg (fun z => by have := z.1.2.1; omega)), tw] at e1
  have e2 := fun (X : KM) => loop_sum (lp := fun n i w => lp_X12_pairs_18 n 227 (cs X b) w i) (n := n) (fun p => if p < m p then 1 else 0) (fin := fun w => some (w, cs X b)) (N := 1) (R := 8) (by decide)
  refine ⟨zI (sumB (fun p => if p < m p then 1 else 0) 8), zI 0, uI (pq M 20 21 m A) 0 15 (zI 0), ?_, uI_s, SC_of hP rfl (fun a k h1 h2 => by rw [uI_o h1, pq_o (by omega) (by omega)]), fun X => ?_⟩
  · unfold f_X11_pairs f_X5_countPairs
    simp (disch := first | omega | assumption) only [↓lt, Option.bind_some, zl, ll, zadd, zsub, zmul, zneg, ladd, lsub, lmul, lneg, zltT, zltF, zleT, zleF, zeqT, zeqF, zidx, ixT, zwide, bIT, bIF, if_true, if_false, ↓reduceIte, Nat.reduceAdd, Int.reduceAdd, Int.reduceMul, Int.reduceSub, Int.reduceNeg, cs_c, cs_o, cs_2, cu_c, cu_o, Int.cast_ofNat_Int, ps_f, ps_g, ps_w, ps_o, ps_2, pu_f, pu_g, pu_w, pu_o, uI_s, uI_o, uI_j, uI_j1, uI_j2, uI_tw, or0, true_or, or_true, false_or, or_false, nar0, nar1, pq_m, pq_a, pq_o, pq_um, pq_uA, f_X11_tell, f_X11_refuse, f_X11_tellIf, f_X11_tellOrNone, f_X11_tellSooner, f_X11_deny, f_X11_succeed, f_X12_refuse, f_X12_no, hp0, pq_2, ec, e1]
  · obtain ⟨B, e⟩ := em (uI (uI X 227 1 (zI 0)) 227 0 (zI 0))
    refine ⟨pq (uI (uI X 227 1 (zI 0)) 227 0 (zI 0)) 240 241 m B, ?_, by rw [pq_o (by decide) (by decide), uI_s], SM_tr SM_st SM_pq⟩
    have e3 := e2 (pq (uI (uI X 227 1 (zI 0)) 227 0 (zI 0)) 240 241 m B) (fun k i w hk u v => by
      have mi := mr i
      show lp_X12_pairs_18 (k + 1) 227 (cs (pq (uI (uI X 227 1 (zI 0)) 227 0 (zI 0)) 240 241 m B) b) (zI w) (zI i) = lp_X12_pairs_18 k 227 (cs (pq (uI (uI X 227 1 (zI 0)) 227 0 (zI 0)) 240 241 m B) b) (zI (w + if i < m i then 1 else 0)) (zI (i + 1))
      rw [lp_X12_pairs_18]
      by_cases y : i < m i
      · rw [if_pos y]
        simp (disch := first | omega | assumption) only [↓lt, Option.bind_some, zl, ll, zadd, zsub, zmul, zneg, ladd, lsub, lmul, lneg, zltT, zltF, zleT, zleF, zeqT, zeqF, zidx, ixT, zwide, bIT, bIF, if_true, if_false, ↓reduceIte, Nat.reduceAdd, Int.reduceAdd, Int.reduceMul, Int.reduceSub, Int.reduceNeg, cs_c, cs_o, cs_2, cu_c, cu_o, Int.cast_ofNat_Int, ps_f, ps_g, ps_w, ps_o, ps_2, pu_f, pu_g, pu_w, pu_o, uI_s, uI_o, uI_j, uI_j1, uI_j2, uI_tw, or0, true_or, or_true, false_or, or_false, nar0, nar1, pq_m, pq_a, pq_o, pq_um, pq_uA]
      · rw [if_neg y]
        simp (disch := first | omega | assumption) only [↓lt, Option.bind_some, zl, ll, zadd, zsub, zmul, zneg, ladd, lsub, lmul, lneg, zltT, zltF, zleT, zleF, zeqT, zeqF, zidx, ixT, zwide, bIT, bIF, if_true, if_false, ↓reduceIte, Nat.reduceAdd, Int.reduceAdd, Int.reduceMul, Int.reduceSub, Int.reduceNeg, cs_c, cs_o, cs_2, cu_c, cu_o, Int.cast_ofNat_Int, ps_f, ps_g, ps_w, ps_o, ps_2, pu_f, pu_g, pu_w, pu_o, uI_s, uI_o, uI_j, uI_j1, uI_j2, uI_tw, or0, true_or, or_true, false_or, or_false, nar0, nar1, pq_m, pq_a, pq_o, pq_um, pq_uA, Int.add_zero]) (fun k w _ => by
      show lp_X12_pairs_18 (k + 1) 227 (cs (pq (uI (uI X 227 1 (zI 0)) 227 0 (zI 0)) 240 241 m B) b) (zI w) (zI 8) = _
      rw [lp_X12_pairs_18]
      simp (disch := first | omega | assumption) only [↓lt, Option.bind_some, zl, ll, zadd, zsub, zmul, zneg, ladd, lsub, lmul, lneg, zltT, zltF, zleT, zleF, zeqT, zeqF, zidx, ixT, zwide, bIT, bIF, if_true, if_false, ↓reduceIte, Nat.reduceAdd, Int.reduceAdd, Int.reduceMul, Int.reduceSub, Int.reduceNeg, cs_c, cs_o, cs_2, cu_c, cu_o, Int.cast_ofNat_Int, ps_f, ps_g, ps_w, ps_o, ps_2, pu_f, pu_g, pu_w, pu_o, uI_s, uI_o, uI_j, uI_j1, uI_j2, uI_tw, or0, true_or, or_true, false_or, or_false, nar0, nar1]) (by omega)
    unfold f_X12_pairs
    simp (disch := first | omega | assumption) only [↓lt, Option.bind_some, zl, ll, zadd, zsub, zmul, zneg, ladd, lsub, lmul, lneg, zltT, zltF, zleT, zleF, zeqT, zeqF, zidx, ixT, zwide, bIT, bIF, if_true, if_false, ↓reduceIte, Nat.reduceAdd, Int.reduceAdd, Int.reduceMul, Int.reduceSub, Int.reduceNeg, cs_c, cs_o, cs_2, cu_c, cu_o, Int.cast_ofNat_Int, ps_f, ps_g, ps_w, ps_o, ps_2, pu_f, pu_g, pu_w, pu_o, uI_s, uI_o, uI_j, uI_j1, uI_j2, uI_tw, or0, true_or, or_true, false_or, or_false, nar0, nar1, pq_m, pq_a, pq_o, pq_um, pq_uA, f_X11_tell, f_X11_refuse, f_X11_tellIf, f_X11_tellOrNone, f_X11_tellSooner, f_X11_deny, f_X11_succeed, f_X12_refuse, f_X12_no, hp0, e]
    exact e3
def aV (x : Int) : Int := if 0 ≤ x then x else -x
theorem aV_z {x : Int} (h : -9999 ≤ x ∧ x ≤ 9999) : (if zI 0 ≤ zI x then zI x else zI (0 - x)) = zI (aV x) := by
  unfold aV
  by_cases w : 0 ≤ x
  · rw [if_pos w, if_pos (of_eq_true (zleT w (by omega) (by omega)))]
  · rw [if_neg w, if_neg (of_eq_false (zleF (by omega) (by omega) (by omega))), Int.zero_sub]
theorem k_pairsOwe (n : Nat) (hn : 300 ≤ n) : OKm (f_X11_pairsOwe n 0) (f_X12_pairsOwe n 227) := by
  refine ok_sc (fun M L g b hO => ?_)
  have hO2 := hO
  obtain ⟨hP, hL, hg, hb, hm, hC⟩ := hO; have hp0 : M.2.2 0 10 = L := hP.1; have hl := Ptr_L hP; have hM := (HL_cs hl.2).mp hL; have hh := hb.1; unfold WH at hh
  have hi : 0 ≤ b 2 ∧ b 2 ≤ 8 ∧ 0 ≤ b 0 ∧ b 0 ≤ 8 ∧ 0 ≤ b 5 := by omega
  clear hC hh
  have w2 : M.1 L 10 = zI (b 2) := hM.2.2.1
  have ec := c_findPairs (n := n) (M := M) (g := g) hL hl hg hb (by omega)
  have em := fun X => m_laysPairs (n := n) (X := X) hb (by omega)
  have hG := (itS_R hi.1 64 s0 s0_R).1
  have hG : GS b ((itS b 64 s0).1, (itS b 64 s0).2) := hG
  have mr := fun j => mr_of hb hG (j := j)
  generalize (itS b 64 s0).2 = A at *
  generalize (itS b 64 s0).1 = m at *
  have tw := two_ways (v := fun p q => aV (b (226 + 8 * p + q))) hi.1 hi.2.1 hG (fun j j1 j2 => by have := WPb hb j1 j2; omega) (fun p q hp hq => by
    have h1 := hp.2.1
    have h2 := hq.2.1
    have := (hb.2.2.2.2.1 p q hp.1 (by omega) hq.1 (by omega)).2.2
    show aV (b (226 + 8 * p + q)) = aV (b (226 + 8 * q + p))
    rw [this]
    unfold aV
    generalize b (226 + 8 * p + q) = z
    by_cases y : 0 ≤ z
    · rw [if_pos y]
      by_cases y2 : 0 ≤ -z
      · rw [if_pos y2]; omega
      · rw [if_neg y2]; omega
    · rw [if_neg y, if_pos (by omega)])
  have e1 : lp_X5_sumOwed_4 n 19 L (ps (cs (pq M 20 21 m A) b) L g) (zI 0) (zI 0) = some (zI (sumB (fun p => if sgt b p ∧ ¬ m p = -1 then aV (b (226 + 8 * p + m p)) else 0) (b 2))) := by
    refine loop_sum (lp := fun n i w => lp_X5_sumOwed_4 n 19 L (ps (cs (pq M 20 21 m A) b) L g) w i) (fun p => if sgt b p ∧ ¬ m p = -1 then aV (b (226 + 8 * p + m p)) else 0) (fin := fun w => some w) (N := 1) (R := b 2) hi.1 (fun k i w hk u v => ?_) (fun k w _ => ?_) (by omega)
    · have gp := hg.1 i u v
      have ez := WPb hb u v
      unfold GP at gp
      have g3 : g i 0 3 = 1 - b (106 + i) := gp.1
      have i3 : 0 ≤ b (106 + i) ∧ b (106 + i) ≤ 1 := by omega
      have mi := mr i
      clear gp ez
      show lp_X5_sumOwed_4 (k + 1) 19 L (ps (cs (pq M 20 21 m A) b) L g) (zI w) (zI i) = lp_X5_sumOwed_4 k 19 L (ps (cs (pq M 20 21 m A) b) L g) (zI (w + if sgt b i ∧ ¬ m i = -1 then aV (b (226 + 8 * i + m i)) else 0)) (zI (i + 1))
      by_cases h1 : b (106 + i) = 0
      · by_cases h2 : m i = -1
        · rw [if_neg (show ¬ (sgt b i ∧ ¬ m i = -1) from fun z => z.2 h2), lp_X5_sumOwed_4]
          simp (disch := first | omega | assumption) only [↓lt, Option.bind_some, zl, ll, zadd, zsub, zmul, zneg, ladd, lsub, lmul, lneg, zltT, zltF, zleT, zleF, zeqT, zeqF, zidx, ixT, zwide, bIT, bIF, if_true, if_false, ↓reduceIte, Nat.reduceAdd, Int.reduceAdd, Int.reduceMul, Int.reduceSub, Int.reduceNeg, cs_c, cs_o, cs_2, cu_c, cu_o, Int.cast_ofNat_Int, ps_f, ps_g, ps_w, ps_o, ps_2, pu_f, pu_g, pu_w, pu_o, uI_s, uI_o, uI_j, uI_j1, uI_j2, uI_tw, or0, true_or, or_true, false_or, or_false, nar0, nar1, pq_m, pq_a, pq_o, pq_um, pq_uA, w2, g3, h2, Int.add_zero]
        · have m2 := mi.resolve_left h2
          have go := hg.2.2.1 i (m i) u v m2.1.1 m2.1.2
          have ro := hb.2.2.2.2.1 i (m i) u (by omega) m2.1.1 (by omega)
          have az := aV_z ⟨ro.1, ro.2.1⟩
          rw [if_pos (show sgt b i ∧ ¬ m i = -1 from ⟨⟨u, v, h1⟩, h2⟩), lp_X5_sumOwed_4]
          clear ro
          generalize b (226 + 8 * i + m i) = V at *
          simp (disch := first | omega | assumption) only [↓lt, Option.bind_some, zl, ll, zadd, zsub, zmul, zneg, ladd, lsub, lmul, lneg, zltT, zltF, zleT, zleF, zeqT, zeqF, zidx, ixT, zwide, bIT, bIF, if_true, if_false, ↓reduceIte, Nat.reduceAdd, Int.reduceAdd, Int.reduceMul, Int.reduceSub, Int.reduceNeg, cs_c, cs_o, cs_2, cu_c, cu_o, Int.cast_ofNat_Int, ps_f, ps_g, ps_w, ps_o, ps_2, pu_f, pu_g, pu_w, pu_o, uI_s, uI_o, uI_j, uI_j1, uI_j2, uI_tw, or0, true_or, or_true, false_or, or_false, nar0, nar1, pq_m, pq_a, pq_o, pq_um, pq_uA, w2, g3, go, az]
      · rw [if_neg (show ¬ (sgt b i ∧ ¬ m i = -1) from fun z => h1 z.1.2.2), lp_X5_sumOwed_4]
        simp (disch := first | omega | assumption) only [↓lt, Option.bind_some, zl, ll, zadd, zsub, zmul, zneg, ladd, lsub, lmul, lneg, zltT, zltF, zleT, zleF, zeqT, zeqF, zidx, ixT, zwide, bIT, bIF, if_true, if_false, ↓reduceIte, Nat.reduceAdd, Int.reduceAdd, Int.reduceMul, Int.reduceSub, Int.reduceNeg, cs_c, cs_o, cs_2, cu_c, cu_o, Int.cast_ofNat_Int, ps_f, ps_g, ps_w, ps_o, ps_2, pu_f, pu_g, pu_w, pu_o, uI_s, uI_o, uI_j, uI_j1, uI_j2, uI_tw, or0, true_or, or_true, false_or, or_false, nar0, nar1, pq_m, pq_a, pq_o, pq_um, pq_uA, w2, g3, Int.add_zero]
    · show lp_X5_sumOwed_4 (k + 1) 19 L (ps (cs (pq M 20 21 m A) b) L g) (zI w) (zI (b 2)) = _
      rw [lp_X5_sumOwed_4]
      simp (disch := first | omega | assumption) only [↓lt, Option.bind_some, zl, ll, zadd, zsub, zmul, zneg, ladd, lsub, lmul, lneg, zltT, zltF, zleT, zleF, zeqT, zeqF, zidx, ixT, zwide, bIT, bIF, if_true, if_false, ↓reduceIte, Nat.reduceAdd, Int.reduceAdd, Int.reduceMul, Int.reduceSub, Int.reduceNeg, cs_c, cs_o, cs_2, cu_c, cu_o, Int.cast_ofNat_Int, ps_f, ps_g, ps_w, ps_o, ps_2, pu_f, pu_g, pu_w, pu_o, uI_s, uI_o, uI_j, uI_j1, uI_j2, uI_tw, or0, true_or, or_true, false_or, or_false, nar0, nar1, pq_m, pq_a, pq_o, pq_um, pq_uA, w2]
  rw [sum_in hi.1 hi.2.1 (fun j j1 j2 => if_neg (fun z => by have := z.1.2.1; omega)), tw] at e1
  have e2 := fun (X : KM) => loop_sum (lp := fun n i w => lp_X12_pairsOwe_18 n 227 (cs X b) w i) (n := n) (fun p => if p < m p then aV (b (226 + 8 * p + m p)) else 0) (fin := fun w => some (w, cs X b)) (N := 1) (R := 8) (by decide)
  refine ⟨zI (sumB (fun p => if p < m p then aV (b (226 + 8 * p + m p)) else 0) 8), zI 0, uI (pq M 20 21 m A) 0 15 (zI 0), ?_, uI_s, SC_of hP rfl (fun a k h1 h2 => by rw [uI_o h1, pq_o (by omega) (by omega)]), fun X => ?_⟩
  · unfold f_X11_pairsOwe f_X5_sumOwed
    simp (disch := first | omega | assumption) only [↓lt, Option.bind_some, zl, ll, zadd, zsub, zmul, zneg, ladd, lsub, lmul, lneg, zltT, zltF, zleT, zleF, zeqT, zeqF, zidx, ixT, zwide, bIT, bIF, if_true, if_false, ↓reduceIte, Nat.reduceAdd, Int.reduceAdd, Int.reduceMul, Int.reduceSub, Int.reduceNeg, cs_c, cs_o, cs_2, cu_c, cu_o, Int.cast_ofNat_Int, ps_f, ps_g, ps_w, ps_o, ps_2, pu_f, pu_g, pu_w, pu_o, uI_s, uI_o, uI_j, uI_j1, uI_j2, uI_tw, or0, true_or, or_true, false_or, or_false, nar0, nar1, pq_m, pq_a, pq_o, pq_um, pq_uA, f_X11_tell, f_X11_refuse, f_X11_tellIf, f_X11_tellOrNone, f_X11_tellSooner, f_X11_deny, f_X11_succeed, f_X12_refuse, f_X12_no, hp0, pq_2, ec, e1]
  · obtain ⟨B, e⟩ := em (uI (uI X 227 1 (zI 0)) 227 0 (zI 0))
    refine ⟨pq (uI (uI X 227 1 (zI 0)) 227 0 (zI 0)) 240 241 m B, ?_, by rw [pq_o (by decide) (by decide), uI_s], SM_tr SM_st SM_pq⟩
    have e3 := e2 (pq (uI (uI X 227 1 (zI 0)) 227 0 (zI 0)) 240 241 m B) (fun k i w hk u v => by
      have mi := mr i
      show lp_X12_pairsOwe_18 (k + 1) 227 (cs (pq (uI (uI X 227 1 (zI 0)) 227 0 (zI 0)) 240 241 m B) b) (zI w) (zI i) = lp_X12_pairsOwe_18 k 227 (cs (pq (uI (uI X 227 1 (zI 0)) 227 0 (zI 0)) 240 241 m B) b) (zI (w + if i < m i then aV (b (226 + 8 * i + m i)) else 0)) (zI (i + 1))
      rw [lp_X12_pairsOwe_18]
      by_cases y : i < m i
      · rw [if_pos y]
        have ro := hb.2.2.2.2.1 i (m i) u (by omega) (by omega) (by omega)
        have az := aV_z ⟨ro.1, ro.2.1⟩
        clear ro
        generalize hV : b (226 + 8 * i + m i) = V at *
        simp (disch := first | omega | assumption) only [↓lt, Option.bind_some, zl, ll, zadd, zsub, zmul, zneg, ladd, lsub, lmul, lneg, zltT, zltF, zleT, zleF, zeqT, zeqF, zidx, ixT, zwide, bIT, bIF, if_true, if_false, ↓reduceIte, Nat.reduceAdd, Int.reduceAdd, Int.reduceMul, Int.reduceSub, Int.reduceNeg, cs_c, cs_o, cs_2, cu_c, cu_o, Int.cast_ofNat_Int, ps_f, ps_g, ps_w, ps_o, ps_2, pu_f, pu_g, pu_w, pu_o, uI_s, uI_o, uI_j, uI_j1, uI_j2, uI_tw, or0, true_or, or_true, false_or, or_false, nar0, nar1, pq_m, pq_a, pq_o, pq_um, pq_uA, hV, az]
      · rw [if_neg y]
        simp (disch := first | omega | assumption) only [↓lt, Option.bind_some, zl, ll, zadd, zsub, zmul, zneg, ladd, lsub, lmul, lneg, zltT, zltF, zleT, zleF, zeqT, zeqF, zidx, ixT, zwide, bIT, bIF, if_true, if_false, ↓reduceIte, Nat.reduceAdd, Int.reduceAdd, Int.reduceMul, Int.reduceSub, Int.reduceNeg, cs_c, cs_o, cs_2, cu_c, cu_o, Int.cast_ofNat_Int, ps_f, ps_g, ps_w, ps_o, ps_2, pu_f, pu_g, pu_w, pu_o, uI_s, uI_o, uI_j, uI_j1, uI_j2, uI_tw, or0, true_or, or_true, false_or, or_false, nar0, nar1, pq_m, pq_a, pq_o, pq_um, pq_uA, Int.add_zero]) (fun k w _ => by
      show lp_X12_pairsOwe_18 (k + 1) 227 (cs (pq (uI (uI X 227 1 (zI 0)) 227 0 (zI 0)) 240 241 m B) b) (zI w) (zI 8) = _
      rw [lp_X12_pairsOwe_18]
      simp (disch := first | omega | assumption) only [↓lt, Option.bind_some, zl, ll, zadd, zsub, zmul, zneg, ladd, lsub, lmul, lneg, zltT, zltF, zleT, zleF, zeqT, zeqF, zidx, ixT, zwide, bIT, bIF, if_true, if_false, ↓reduceIte, Nat.reduceAdd, Int.reduceAdd, Int.reduceMul, Int.reduceSub, Int.reduceNeg, cs_c, cs_o, cs_2, cu_c, cu_o, Int.cast_ofNat_Int, ps_f, ps_g, ps_w, ps_o, ps_2, pu_f, pu_g, pu_w, pu_o, uI_s, uI_o, uI_j, uI_j1, uI_j2, uI_tw, or0, true_or, or_true, false_or, or_false, nar0, nar1]) (by omega)
    unfold f_X12_pairsOwe
    simp (disch := first | omega | assumption) only [↓lt, Option.bind_some, zl, ll, zadd, zsub, zmul, zneg, ladd, lsub, lmul, lneg, zltT, zltF, zleT, zleF, zeqT, zeqF, zidx, ixT, zwide, bIT, bIF, if_true, if_false, ↓reduceIte, Nat.reduceAdd, Int.reduceAdd, Int.reduceMul, Int.reduceSub, Int.reduceNeg, cs_c, cs_o, cs_2, cu_c, cu_o, Int.cast_ofNat_Int, ps_f, ps_g, ps_w, ps_o, ps_2, pu_f, pu_g, pu_w, pu_o, uI_s, uI_o, uI_j, uI_j1, uI_j2, uI_tw, or0, true_or, or_true, false_or, or_false, nar0, nar1, pq_m, pq_a, pq_o, pq_um, pq_uA, f_X11_tell, f_X11_refuse, f_X11_tellIf, f_X11_tellOrNone, f_X11_tellSooner, f_X11_deny, f_X11_succeed, f_X12_refuse, f_X12_no, hp0, e]
    exact e3
