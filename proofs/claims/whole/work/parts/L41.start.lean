theorem dL_law_0 : dc cL_law 0 (.new 7) 3 3 := ⟨by decide +kernel, rfl⟩
theorem dL_law_3 : dc cL_law 3 (.dup) 1 4 := ⟨by decide +kernel, rfl⟩
theorem dL_law_4 : dc cL_law 4 (.invokespecial 9) 3 7 := ⟨by decide +kernel, rfl⟩
theorem dL_law_7 : dc cL_law 7 (.astore_n 1) 1 8 := ⟨by decide +kernel, rfl⟩
theorem dL_law_8 : dc cL_law 8 (.new 10) 3 11 := ⟨by decide +kernel, rfl⟩
theorem dL_law_11 : dc cL_law 11 (.dup) 1 12 := ⟨by decide +kernel, rfl⟩
theorem dL_law_12 : dc cL_law 12 (.invokespecial 12) 3 15 := ⟨by decide +kernel, rfl⟩
theorem dL_law_15 : dc cL_law 15 (.astore_n 2) 1 16 := ⟨by decide +kernel, rfl⟩
theorem dL_law_16 : dc cL_law 16 (.iconst 0) 1 17 := ⟨by decide +kernel, rfl⟩
theorem dL_law_17 : dc cL_law 17 (.istore_n 3) 1 18 := ⟨by decide +kernel, rfl⟩
theorem li (k : Nat) {c : Cond} (h : tables_1[k]? = some c) : c ∈ lw_tbl := List.mem_append_right _ (List.mem_of_getElem? h)
theorem sel_priv {args : Array Value} {s : State} {C : String} {x0 y0 y : MethodName} (hy : y.cls ≠ "java/lang/invoke/MethodHandle" ∧ y.cls ≠ "java/lang/invoke/VarHandle") (hsel : (Cond.selects C x0 y0).before args s = true) (h0 : y0.cls = y.cls) (hpriv : (Cond.privateMethod y).before args s = true) (hinst : (Cond.instanceMethod y).before args s = true) : (Cond.selects C y y).before args s = true := by
  obtain ⟨c, r, m, hc, hr, hm, hs, mk0, hk, hni⟩ := Cond.selects_spec hsel
  obtain ⟨mk, methM, hnamed, hmethM, -, -⟩ := Cond.instanceMethod_spec hinst
  have hfound : s.methodFound? y.cls y.name y.desc = some mk := State.methodFound?_of_named hnamed hy
  have hcls : mk.cls = m.cls := Option.some.inj ((findClass_of_methodNamed hnamed).symm.trans (by rw [← h0]; exact findClass_of_methodNamed hm))
  have hsel2 : selectMethod {} s.vm c mk = .method mk := selectMethod_private hmethM (Cond.privateMethod_at hpriv mk methM hnamed hmethM)
  simp only [Cond.before, Cond.holds, Cond.value, hc, hfound, hnamed, hsel2, hcls, hk]
  simp
  exact hni
theorem sel_all {args : Array Value} {s : State} (hts : ∀ w ∈ lw_tbl, w.before args s = true) : ∀ w ∈ selx, w.before args s = true := by
  intro w hw
  simp only [selx, List.mem_cons, List.not_mem_nil, or_false] at hw
  rcases hw with rfl | rfl | rfl | rfl | rfl | rfl | rfl | rfl
  · exact sel_priv (x0 := ⟨"NoonGuides$TextReader", "failOrder", "()Z"⟩) (y0 := ⟨"NoonGuides$TextReader", "failOrder", "()Z"⟩) (by decide) (hts _ (li 712 (by decide +kernel))) rfl (hts _ (li 661 (by decide +kernel))) (hts _ (li 662 (by decide +kernel)))
  · exact sel_priv (x0 := ⟨"NoonGuides$TextReader", "failOrder", "()Z"⟩) (y0 := ⟨"NoonGuides$TextReader", "failOrder", "()Z"⟩) (by decide) (hts _ (li 712 (by decide +kernel))) rfl (hts _ (li 665 (by decide +kernel))) (hts _ (li 666 (by decide +kernel)))
  · exact sel_priv (x0 := ⟨"NoonGuides$TextReader", "failOrder", "()Z"⟩) (y0 := ⟨"NoonGuides$TextReader", "failOrder", "()Z"⟩) (by decide) (hts _ (li 712 (by decide +kernel))) rfl (hts _ (li 669 (by decide +kernel))) (hts _ (li 670 (by decide +kernel)))
  · exact sel_priv (x0 := ⟨"NoonGuides$TextReader", "failOrder", "()Z"⟩) (y0 := ⟨"NoonGuides$TextReader", "failOrder", "()Z"⟩) (by decide) (hts _ (li 712 (by decide +kernel))) rfl (hts _ (li 787 (by decide +kernel))) (hts _ (li 788 (by decide +kernel)))
  · exact sel_priv (x0 := ⟨"NoonGuides$TextReader", "failOrder", "()Z"⟩) (y0 := ⟨"NoonGuides$TextReader", "failOrder", "()Z"⟩) (by decide) (hts _ (li 711 (by decide +kernel))) rfl (hts _ (li 661 (by decide +kernel))) (hts _ (li 662 (by decide +kernel)))
  · exact sel_priv (x0 := ⟨"NoonGuides$TextReader", "failOrder", "()Z"⟩) (y0 := ⟨"NoonGuides$TextReader", "failOrder", "()Z"⟩) (by decide) (hts _ (li 711 (by decide +kernel))) rfl (hts _ (li 665 (by decide +kernel))) (hts _ (li 666 (by decide +kernel)))
  · exact sel_priv (x0 := ⟨"NoonGuides$TextReader", "failOrder", "()Z"⟩) (y0 := ⟨"NoonGuides$TextReader", "failOrder", "()Z"⟩) (by decide) (hts _ (li 711 (by decide +kernel))) rfl (hts _ (li 669 (by decide +kernel))) (hts _ (li 670 (by decide +kernel)))
  · exact sel_priv (x0 := ⟨"NoonGuides$TextReader", "failOrder", "()Z"⟩) (y0 := ⟨"NoonGuides$TextReader", "failOrder", "()Z"⟩) (by decide) (hts _ (li 711 (by decide +kernel))) rfl (hts _ (li 787 (by decide +kernel))) (hts _ (li 788 (by decide +kernel)))
theorem tb_start {args : Array Value} {s : State} (hts : ∀ w ∈ lw_tbl, w.before args s = true) : ∀ w ∈ tb, w.before args s = true := by
  intro w hw
  rcases List.mem_append.mp (List.mem_filter.mp hw).1 with h | h
  · exact sel_all hts w h
  · exact hts w h
theorem cls_start {args : Array Value} {s : State} (hT : ∀ w ∈ tb, w.before args s = true) : ∃ D : va_G, ∀ (c : Nat) (q : vw_C), vwCl[c]? = some q → u_Kn s q.1 q.2.1 q.2.2 (D.1 c) (D.2 c) := by
  have h : ∀ c : Nat, ∃ r : ClassId × (Nat → Nat), ∀ q, vwCl[c]? = some q → u_Kn s q.1 q.2.1 q.2.2 r.1 r.2 := by
    intro c
    match c with
    | 0 =>
      obtain ⟨a, f, h⟩ := u_known (C := RX0) (T := TX0) (N := 14) hT tb_X0 (hT _ t_146)
      exact ⟨(a, f), fun q hq => by cases hq; exact h⟩
    | 1 =>
      obtain ⟨a, f, h⟩ := u_known (C := RX1) (T := TX1) (N := 3) hT tb_X1 (hT _ t_249)
      exact ⟨(a, f), fun q hq => by cases hq; exact h⟩
    | 2 =>
      obtain ⟨a, f, h⟩ := u_known (C := RX2) (T := TX2) (N := 16) hT tb_X2 (hT _ t_268)
      exact ⟨(a, f), fun q hq => by cases hq; exact h⟩
    | 3 =>
      obtain ⟨a, f, h⟩ := u_known (C := RX3) (T := TX3) (N := 14) hT tb_X3 (hT _ t_34)
      exact ⟨(a, f), fun q hq => by cases hq; exact h⟩
    | 4 =>
      obtain ⟨a, f, h⟩ := u_known (C := RX4) (T := TX4) (N := 8) hT tb_X4 (hT _ t_171)
      exact ⟨(a, f), fun q hq => by cases hq; exact h⟩
    | 5 =>
      obtain ⟨a, f, h⟩ := u_known (C := RX5) (T := TX5) (N := 2) hT tb_X5 (hT _ t_235)
      exact ⟨(a, f), fun q hq => by cases hq; exact h⟩
    | 6 =>
      obtain ⟨a, f, h⟩ := u_known (C := RX6) (T := TX6) (N := 6) hT tb_X6 (hT _ t_208)
      exact ⟨(a, f), fun q hq => by cases hq; exact h⟩
    | 7 =>
      obtain ⟨a, f, h⟩ := u_known (C := RX7) (T := TX7) (N := 12) hT tb_X7 (hT _ t_320)
      exact ⟨(a, f), fun q hq => by cases hq; exact h⟩
    | 8 =>
      obtain ⟨a, f, h⟩ := u_known (C := RX8) (T := TX8) (N := 8) hT tb_X8 (hT _ t_278)
      exact ⟨(a, f), fun q hq => by cases hq; exact h⟩
    | 9 =>
      obtain ⟨a, f, h⟩ := u_known (C := RX10) (T := TX10) (N := 3) hT tb_X10 (hT _ t_474)
      exact ⟨(a, f), fun q hq => by cases hq; exact h⟩
    | 10 =>
      obtain ⟨a, f, h⟩ := u_known (C := RX11) (T := TX11) (N := 20) hT tb_X11 (hT _ t_22)
      exact ⟨(a, f), fun q hq => by cases hq; exact h⟩
    | 11 =>
      obtain ⟨a, f, h⟩ := u_known (C := RX12) (T := TX12) (N := 47) hT tb_X12 (hT _ t_1482)
      exact ⟨(a, f), fun q hq => by cases hq; exact h⟩
    | c + 12 => exact ⟨(0, fun _ => 0), fun q hq => by simp [vwCl] at hq⟩
  obtain ⟨f, hf⟩ := Classical.axiomOfChoice h
  exact ⟨(fun c => (f c).1, fun c => (f c).2), fun c q hq => hf c q hq⟩
theorem arr_num {args : Array Value} {s : State} {ty : FieldType} (h : (Cond.arrayClass ty).before args s = true) (hty : ty = .byte ∨ ty = .int ∨ ty = .long ∨ ty = .boolean) : ∃ cA, ArrOfT s cA ty ∧ va_RA s cA ty := by
  obtain ⟨c, k, comp, h1, h2, h3⟩ := Cond.arrayClass_spec h
  refine ⟨c, fun n z => ⟨fun k h => (by cases h), k, h2, comp, h3⟩, ?_⟩
  rcases hty with rfl | rfl | rfl | rfl <;> exact h1
theorem arr_obj {args : Array Value} {s : State} {C : String} (h : (Cond.arrayOver (.object C)).before args s = true) : ∃ cA, ArrOfT s cA (.object C) ∧ va_RA s cA (.object C) := by
  obtain ⟨comp, c, k, h1, h2, h3, h4, h5⟩ := Cond.arrayOver_spec h
  exact ⟨c, fun n z => ⟨fun k h => (by cases h), k, h3, comp, h4⟩, k, comp, h3, h4, h1, h5⟩
theorem arr_start {args : Array Value} {s : State} (hts : ∀ w ∈ lw_tbl, w.before args s = true) (hT : ∀ w ∈ tb, w.before args s = true) : ∃ cy : Nat → ClassId, ∀ (k : Nat) (q : ClassId × FieldType), (ktys cy)[k]? = some q → ArrOfT s q.1 q.2 ∧ va_RA s q.1 q.2 := by
  obtain ⟨c0, h0⟩ := arr_num (hT _ t_142) (Or.inl rfl)
  obtain ⟨c1, h1⟩ := arr_num (hT _ t_143) (Or.inr (Or.inl rfl))
  obtain ⟨c2, h2⟩ := arr_num (hT _ t_144) (Or.inr (Or.inr (Or.inl rfl)))
  obtain ⟨c3, h3⟩ := arr_num (hT _ t_319) (Or.inr (Or.inr (Or.inr rfl)))
  obtain ⟨c4, h4⟩ := arr_obj (C := "NoonGuides$Land") (hts _ (li 32 (by decide +kernel)))
  obtain ⟨c5, h5⟩ := arr_obj (C := "NoonGuides$Person") (hts _ (li 274 (by decide +kernel)))
  obtain ⟨c6, h6⟩ := arr_obj (C := "NoonGuides$Tray") (hts _ (li 30 (by decide +kernel)))
  refine ⟨fun k => match k with | 0 => c0 | 1 => c1 | 2 => c2 | 3 => c3 | 4 => c4 | 5 => c5 | _ => c6, ?_⟩
  intro k q hq
  match k, hq with
  | 0, hq => cases hq; exact h0
  | 1, hq => cases hq; exact h1
  | 2, hq => cases hq; exact h2
  | 3, hq => cases hq; exact h3
  | 4, hq => cases hq; exact h4
  | 5, hq => cases hq; exact h5
  | 6, hq => cases hq; exact h6
  | k + 7, hq => simp [ktys] at hq
theorem el_0 : ∀ j, j < 24 → (flatC (Jvm.Cond.and given_1 narrow_1))[49 + j]? = some (Cond.eq (Term.elem (Term.field (Term.string "NoonGuides$TextReader" 26) "java/lang/String" "value" "[B") (.int (Int32.ofNat (0 + j)))) (.int (kwBytes.getD (0 + j) 0))) := by decide +kernel
theorem el_1 : ∀ j, j < 24 → (flatC (Jvm.Cond.and given_1 narrow_1))[73 + j]? = some (Cond.eq (Term.elem (Term.field (Term.string "NoonGuides$TextReader" 26) "java/lang/String" "value" "[B") (.int (Int32.ofNat (24 + j)))) (.int (kwBytes.getD (24 + j) 0))) := by decide +kernel
theorem el_2 : ∀ j, j < 24 → (flatC (Jvm.Cond.and given_1 narrow_1))[97 + j]? = some (Cond.eq (Term.elem (Term.field (Term.string "NoonGuides$TextReader" 26) "java/lang/String" "value" "[B") (.int (Int32.ofNat (48 + j)))) (.int (kwBytes.getD (48 + j) 0))) := by decide +kernel
theorem el_3 : ∀ j, j < 24 → (flatC (Jvm.Cond.and given_1 narrow_1))[121 + j]? = some (Cond.eq (Term.elem (Term.field (Term.string "NoonGuides$TextReader" 26) "java/lang/String" "value" "[B") (.int (Int32.ofNat (72 + j)))) (.int (kwBytes.getD (72 + j) 0))) := by decide +kernel
theorem el_4 : ∀ j, j < 24 → (flatC (Jvm.Cond.and given_1 narrow_1))[145 + j]? = some (Cond.eq (Term.elem (Term.field (Term.string "NoonGuides$TextReader" 26) "java/lang/String" "value" "[B") (.int (Int32.ofNat (96 + j)))) (.int (kwBytes.getD (96 + j) 0))) := by decide +kernel
theorem el_5 : ∀ j, j < 21 → (flatC (Jvm.Cond.and given_1 narrow_1))[169 + j]? = some (Cond.eq (Term.elem (Term.field (Term.string "NoonGuides$TextReader" 26) "java/lang/String" "value" "[B") (.int (Int32.ofNat (120 + j)))) (.int (kwBytes.getD (120 + j) 0))) := by decide +kernel
theorem el_all : ∀ j, j < 141 → Cond.eq (Term.elem (Term.field (Term.string "NoonGuides$TextReader" 26) "java/lang/String" "value" "[B") (.int (Int32.ofNat (j)))) (.int (kwBytes.getD (j) 0)) ∈ flatC (Jvm.Cond.and given_1 narrow_1) := by
  intro j hj
  by_cases h0 : j < 24
  · have e := el_0 (j - 0) (by omega)
    rw [show 0 + (j - 0) = j by omega] at e
    exact List.mem_of_getElem? e
  by_cases h1 : j < 48
  · have e := el_1 (j - 24) (by omega)
    rw [show 24 + (j - 24) = j by omega] at e
    exact List.mem_of_getElem? e
  by_cases h2 : j < 72
  · have e := el_2 (j - 48) (by omega)
    rw [show 48 + (j - 48) = j by omega] at e
    exact List.mem_of_getElem? e
  by_cases h3 : j < 96
  · have e := el_3 (j - 72) (by omega)
    rw [show 72 + (j - 72) = j by omega] at e
    exact List.mem_of_getElem? e
  by_cases h4 : j < 120
  · have e := el_4 (j - 96) (by omega)
    rw [show 96 + (j - 96) = j by omega] at e
    exact List.mem_of_getElem? e
  have e := el_5 (j - 120) (by omega)
  rw [show 120 + (j - 120) = j by omega] at e
  exact List.mem_of_getElem? e
theorem KW_start {args : Array Value} {s : State} (hts : ∀ w ∈ lw_tbl, w.before args s = true) (hgv : (Jvm.Cond.and given_1 narrow_1).before args s = true) : ∃ w : Nat × Nat, KW s.heap.size w s s.heap := by
  have hs := flat_of_before _ hgv
  have hA : ∀ a : Nat, a < s.heap.size → ¬ (fun q : Nat => s.heap.size ≤ q) a := fun a h => Nat.not_le.mpr h
  have f1 : (Cond.exactly (Term.string "NoonGuides$TextReader" 26) "java/lang/String").before args s = true := hs _ (by decide +kernel)
  have f2 : (Cond.eq (Term.field (Term.string "NoonGuides$TextReader" 26) "java/lang/String" "coder" "B") (.int 0)).before args s = true := hs _ (by decide +kernel)
  have f3 : (Cond.arrayOf (Term.field (Term.string "NoonGuides$TextReader" 26) "java/lang/String" "value" "[B") .byte).before args s = true := hs _ (by decide +kernel)
  have f4 : (Cond.eq (Term.length (Term.field (Term.string "NoonGuides$TextReader" 26) "java/lang/String" "value" "[B")) (.int 141)).before args s = true := hs _ (by decide +kernel)
  have f6 : (Cond.eq (Term.static "java/lang/String" "COMPACT_STRINGS" "Z") (.int 1)).before args s = true := hs _ (by decide +kernel)
  have f7 : (Cond.isRef (Term.static "jdk/internal/util/Preconditions" "SIOOBE_FORMATTER" "Ljava/util/function/BiFunction;")).before args s = true := hs _ (by decide +kernel)
  have g1 : ∀ i : Nat, i < 1 → ([141] : List Nat).getD i 0 < 2 ^ 31 := by
    intro i hi
    obtain rfl : i = 0 := by omega
    decide
  have g4 : ∀ i : Nat, i < 1 → (Cond.eq (Term.length (Term.field (Term.string "NoonGuides$TextReader" 26) "java/lang/String" "value" "[B")) (.int (Int32.ofNat (([141] : List Nat).getD i 0)))).before args s = true := by
    intro i hi
    obtain rfl : i = 0 := by omega
    exact f4
  have g5 : ∀ i : Nat, i < 1 → ∀ j : Nat, j < ([141] : List Nat).getD i 0 → (Cond.eq (Term.elem (Term.field (Term.string "NoonGuides$TextReader" 26) "java/lang/String" "value" "[B") (.int (Int32.ofNat j))) (.int (([kwBytes].getD i []).getD j 0))).before args s = true := by
    intro i hi j hj
    obtain rfl : i = 0 := by omega
    exact hs _ (el_all j hj)
  obtain ⟨aK, aV, hS, hev⟩ := vk_Sof (N := 1) (tm := fun _ => (Term.string "NoonGuides$TextReader" 26)) (len := [141]) (byt := [kwBytes]) (A := (fun q : Nat => s.heap.size ≤ q)) (args := args) (s := s) g1 (fun _ _ => f1) (fun _ _ => f2) (fun _ _ => f3) g4 g5 (fun i j hi hj h => absurd (by omega) h) hA
  refine ⟨(aK 0, aV 0), fun c hc => ?_, ⟨va_AO.of (hts _ (li 30 (by decide +kernel))), va_AO.of (hts _ (li 32 (by decide +kernel))), va_AO.of (hts _ (li 274 (by decide +kernel)))⟩, vk_R.of (hts _ (li 42 (by decide +kernel))) (hev 0 (by omega)), ⟨fun i hi => ?_, fun i j hi hj _ => by omega⟩, va_Zof (hts _ (li 52 (by decide +kernel))) (hts _ (li 4 (by decide +kernel))) (va_eqt f6) hA, va_Zqof (hts _ (li 68 (by decide +kernel))) (hts _ (li 6 (by decide +kernel))) f7 hA⟩
  · simp only [nestL, List.mem_cons, List.not_mem_nil, or_false] at hc
    rcases hc with rfl | rfl | rfl | rfl | rfl | rfl | rfl | rfl | rfl | rfl | rfl
    · exact va_Nw.of rfl (hts _ (li 35 (by decide +kernel)))
    · exact va_Nw.of rfl (hts _ (li 147 (by decide +kernel)))
    · exact va_Nw.of rfl (hts _ (li 172 (by decide +kernel)))
    · exact va_Nw.of rfl (hts _ (li 209 (by decide +kernel)))
    · exact va_Nw.of rfl (hts _ (li 236 (by decide +kernel)))
    · exact va_Nw.of rfl (hts _ (li 250 (by decide +kernel)))
    · exact va_Nw.of rfl (hts _ (li 276 (by decide +kernel)))
    · exact va_Nw.of rfl (hts _ (li 279 (by decide +kernel)))
    · exact va_Nw.of rfl (hts _ (li 321 (by decide +kernel)))
    · exact va_Nw.of rfl (hts _ (li 473 (by decide +kernel)))
    · exact va_Nw.of rfl (hts _ (li 475 (by decide +kernel)))
  · obtain rfl : i = 0 := by omega
    exact hS.1 0 hi
