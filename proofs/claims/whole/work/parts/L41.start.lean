theorem dL_law_0 : dc cL_law 0 (.new 7) 3 3 := ⟨by decide +kernel, rfl⟩
theorem dL_law_3 : dc cL_law 3 (.dup) 1 4 := ⟨by decide +kernel, rfl⟩
theorem dL_law_4 : dc cL_law 4 (.invokespecial 9) 3 7 := ⟨by decide +kernel, rfl⟩
theorem dL_law_7 : dc cL_law 7 (.astore_n 1) 1 8 := ⟨by decide +kernel, rfl⟩
theorem dL_law_8 : dc cL_law 8 (.new 10) 3 11 := ⟨by decide +kernel, rfl⟩
theorem dL_law_11 : dc cL_law 11 (.dup) 1 12 := ⟨by decide +kernel, rfl⟩
theorem dL_law_12 : dc cL_law 12 (.invokespecial 12) 3 15 := ⟨by decide +kernel, rfl⟩
theorem dL_law_15 : dc cL_law 15 (.astore_n 2) 1 16 := ⟨by decide +kernel, rfl⟩
theorem dL_law_16 : dc cL_law 16 (.iconst 0) 1 17 := ⟨by decide +kernel, rfl⟩
theorem dL_law_17 : dc cL_law 17 (.istore_n 3) 1 18 := ⟨by decide +kernel, rfl⟩
theorem li (k : Nat) {c : Cond} (h : tables_1[k]? = some c) : c ∈ lw_tbl := List.mem_append_right _ (List.mem_of_getElem? h)
theorem sel_priv {args : Array Value} {s : State} {C : String} {x0 y0 y : MethodName} (hy : y.cls ≠ "java/lang/invoke/MethodHandle" ∧ y.cls ≠ "java/lang/invoke/VarHandle") (hsel : (Cond.selects C x0 y0).before args s = true) (h0 : y0.cls = y.cls) (hpriv : (Cond.privateMethod y).before args s = true) (hinst : (Cond.instanceMethod y).before args s = true) : (Cond.selects C y y).before args s = true := by
  obtain ⟨c, r, m, hc, hr, hm, hs, mk0, hk, hni⟩ := Cond.selects_spec hsel
  obtain ⟨mk, methM, hnamed, hmethM, -, -⟩ := Cond.instanceMethod_spec hinst
  have hfound : s.methodFound? y.cls y.name y.desc = some mk := State.methodFound?_of_named hnamed hy
  have hcls : mk.cls = m.cls := Option.some.inj ((findClass_of_methodNamed hnamed).symm.trans (by rw [← h0]; exact findClass_of_methodNamed hm))
  have hsel2 : selectMethod {} s.vm c mk = .method mk := selectMethod_private hmethM (Cond.privateMethod_at hpriv mk methM hnamed hmethM)
  simp only [Cond.before, Cond.holds, Cond.value, hc, hfound, hnamed, hsel2, hcls, hk]
  simp
  exact hni
theorem sel_all {args : Array Value} {s : State} (hts : ∀ w ∈ lw_tbl, w.before args s = true) : ∀ w ∈ selx, w.before args s = true := by
  intro w hw
  simp only [selx, List.mem_cons, List.not_mem_nil, or_false] at hw
  rcases hw with rfl | rfl | rfl | rfl | rfl | rfl | rfl | rfl
  · exact sel_priv (x0 := ⟨"NoonGuides$TextReader", "failOrder", "()Z"⟩) (y0 := ⟨"NoonGuides$TextReader", "failOrder", "()Z"⟩) (by decide) (hts _ (li 712 (by decide +kernel))) rfl (hts _ (li 661 (by decide +kernel))) (hts _ (li 662 (by decide +kernel)))
  · exact sel_priv (x0 := ⟨"NoonGuides$TextReader", "failOrder", "()Z"⟩) (y0 := ⟨"NoonGuides$TextReader", "failOrder", "()Z"⟩) (by decide) (hts _ (li 712 (by decide +kernel))) rfl (hts _ (li 665 (by decide +kernel))) (hts _ (li 666 (by decide +kernel)))
  · exact sel_priv (x0 := ⟨"NoonGuides$TextReader", "failOrder", "()Z"⟩) (y0 := ⟨"NoonGuides$TextReader", "failOrder", "()Z"⟩) (by decide) (hts _ (li 712 (by decide +kernel))) rfl (hts _ (li 669 (by decide +kernel))) (hts _ (li 670 (by decide +kernel)))
  · exact sel_priv (x0 := ⟨"NoonGuides$TextReader", "failOrder", "()Z"⟩) (y0 := ⟨"NoonGuides$TextReader", "failOrder", "()Z"⟩) (by decide) (hts _ (li 712 (by decide +kernel))) rfl (hts _ (li 787 (by decide +kernel))) (hts _ (li 788 (by decide +kernel)))
  · exact sel_priv (x0 := ⟨"NoonGuides$TextReader", "failOrder", "()Z"⟩) (y0 := ⟨"NoonGuides$TextReader", "failOrder", "()Z"⟩) (by decide) (hts _ (li 711 (by decide +kernel))) rfl (hts _ (li 661 (by decide +kernel))) (hts _ (li 662 (by decide +kernel)))
  · exact sel_priv (x0 := ⟨"NoonGuides$TextReader", "failOrder", "()Z"⟩) (y0 := ⟨"NoonGuides$TextReader", "failOrder", "()Z"⟩) (by decide) (hts _ (li 711 (by decide +kernel))) rfl (hts _ (li 665 (by decide +kernel))) (hts _ (li 666 (by decide +kernel)))
  · exact sel_priv (x0 := ⟨"NoonGuides$TextReader", "failOrder", "()Z"⟩) (y0 := ⟨"NoonGuides$TextReader", "failOrder", "()Z"⟩) (by decide) (hts _ (li 711 (by decide +kernel))) rfl (hts _ (li 669 (by decide +kernel))) (hts _ (li 670 (by decide +kernel)))
  · exact sel_priv (x0 := ⟨"NoonGuides$TextReader", "failOrder", "()Z"⟩) (y0 := ⟨"NoonGuides$TextReader", "failOrder", "()Z"⟩) (by decide) (hts _ (li 711 (by decide +kernel))) rfl (hts _ (li 787 (by decide +kernel))) (hts _ (li 788 (by decide +kernel)))
theorem tb_start {args : Array Value} {s : State} (hts : ∀ w ∈ lw_tbl, w.before args s = true) : ∀ w ∈ tb, w.before args s = true := by
  intro w hw
  rcases List.mem_append.mp (List.mem_filter.mp hw).1 with h | h
  · exact sel_all hts w h
  · exact hts w h
theorem cls_start {args : Array Value} {s : State} (hT : ∀ w ∈ tb, w.before args s = true) : ∃ D : va_G, ∀ (c : Nat) (q : vw_C), vwCl[c]? = some q → u_Kn s q.1 q.2.1 q.2.2 (D.1 c) (D.2 c) := by
  have h : ∀ c : Nat, ∃ r : ClassId × (Nat → Nat), ∀ q, vwCl[c]? = some q → u_Kn s q.1 q.2.1 q.2.2 r.1 r.2 := by
    intro c
    match c with
    | 0 =>
      obtain ⟨a, f, h⟩ := u_known (C := RX0) (T := TX0) (N := 14) hT tb_X0 (hT _ t_146)
      exact ⟨(a, f), fun q hq => by cases hq; exact h⟩
    | 1 =>
      obtain ⟨a, f, h⟩ := u_known (C := RX1) (T := TX1) (N := 3) hT tb_X1 (hT _ t_249)
      exact ⟨(a, f), fun q hq => by cases hq; exact h⟩
    | 2 =>
      obtain ⟨a, f, h⟩ := u_known (C := RX2) (T := TX2) (N := 16) hT tb_X2 (hT _ t_268)
      exact ⟨(a, f), fun q hq => by cases hq; exact h⟩
    | 3 =>
      obtain ⟨a, f, h⟩ := u_known (C := RX3) (T := TX3) (N := 14) hT tb_X3 (hT _ t_34)
      exact ⟨(a, f), fun q hq => by cases hq; exact h⟩
    | 4 =>
      obtain ⟨a, f, h⟩ := u_known (C := RX4) (T := TX4) (N := 8) hT tb_X4 (hT _ t_171)
      exact ⟨(a, f), fun q hq => by cases hq; exact h⟩
    | 5 =>
      obtain ⟨a, f, h⟩ := u_known (C := RX5) (T := TX5) (N := 2) hT tb_X5 (hT _ t_235)
      exact ⟨(a, f), fun q hq => by cases hq; exact h⟩
    | 6 =>
      obtain ⟨a, f, h⟩ := u_known (C := RX6) (T := TX6) (N := 6) hT tb_X6 (hT _ t_208)
      exact ⟨(a, f), fun q hq => by cases hq; exact h⟩
    | 7 =>
      obtain ⟨a, f, h⟩ := u_known (C := RX7) (T := TX7) (N := 12) hT tb_X7 (hT _ t_320)
      exact ⟨(a, f), fun q hq => by cases hq; exact h⟩
    | 8 =>
      obtain ⟨a, f, h⟩ := u_known (C := RX8) (T := TX8) (N := 8) hT tb_X8 (hT _ t_278)
      exact ⟨(a, f), fun q hq => by cases hq; exact h⟩
    | 9 =>
      obtain ⟨a, f, h⟩ := u_known (C := RX10) (T := TX10) (N := 3) hT tb_X10 (hT _ t_474)
      exact ⟨(a, f), fun q hq => by cases hq; exact h⟩
    | 10 =>
      obtain ⟨a, f, h⟩ := u_known (C := RX11) (T := TX11) (N := 20) hT tb_X11 (hT _ t_22)
      exact ⟨(a, f), fun q hq => by cases hq; exact h⟩
    | 11 =>
      obtain ⟨a, f, h⟩ := u_known (C := RX12) (T := TX12) (N := 47) hT tb_X12 (hT _ t_1482)
      exact ⟨(a, f), fun q hq => by cases hq; exact h⟩
    | c + 12 => exact ⟨(0, fun _ => 0), fun q hq => by simp [vwCl] at hq⟩
  obtain ⟨f, hf⟩ := Classical.axiomOfChoice h
  exact ⟨(fun c => (f c).1, fun c => (f c).2), fun c q hq => hf c q hq⟩
theorem arr_num {args : Array Value} {s : State} {ty : FieldType} (h : (Cond.arrayClass ty).before args s = true) (hty : ty = .byte ∨ ty = .int ∨ ty = .long ∨ ty = .boolean) : ∃ cA, ArrOfT s cA ty ∧ va_RA s cA ty := by
  obtain ⟨c, k, comp, h1, h2, h3⟩ := Cond.arrayClass_spec h
  refine ⟨c, fun n z => ⟨fun k h => (by cases h), k, h2, comp, h3⟩, ?_⟩
  rcases hty with rfl | rfl | rfl | rfl <;> exact h1
theorem arr_obj {args : Array Value} {s : State} {C : String} (h : (Cond.arrayOver (.object C)).before args s = true) : ∃ cA, ArrOfT s cA (.object C) ∧ va_RA s cA (.object C) := by
  obtain ⟨comp, c, k, h1, h2, h3, h4, h5⟩ := Cond.arrayOver_spec h
  exact ⟨c, fun n z => ⟨fun k h => (by cases h), k, h3, comp, h4⟩, k, comp, h3, h4, h1, h5⟩
theorem arr_start {args : Array Value} {s : State} (hts : ∀ w ∈ lw_tbl, w.before args s = true) (hT : ∀ w ∈ tb, w.before args s = true) : ∃ cy : Nat → ClassId, ∀ (k : Nat) (q : ClassId × FieldType), (ktys cy)[k]? = some q → ArrOfT s q.1 q.2 ∧ va_RA s q.1 q.2 := by
  obtain ⟨c0, h0⟩ := arr_num (hT _ t_142) (Or.inl rfl)
  obtain ⟨c1, h1⟩ := arr_num (hT _ t_143) (Or.inr (Or.inl rfl))
  obtain ⟨c2, h2⟩ := arr_num (hT _ t_144) (Or.inr (Or.inr (Or.inl rfl)))
  obtain ⟨c3, h3⟩ := arr_num (hT _ t_319) (Or.inr (Or.inr (Or.inr rfl)))
  obtain ⟨c4, h4⟩ := arr_obj (C := "NoonGuides$Land") (hts _ (li 32 (by decide +kernel)))
  obtain ⟨c5, h5⟩ := arr_obj (C := "NoonGuides$Person") (hts _ (li 274 (by decide +kernel)))
  obtain ⟨c6, h6⟩ := arr_obj (C := "NoonGuides$Tray") (hts _ (li 30 (by decide +kernel)))
  refine ⟨fun k => match k with | 0 => c0 | 1 => c1 | 2 => c2 | 3 => c3 | 4 => c4 | 5 => c5 | _ => c6, ?_⟩
  intro k q hq
  match k, hq with
  | 0, hq => cases hq; exact h0
  | 1, hq => cases hq; exact h1
  | 2, hq => cases hq; exact h2
  | 3, hq => cases hq; exact h3
  | 4, hq => cases hq; exact h4
  | 5, hq => cases hq; exact h5
  | 6, hq => cases hq; exact h6
  | k + 7, hq => simp [ktys] at hq
theorem KW_start {args : Array Value} {s : State} (hts : ∀ w ∈ lw_tbl, w.before args s = true) (hgv : (Jvm.Cond.and given_1 narrow_1).before args s = true) : ∃ w : Nat × Nat, KW s.heap.size w s s.heap := by
  have hs := flat_of_before _ hgv
  have hA : ∀ a : Nat, a < s.heap.size → ¬ (fun q : Nat => s.heap.size ≤ q) a := fun a h => Nat.not_le.mpr h
  have f1 : (Cond.exactly (Term.string "NoonGuides$TextReader" 26) "java/lang/String").before args s = true := hs _ (by decide +kernel)
  have f2 : (Cond.eq (Term.field (Term.string "NoonGuides$TextReader" 26) "java/lang/String" "coder" "B") (.int 0)).before args s = true := hs _ (by decide +kernel)
  have f3 : (Cond.arrayOf (Term.field (Term.string "NoonGuides$TextReader" 26) "java/lang/String" "value" "[B") .byte).before args s = true := hs _ (by decide +kernel)
  have f4 : (Cond.eq (Term.length (Term.field (Term.string "NoonGuides$TextReader" 26) "java/lang/String" "value" "[B")) (.int 141)).before args s = true := hs _ (by decide +kernel)
  have f5 : ∀ j, j < 141 → Cond.eq (Term.elem (Term.field (Term.string "NoonGuides$TextReader" 26) "java/lang/String" "value" "[B") (.int (Int32.ofNat j))) (.int (kwBytes.getD j 0)) ∈ flatC (Jvm.Cond.and given_1 narrow_1) := by decide +kernel
  have f6 : (Cond.eq (Term.static "java/lang/String" "COMPACT_STRINGS" "Z") (.int 1)).before args s = true := hs _ (by decide +kernel)
  have f7 : (Cond.isRef (Term.static "jdk/internal/util/Preconditions" "SIOOBE_FORMATTER" "Ljava/util/function/BiFunction;")).before args s = true := hs _ (by decide +kernel)
  have g1 : ∀ i : Nat, i < 1 → ([141] : List Nat).getD i 0 < 2 ^ 31 := by
    intro i hi
    obtain rfl : i = 0 := by omega
    decide
  have g4 : ∀ i : Nat, i < 1 → (Cond.eq (Term.length (Term.field (Term.string "NoonGuides$TextReader" 26) "java/lang/String" "value" "[B")) (.int (Int32.ofNat (([141] : List Nat).getD i 0)))).before args s = true := by
    intro i hi
    obtain rfl : i = 0 := by omega
    exact f4
  have g5 : ∀ i : Nat, i < 1 → ∀ j : Nat, j < ([141] : List Nat).getD i 0 → (Cond.eq (Term.elem (Term.field (Term.string "NoonGuides$TextReader" 26) "java/lang/String" "value" "[B") (.int (Int32.ofNat j))) (.int (([kwBytes].getD i []).getD j 0))).before args s = true := by
    intro i hi j hj
    obtain rfl : i = 0 := by omega
    exact hs _ (f5 j hj)
  obtain ⟨aK, aV, hS, hev⟩ := vk_Sof (N := 1) (tm := fun _ => (Term.string "NoonGuides$TextReader" 26)) (len := [141]) (byt := [kwBytes]) (A := (fun q : Nat => s.heap.size ≤ q)) (args := args) (s := s) g1 (fun _ _ => f1) (fun _ _ => f2) (fun _ _ => f3) g4 g5 (fun i j hi hj h => absurd (by omega) h) hA
  refine ⟨(aK 0, aV 0), fun c hc => ?_, ⟨va_AO.of (hts _ (li 30 (by decide +kernel))), va_AO.of (hts _ (li 32 (by decide +kernel))), va_AO.of (hts _ (li 274 (by decide +kernel)))⟩, vk_R.of (hts _ (li 42 (by decide +kernel))) (hev 0 (by omega)), ⟨fun i hi => ?_, fun i j hi hj _ => by omega⟩, va_Zof (hts _ (li 52 (by decide +kernel))) (hts _ (li 4 (by decide +kernel))) (va_eqt f6) hA, va_Zqof (hts _ (li 68 (by decide +kernel))) (hts _ (li 6 (by decide +kernel))) f7 hA⟩
  · simp only [nestL, List.mem_cons, List.not_mem_nil, or_false] at hc
    rcases hc with rfl | rfl | rfl | rfl | rfl | rfl | rfl | rfl | rfl | rfl | rfl
    · exact va_Nw.of rfl (hts _ (li 35 (by decide +kernel)))
    · exact va_Nw.of rfl (hts _ (li 147 (by decide +kernel)))
    · exact va_Nw.of rfl (hts _ (li 172 (by decide +kernel)))
    · exact va_Nw.of rfl (hts _ (li 209 (by decide +kernel)))
    · exact va_Nw.of rfl (hts _ (li 236 (by decide +kernel)))
    · exact va_Nw.of rfl (hts _ (li 250 (by decide +kernel)))
    · exact va_Nw.of rfl (hts _ (li 276 (by decide +kernel)))
    · exact va_Nw.of rfl (hts _ (li 279 (by decide +kernel)))
    · exact va_Nw.of rfl (hts _ (li 321 (by decide +kernel)))
    · exact va_Nw.of rfl (hts _ (li 473 (by decide +kernel)))
    · exact va_Nw.of rfl (hts _ (li 475 (by decide +kernel)))
  · obtain rfl : i = 0 := by omega
    exact hS.1 0 hi
set_option maxRecDepth 100000 in
set_option maxHeartbeats 4000000 in
theorem law_body {x : BX} {cy : Nat → ClassId} {w : Nat × Nat} {b L : Nat} {xs : Nat → Int32} {Z : State → Prop} {E' : KE} (G : BG cy w x cL_law "NoonGuidesLaw" 4 none 100) (hk : BXk x = (600000, 7302249)) (hQ : BXQ x = fun _ => Z) (GS : ∀ (q1 q2 : Nat) (Qk : KO → State → Prop), KS (toK x q1 q2 Qk) b L xs) (GL : ∀ (q1 q2 : Nat), q1 ≤ 600000 → q2 ≤ 7302249 → KLw (toK x q1 q2 (fun _ => Z)) b) (hL : L ≤ 3072) {y : KM} (hf : f_X12_empties 700 227 (0 : Int32) M00 = some y) (hI : Inv y) : BV x E' 0 [(0, .ref b)] [] (bL (fun _ => .inr (0, [])) 0 []) 0 0 := by
  have hB : ∀ a, a < 227 → (bL (fun _ => .inr (0, [])) 0 (L_11 cy (BXz x) 0)).1 a = FINw kwF cy (BXz x) a := fun a ha => by
    show (if a < 0 then (.inr (0, []) : va_E) else (L_11 cy (BXz x) 0).getD (a - 0) (.inr (0, []))) = _
    rw [if_neg (Nat.not_lt_zero a), sg_all]
    exact fget (Nat.zero_le a) (by omega)
  refine b_new (ci := 10) G tyX11 rfl tb_X11 tyX11_ok t_21 t_22 t_1 [.null, .null, .null, .null, .null, .null, .null, .null, .null, .null, .null, .null, .null, .int 0, .int 0, .int 0, .int 0, .int 0, .long 0, .long 0] (by decide +kernel) (by rw [hk]; exact Nat.le_of_ble_eq_true rfl) (by rw [hk]; exact Nat.le_of_ble_eq_true rfl) dL_law_0 ?_
  rw [bL_new]
  show BV x _ 3 _ [.ref (BXz x + 0)] (bL _ 0 [.inr (10, [.null, .null, .null, .null, .null, .null, .null, .null, .null, .null, .null, .null, .null, .int 0, .int 0, .int 0, .int 0, .int 0, .long 0, .long 0])]) _ _
  refine b_dup G dL_law_3 rfl ?_
  refine b_call (i := 0) G (cb_X11 _ 0) t_23 t_24 t_1 t_25 rfl nm_X11_init (Nat.le_of_ble_eq_true rfl) (Nat.le_of_ble_eq_true rfl) (by rw [hk]; exact Nat.le_of_ble_eq_true rfl) (by rw [hk]; exact Nat.le_of_ble_eq_true rfl) (Nat.le_of_ble_eq_true rfl) dL_law_4 ?_
  refine b_astore_n [(1, .ref (BXz x + 0)), (0, .ref b)] G dL_law_7 (Nat.le_of_ble_eq_true rfl) rfl ?_
  refine b_new (ci := 11) G tyX12 rfl tb_X12 tyX12_ok t_1481 t_1482 t_17 [.int 0, .int 0, .long 0, .long 0, .null, .null, .null, .null, .int 0, .int 0, .int 0, .int 0, .int 0, .int 0, .int 0, .int 0, .int 0, .int 0, .int 0, .long 0, .null, .null, .null, .null, .int 0, .int 0, .int 0, .int 0, .int 0, .int 0, .null, .null, .null, .null, .null, .null, .null, .null, .int 0, .int 0, .int 0, .int 0, .int 0, .int 0, .int 0, .int 0, .int 0] (by decide +kernel) (by rw [hk]; exact Nat.le_of_ble_eq_true rfl) (by rw [hk]; exact Nat.le_of_ble_eq_true rfl) dL_law_8 ?_
  rw [bL_new, bL_cut, bL_len, ln_L_11]
  show BV x _ 11 _ [.ref (BXz x + 227)] (bL _ 227 [.inr (11, [.int 0, .int 0, .long 0, .long 0, .null, .null, .null, .null, .int 0, .int 0, .int 0, .int 0, .int 0, .int 0, .int 0, .int 0, .int 0, .int 0, .int 0, .long 0, .null, .null, .null, .null, .int 0, .int 0, .int 0, .int 0, .int 0, .int 0, .null, .null, .null, .null, .null, .null, .null, .null, .int 0, .int 0, .int 0, .int 0, .int 0, .int 0, .int 0, .int 0, .int 0])]) _ _
  refine b_dup G dL_law_11 rfl ?_
  refine b_kcall (i := 227) (o2 := (none, y)) G (cb_X12 _ hB rfl hf) t_1483 t_1484 t_17 t_1485 rfl nm_X12_init (Nat.le_of_ble_eq_true rfl) (Nat.le_of_ble_eq_true rfl) (by rw [hk]; exact Nat.le_of_ble_eq_true rfl) (by rw [hk]; exact Nat.le_of_ble_eq_true rfl) (Nat.le_of_ble_eq_true rfl) dL_law_12 (fun _ => Z) (none, y) (by rw [hQ]) ?_
  have GK := toK_G (Qk := fun _ => Z) (q1 := 0 + 1 + 226 + 1 + 16) (q2 := 0 + 20 + 4917 + 47 + 4684) G (by rw [hk]; exact Nat.le_of_ble_eq_true rfl) (by rw [hk]; exact Nat.le_of_ble_eq_true rfl)
  show KV _ _ _ _ 15 [(1, .ref (BXz x + 0)), (0, .ref b)] [.ref (BXz x + 227)] y
  refine v_astore_n [(2, .ref (BXz x + 227)), (1, .ref (BXz x + 0)), (0, .ref b)] GK dL_law_15 (Nat.le_of_ble_eq_true rfl) rfl ?_
  refine v_iconst 0 GK dL_law_16 (by decide) ?_
  refine v_istore_n [(3, .int 0), (2, .ref (BXz x + 227)), (1, .ref (BXz x + 0)), (0, .ref b)] GK dL_law_17 (Nat.le_of_ble_eq_true rfl) rfl ?_
  refine v_sub [(0, .ref b), (1, .ref (BXz x + 0)), (2, .ref (BXz x + 227)), (3, .int 0)] [3, 2, 1, 0] rfl ?_
  obtain ⟨n, hn⟩ : ∃ n, 41400 + 512 < n := ⟨_, Nat.lt_succ_self _⟩
  have hz := law_all (xs := xs) hL 512 0 y n (by omega) (by omega) (by omega) hn hI
  rw [show zI 0 = (0 : Int32) by decide +kernel] at hz
  exact s_L_law_18 GK L xs (a1 := 0) (a2 := 227) (GS _ _ _) (GL _ _ (Nat.le_of_ble_eq_true rfl) (Nat.le_of_ble_eq_true rfl)) kt_0 kt_227 n 0 y hz
/-- from the entry, for every script of at most 3072 ints, the law comes to its end with true -/
theorem whole_start {p : Program} {e : Env} {s : State} {m : MethodId} {below : List Frame} {meth : Method} {c : Code} (l : Launch) (hflags : l.flags = flags0) {b L : Nat} {xs : Nat → Int32} (hL : L ≤ 3072) (C0 : lw_At p s m meth c b L xs) : W p l e room_1 s m #[Value.ref b] below meth c s.heap [] 0 0 (lw_Z below #[Value.ref b] s) (entryFrame m ([Value.ref b] : List Value).toArray 4) := by
  obtain ⟨hx, hb, hr, hml, hown, hts, hX, hbl, hlocks, hgv⟩ := id C0
  have hT := tb_start hts
  obtain ⟨D, hKc⟩ := cls_start hT
  obtain ⟨cy, hKa⟩ := arr_start hts hT
  obtain ⟨w, hW⟩ := KW_start hts hgv
  obtain ⟨y, hf, hI⟩ := start_inv
  have G : BG cy w (p, l, e, room_1, s, m, #[Value.ref b], below, meth, c, D, s.heap.size, 4, 600000, 7302249, fun _ => lw_Z below #[Value.ref b] s) cL_law "NoonGuidesLaw" 4 none 100 := ⟨hx, hb, hml, rfl, hown, fun b rt qc h => (by cases h), hlocks, hT, ⟨hKc, hKa⟩, hW, ⟨Nat.le_of_ble_eq_true rfl, Nat.le_of_ble_eq_true rfl, Nat.le_of_ble_eq_true rfl⟩, Nat.le_of_ble_eq_true rfl, Nat.le_refl _⟩
  have key := law_body (E' := (fun _ => .inr (0, []), 0)) (b := b) (L := L) (xs := xs) (Z := lw_Z below #[Value.ref b] s) G rfl rfl (fun q1 q2 Qk => (show va_X b L xs s s.heap ∧ b < s.heap.size ∧ ¬ s.heap.size ≤ b from ⟨hX, hbl, Nat.not_le.mpr hbl⟩)) (fun q1 q2 h1 h2 => (show (fun _ => lw_Z below #[Value.ref b] s) = (fun _ => lw_Z below #[Value.ref b] s) ∧ room_1 = room_1 ∧ #[Value.ref b] = #[Value.ref b] ∧ q1 ≤ 600000 ∧ q2 ≤ 7302249 ∧ s.heap.size = s.heap.size ∧ c.code = code ∧ meth.sig.returnType = ret from ⟨rfl, rfl, rfl, h1, h2, rfl, hb, hr⟩)) hL hf hI
  rw [lg_entry_eq]
  exact key s.heap [] _ ⟨fun k q h => by simp [bws, bL] at h, rfl⟩ va_S.rf (lv_entry [.ref b] (Nat.le_of_ble_eq_true rfl))
