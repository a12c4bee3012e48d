theorem t_20 : (Jvm.Cond.classLink "NoonGuidesLaw" (18 : Nat) "NoonGuides") ∈ tb := tw_i 20 (by decide +kernel) (by decide +kernel)
theorem t_21 : (Jvm.Cond.instantiable "NoonGuides" (20 : Nat)) ∈ tb := tw_i 21 (by decide +kernel) (by decide +kernel)
theorem t_22 : (Jvm.Cond.methodLink "NoonGuidesLaw" (107 : Nat) ({ cls := "NoonGuides", name := "<init>", desc := "()V" } : Jvm.MethodName)) ∈ tb := tw_i 22 (by decide +kernel) (by decide +kernel)
theorem t_23 : (Jvm.Cond.instanceMethod ({ cls := "NoonGuides", name := "<init>", desc := "()V" } : Jvm.MethodName)) ∈ tb := tw_i 23 (by decide +kernel) (by decide +kernel)
theorem t_24 : (Jvm.Cond.code ({ cls := "NoonGuides", name := "<init>", desc := "()V" } : Jvm.MethodName) prog_1_method_1_code (2 : Nat) (Option.none : Option Jvm.ClassFile.FieldType)) ∈ tb := tw_i 24 (by decide +kernel) (by decide +kernel)
theorem dL_law_0 : dc cL_law 0 (.new 18) 3 3 := ⟨by decide +kernel, rfl⟩
theorem dL_law_3 : dc cL_law 3 (.dup) 1 4 := ⟨by decide +kernel, rfl⟩
theorem dL_law_4 : dc cL_law 4 (.invokespecial 107) 3 7 := ⟨by decide +kernel, rfl⟩
theorem dL_law_7 : dc cL_law 7 (.astore_n 1) 1 8 := ⟨by decide +kernel, rfl⟩
theorem dL_law_8 : dc cL_law 8 (.bipush 24) 2 10 := ⟨by decide +kernel, rfl⟩
theorem dL_law_10 : dc cL_law 10 (.newarray .int) 2 12 := ⟨by decide +kernel, rfl⟩
theorem dL_law_12 : dc cL_law 12 (.astore_n 2) 1 13 := ⟨by decide +kernel, rfl⟩
theorem dL_law_13 : dc cL_law 13 (.bipush 53) 2 15 := ⟨by decide +kernel, rfl⟩
theorem dL_law_15 : dc cL_law 15 (.newarray .int) 2 17 := ⟨by decide +kernel, rfl⟩
theorem dL_law_17 : dc cL_law 17 (.astore_n 3) 1 18 := ⟨by decide +kernel, rfl⟩
theorem li (k : Nat) {c : Cond} (h : tables_1[k]? = some c) : c ∈ lw_tbl := List.mem_append_right _ (List.mem_of_getElem? h)
theorem sel_priv {args : Array Value} {s : State} {C : String} {x0 y0 y : MethodName} (hy : y.cls ≠ "java/lang/invoke/MethodHandle" ∧ y.cls ≠ "java/lang/invoke/VarHandle") (hsel : (Cond.selects C x0 y0).before args s = true) (h0 : y0.cls = y.cls) (hpriv : (Cond.privateMethod y).before args s = true) (hinst : (Cond.instanceMethod y).before args s = true) : (Cond.selects C y y).before args s = true := by
  obtain ⟨c, r, m, hc, hr, hm, hs, mk0, hk, hni⟩ := Cond.selects_spec hsel
  obtain ⟨mk, methM, hnamed, hmethM, -, -⟩ := Cond.instanceMethod_spec hinst
  have hfound : s.methodFound? y.cls y.name y.desc = some mk := State.methodFound?_of_named hnamed hy
  have hcls : mk.cls = m.cls := Option.some.inj ((findClass_of_methodNamed hnamed).symm.trans (by rw [← h0]; exact findClass_of_methodNamed hm))
  have hsel2 : selectMethod {} s.vm c mk = .method mk := selectMethod_private hmethM (Cond.privateMethod_at hpriv mk methM hnamed hmethM)
  simp only [Cond.before, Cond.holds, Cond.value, hc, hfound, hnamed, hsel2, hcls, hk]
  simp
  exact hni
theorem sel_all {args : Array Value} {s : State} (hts : ∀ w ∈ lw_tbl, w.before args s = true) : ∀ w ∈ selx, w.before args s = true := by
  intro w hw
  simp only [selx, List.mem_cons, List.not_mem_nil, or_false] at hw
  rcases hw with rfl | rfl | rfl | rfl | rfl | rfl | rfl | rfl
  · exact sel_priv (x0 := ⟨"NoonGuides$TextReader", "failOrder", "()Z"⟩) (y0 := ⟨"NoonGuides$TextReader", "failOrder", "()Z"⟩) (by decide) (hts _ (li 1058 (by decide +kernel))) rfl (hts _ (li 1007 (by decide +kernel))) (hts _ (li 1008 (by decide +kernel)))
  · exact sel_priv (x0 := ⟨"NoonGuides$TextReader", "failOrder", "()Z"⟩) (y0 := ⟨"NoonGuides$TextReader", "failOrder", "()Z"⟩) (by decide) (hts _ (li 1058 (by decide +kernel))) rfl (hts _ (li 1011 (by decide +kernel))) (hts _ (li 1012 (by decide +kernel)))
  · exact sel_priv (x0 := ⟨"NoonGuides$TextReader", "failOrder", "()Z"⟩) (y0 := ⟨"NoonGuides$TextReader", "failOrder", "()Z"⟩) (by decide) (hts _ (li 1058 (by decide +kernel))) rfl (hts _ (li 1015 (by decide +kernel))) (hts _ (li 1016 (by decide +kernel)))
  · exact sel_priv (x0 := ⟨"NoonGuides$TextReader", "failOrder", "()Z"⟩) (y0 := ⟨"NoonGuides$TextReader", "failOrder", "()Z"⟩) (by decide) (hts _ (li 1058 (by decide +kernel))) rfl (hts _ (li 1133 (by decide +kernel))) (hts _ (li 1134 (by decide +kernel)))
  · exact sel_priv (x0 := ⟨"NoonGuides$TextReader", "failOrder", "()Z"⟩) (y0 := ⟨"NoonGuides$TextReader", "failOrder", "()Z"⟩) (by decide) (hts _ (li 1057 (by decide +kernel))) rfl (hts _ (li 1007 (by decide +kernel))) (hts _ (li 1008 (by decide +kernel)))
  · exact sel_priv (x0 := ⟨"NoonGuides$TextReader", "failOrder", "()Z"⟩) (y0 := ⟨"NoonGuides$TextReader", "failOrder", "()Z"⟩) (by decide) (hts _ (li 1057 (by decide +kernel))) rfl (hts _ (li 1011 (by decide +kernel))) (hts _ (li 1012 (by decide +kernel)))
  · exact sel_priv (x0 := ⟨"NoonGuides$TextReader", "failOrder", "()Z"⟩) (y0 := ⟨"NoonGuides$TextReader", "failOrder", "()Z"⟩) (by decide) (hts _ (li 1057 (by decide +kernel))) rfl (hts _ (li 1015 (by decide +kernel))) (hts _ (li 1016 (by decide +kernel)))
  · exact sel_priv (x0 := ⟨"NoonGuides$TextReader", "failOrder", "()Z"⟩) (y0 := ⟨"NoonGuides$TextReader", "failOrder", "()Z"⟩) (by decide) (hts _ (li 1057 (by decide +kernel))) rfl (hts _ (li 1133 (by decide +kernel))) (hts _ (li 1134 (by decide +kernel)))
theorem tb_start {args : Array Value} {s : State} (hts : ∀ w ∈ lw_tbl, w.before args s = true) : ∀ w ∈ tb, w.before args s = true := by
  intro w hw
  rcases List.mem_append.mp (List.mem_filter.mp hw).1 with h | h
  · exact sel_all hts w h
  · exact hts w h
theorem cls_start {args : Array Value} {s : State} (hT : ∀ w ∈ tb, w.before args s = true) : ∃ D : va_G, ∀ (c : Nat) (q : vw_C), vwCl[c]? = some q → u_Kn s q.1 q.2.1 q.2.2 (D.1 c) (D.2 c) := by
  have h : ∀ c : Nat, ∃ r : ClassId × (Nat → Nat), ∀ q, vwCl[c]? = some q → u_Kn s q.1 q.2.1 q.2.2 r.1 r.2 := by
    intro c
    match c with
    | 0 =>
      obtain ⟨a, f, h⟩ := u_known (C := RX0) (T := TX0) (N := 14) hT tb_X0 (hT _ t_145)
      exact ⟨(a, f), fun q hq => by cases hq; exact h⟩
    | 1 =>
      obtain ⟨a, f, h⟩ := u_known (C := RX1) (T := TX1) (N := 3) hT tb_X1 (hT _ t_235)
      exact ⟨(a, f), fun q hq => by cases hq; exact h⟩
    | 2 =>
      obtain ⟨a, f, h⟩ := u_known (C := RX2) (T := TX2) (N := 16) hT tb_X2 (hT _ t_254)
      exact ⟨(a, f), fun q hq => by cases hq; exact h⟩
    | 3 =>
      obtain ⟨a, f, h⟩ := u_known (C := RX3) (T := TX3) (N := 14) hT tb_X3 (hT _ t_33)
      exact ⟨(a, f), fun q hq => by cases hq; exact h⟩
    | 4 =>
      obtain ⟨a, f, h⟩ := u_known (C := RX4) (T := TX4) (N := 8) hT tb_X4 (hT _ t_170)
      exact ⟨(a, f), fun q hq => by cases hq; exact h⟩
    | 5 =>
      obtain ⟨a, f, h⟩ := u_known (C := RX5) (T := TX5) (N := 2) hT tb_X5 (hT _ t_221)
      exact ⟨(a, f), fun q hq => by cases hq; exact h⟩
    | 6 =>
      obtain ⟨a, f, h⟩ := u_known (C := RX6) (T := TX6) (N := 6) hT tb_X6 (hT _ t_194)
      exact ⟨(a, f), fun q hq => by cases hq; exact h⟩
    | 7 =>
      obtain ⟨a, f, h⟩ := u_known (C := RX7) (T := TX7) (N := 12) hT tb_X7 (hT _ t_299)
      exact ⟨(a, f), fun q hq => by cases hq; exact h⟩
    | 8 =>
      obtain ⟨a, f, h⟩ := u_known (C := RX8) (T := TX8) (N := 8) hT tb_X8 (hT _ t_264)
      exact ⟨(a, f), fun q hq => by cases hq; exact h⟩
    | 9 =>
      obtain ⟨a, f, h⟩ := u_known (C := RX10) (T := TX10) (N := 3) hT tb_X10 (hT _ t_443)
      exact ⟨(a, f), fun q hq => by cases hq; exact h⟩
    | 10 =>
      obtain ⟨a, f, h⟩ := u_known (C := RX11) (T := TX11) (N := 20) hT tb_X11 (hT _ t_21)
      exact ⟨(a, f), fun q hq => by cases hq; exact h⟩
    | c + 11 => exact ⟨(0, fun _ => 0), fun q hq => by simp [vwCl] at hq⟩
  obtain ⟨f, hf⟩ := Classical.axiomOfChoice h
  exact ⟨(fun c => (f c).1, fun c => (f c).2), fun c q hq => hf c q hq⟩
theorem arr_num {args : Array Value} {s : State} {ty : FieldType} (h : (Cond.arrayClass ty).before args s = true) (hty : ty = .byte ∨ ty = .int ∨ ty = .long ∨ ty = .boolean) : ∃ cA, ArrOfT s cA ty ∧ va_RA s cA ty := by
  obtain ⟨c, k, comp, h1, h2, h3⟩ := Cond.arrayClass_spec h
  refine ⟨c, fun n z => ⟨fun k h => (by cases h), k, h2, comp, h3⟩, ?_⟩
  rcases hty with rfl | rfl | rfl | rfl <;> exact h1
theorem arr_obj {args : Array Value} {s : State} {C : String} (h : (Cond.arrayOver (.object C)).before args s = true) : ∃ cA, ArrOfT s cA (.object C) ∧ va_RA s cA (.object C) := by
  obtain ⟨comp, c, k, h1, h2, h3, h4, h5⟩ := Cond.arrayOver_spec h
  exact ⟨c, fun n z => ⟨fun k h => (by cases h), k, h3, comp, h4⟩, k, comp, h3, h4, h1, h5⟩
theorem arr_start {args : Array Value} {s : State} (hts : ∀ w ∈ lw_tbl, w.before args s = true) (hT : ∀ w ∈ tb, w.before args s = true) : ∃ cy : Nat → ClassId, ∀ (k : Nat) (q : ClassId × FieldType), (ktys cy)[k]? = some q → ArrOfT s q.1 q.2 ∧ va_RA s q.1 q.2 := by
  obtain ⟨c0, h0⟩ := arr_num (hT _ t_141) (Or.inl rfl)
  obtain ⟨c1, h1⟩ := arr_num (hT _ t_142) (Or.inr (Or.inl rfl))
  obtain ⟨c2, h2⟩ := arr_num (hT _ t_143) (Or.inr (Or.inr (Or.inl rfl)))
  obtain ⟨c3, h3⟩ := arr_num (hT _ t_298) (Or.inr (Or.inr (Or.inr rfl)))
  obtain ⟨c4, h4⟩ := arr_obj (C := "NoonGuides$Land") (hts _ (li 31 (by decide +kernel)))
  obtain ⟨c5, h5⟩ := arr_obj (C := "NoonGuides$Person") (hts _ (li 260 (by decide +kernel)))
  obtain ⟨c6, h6⟩ := arr_obj (C := "NoonGuides$Tray") (hts _ (li 29 (by decide +kernel)))
  refine ⟨fun k => match k with | 0 => c0 | 1 => c1 | 2 => c2 | 3 => c3 | 4 => c4 | 5 => c5 | _ => c6, ?_⟩
  intro k q hq
  match k, hq with
  | 0, hq => cases hq; exact h0
  | 1, hq => cases hq; exact h1
  | 2, hq => cases hq; exact h2
  | 3, hq => cases hq; exact h3
  | 4, hq => cases hq; exact h4
  | 5, hq => cases hq; exact h5
  | 6, hq => cases hq; exact h6
  | k + 7, hq => simp [ktys] at hq
theorem el_0 : ∀ j, j < 24 → (flatC (Jvm.Cond.and given_1 narrow_1))[46 + j]? = some (Cond.eq (Term.elem (Term.field (Term.string "NoonGuides$TextReader" 26) "java/lang/String" "value" "[B") (.int (Int32.ofNat (0 + j)))) (.int (kwBytes.getD (0 + j) 0))) := by decide +kernel
theorem el_1 : ∀ j, j < 24 → (flatC (Jvm.Cond.and given_1 narrow_1))[70 + j]? = some (Cond.eq (Term.elem (Term.field (Term.string "NoonGuides$TextReader" 26) "java/lang/String" "value" "[B") (.int (Int32.ofNat (24 + j)))) (.int (kwBytes.getD (24 + j) 0))) := by decide +kernel
theorem el_2 : ∀ j, j < 24 → (flatC (Jvm.Cond.and given_1 narrow_1))[94 + j]? = some (Cond.eq (Term.elem (Term.field (Term.string "NoonGuides$TextReader" 26) "java/lang/String" "value" "[B") (.int (Int32.ofNat (48 + j)))) (.int (kwBytes.getD (48 + j) 0))) := by decide +kernel
theorem el_3 : ∀ j, j < 24 → (flatC (Jvm.Cond.and given_1 narrow_1))[118 + j]? = some (Cond.eq (Term.elem (Term.field (Term.string "NoonGuides$TextReader" 26) "java/lang/String" "value" "[B") (.int (Int32.ofNat (72 + j)))) (.int (kwBytes.getD (72 + j) 0))) := by decide +kernel
theorem el_4 : ∀ j, j < 24 → (flatC (Jvm.Cond.and given_1 narrow_1))[142 + j]? = some (Cond.eq (Term.elem (Term.field (Term.string "NoonGuides$TextReader" 26) "java/lang/String" "value" "[B") (.int (Int32.ofNat (96 + j)))) (.int (kwBytes.getD (96 + j) 0))) := by decide +kernel
theorem el_5 : ∀ j, j < 21 → (flatC (Jvm.Cond.and given_1 narrow_1))[166 + j]? = some (Cond.eq (Term.elem (Term.field (Term.string "NoonGuides$TextReader" 26) "java/lang/String" "value" "[B") (.int (Int32.ofNat (120 + j)))) (.int (kwBytes.getD (120 + j) 0))) := by decide +kernel
theorem el_all : ∀ j, j < 141 → Cond.eq (Term.elem (Term.field (Term.string "NoonGuides$TextReader" 26) "java/lang/String" "value" "[B") (.int (Int32.ofNat (j)))) (.int (kwBytes.getD (j) 0)) ∈ (flatC (Jvm.Cond.and given_1 narrow_1)) := by
  intro j hj
  by_cases h0 : j < 24
  · have e := el_0 (j - 0) (by omega)
    rw [show 0 + (j - 0) = j by omega] at e
    exact List.mem_of_getElem? e
  by_cases h1 : j < 48
  · have e := el_1 (j - 24) (by omega)
    rw [show 24 + (j - 24) = j by omega] at e
    exact List.mem_of_getElem? e
  by_cases h2 : j < 72
  · have e := el_2 (j - 48) (by omega)
    rw [show 48 + (j - 48) = j by omega] at e
    exact List.mem_of_getElem? e
  by_cases h3 : j < 96
  · have e := el_3 (j - 72) (by omega)
    rw [show 72 + (j - 72) = j by omega] at e
    exact List.mem_of_getElem? e
  by_cases h4 : j < 120
  · have e := el_4 (j - 96) (by omega)
    rw [show 96 + (j - 96) = j by omega] at e
    exact List.mem_of_getElem? e
  have e := el_5 (j - 120) (by omega)
  rw [show 120 + (j - 120) = j by omega] at e
  exact List.mem_of_getElem? e
theorem KW_start {args : Array Value} {s : State} (hts : ∀ w ∈ lw_tbl, w.before args s = true) (hgv : (Jvm.Cond.and given_1 narrow_1).before args s = true) : ∃ w : Nat × Nat, KW s.heap.size w s s.heap := by
  have hs := flat_of_before _ hgv
  have hA : ∀ a : Nat, a < s.heap.size → ¬ (fun q : Nat => s.heap.size ≤ q) a := fun a h => Nat.not_le.mpr h
  have f1 : (Cond.exactly (Term.string "NoonGuides$TextReader" 26) "java/lang/String").before args s = true := hs _ (by decide +kernel)
  have f2 : (Cond.eq (Term.field (Term.string "NoonGuides$TextReader" 26) "java/lang/String" "coder" "B") (.int 0)).before args s = true := hs _ (by decide +kernel)
  have f3 : (Cond.arrayOf (Term.field (Term.string "NoonGuides$TextReader" 26) "java/lang/String" "value" "[B") .byte).before args s = true := hs _ (by decide +kernel)
  have f4 : (Cond.eq (Term.length (Term.field (Term.string "NoonGuides$TextReader" 26) "java/lang/String" "value" "[B")) (.int 141)).before args s = true := hs _ (by decide +kernel)
  have f6 : (Cond.eq (Term.static "java/lang/String" "COMPACT_STRINGS" "Z") (.int 1)).before args s = true := hs _ (by decide +kernel)
  have f7 : (Cond.isRef (Term.static "jdk/internal/util/Preconditions" "SIOOBE_FORMATTER" "Ljava/util/function/BiFunction;")).before args s = true := hs _ (by decide +kernel)
  have g1 : ∀ i : Nat, i < 1 → ([141] : List Nat).getD i 0 < 2 ^ 31 := by
    intro i hi
    obtain rfl : i = 0 := by omega
    decide
  have g4 : ∀ i : Nat, i < 1 → (Cond.eq (Term.length (Term.field (Term.string "NoonGuides$TextReader" 26) "java/lang/String" "value" "[B")) (.int (Int32.ofNat (([141] : List Nat).getD i 0)))).before args s = true := by
    intro i hi
    obtain rfl : i = 0 := by omega
    exact f4
  have g5 : ∀ i : Nat, i < 1 → ∀ j : Nat, j < ([141] : List Nat).getD i 0 → (Cond.eq (Term.elem (Term.field (Term.string "NoonGuides$TextReader" 26) "java/lang/String" "value" "[B") (.int (Int32.ofNat j))) (.int (([kwBytes].getD i []).getD j 0))).before args s = true := by
    intro i hi j hj
    obtain rfl : i = 0 := by omega
    exact hs _ (el_all j hj)
  obtain ⟨aK, aV, hS, hev⟩ := vk_Sof (N := 1) (tm := fun _ => (Term.string "NoonGuides$TextReader" 26)) (len := [141]) (byt := [kwBytes]) (A := (fun q : Nat => s.heap.size ≤ q)) (args := args) (s := s) g1 (fun _ _ => f1) (fun _ _ => f2) (fun _ _ => f3) g4 g5 (fun i j hi hj h => absurd (by omega) h) hA
  refine ⟨(aK 0, aV 0), fun c hc => ?_, ⟨va_AO.of (hts _ (li 29 (by decide +kernel))), va_AO.of (hts _ (li 31 (by decide +kernel))), va_AO.of (hts _ (li 260 (by decide +kernel)))⟩, vk_R.of (hts _ (li 41 (by decide +kernel))) (hev 0 (by omega)), ⟨fun i hi => ?_, fun i j hi hj _ => by omega⟩, va_Zof (hts _ (li 51 (by decide +kernel))) (hts _ (li 4 (by decide +kernel))) (va_eqt f6) hA, va_Zqof (hts _ (li 67 (by decide +kernel))) (hts _ (li 6 (by decide +kernel))) f7 hA⟩
  · simp only [nestL, List.mem_cons, List.not_mem_nil, or_false] at hc
    rcases hc with rfl | rfl | rfl | rfl | rfl | rfl | rfl | rfl | rfl | rfl | rfl
    · exact va_Nw.of rfl (hts _ (li 34 (by decide +kernel)))
    · exact va_Nw.of rfl (hts _ (li 146 (by decide +kernel)))
    · exact va_Nw.of rfl (hts _ (li 171 (by decide +kernel)))
    · exact va_Nw.of rfl (hts _ (li 195 (by decide +kernel)))
    · exact va_Nw.of rfl (hts _ (li 222 (by decide +kernel)))
    · exact va_Nw.of rfl (hts _ (li 236 (by decide +kernel)))
    · exact va_Nw.of rfl (hts _ (li 262 (by decide +kernel)))
    · exact va_Nw.of rfl (hts _ (li 265 (by decide +kernel)))
    · exact va_Nw.of rfl (hts _ (li 300 (by decide +kernel)))
    · exact va_Nw.of rfl (hts _ (li 442 (by decide +kernel)))
    · exact va_Nw.of rfl (hts _ (li 444 (by decide +kernel)))
  · obtain rfl : i = 0 := by omega
    exact hS.1 0 hi
def swP : List Nat := [187, 197, 206, 219, 232, 247, 262, 274, 291, 308, 330, 353, 374, 398, 419, 447]
theorem sp_0 : ∀ i, i < 16 → (flatC (Jvm.Cond.and given_1 narrow_1))[swP.getD i 0]? = some (Cond.exactly (Term.string "NoonGuidesLaw" (swI.getD i 0)) "java/lang/String") := by decide +kernel
theorem sp_1 : ∀ i, i < 16 → (flatC (Jvm.Cond.and given_1 narrow_1))[swP.getD i 0 + 1]? = some (Cond.eq (Term.field (Term.string "NoonGuidesLaw" (swI.getD i 0)) "java/lang/String" "coder" "B") (.int 0)) := by decide +kernel
theorem sp_2 : ∀ i, i < 16 → (flatC (Jvm.Cond.and given_1 narrow_1))[swP.getD i 0 + 2]? = some (Cond.arrayOf (Term.field (Term.string "NoonGuidesLaw" (swI.getD i 0)) "java/lang/String" "value" "[B") .byte) := by decide +kernel
theorem sp_3 : ∀ i, i < 16 → (flatC (Jvm.Cond.and given_1 narrow_1))[swP.getD i 0 + 3]? = some (Cond.eq (Term.length (Term.field (Term.string "NoonGuidesLaw" (swI.getD i 0)) "java/lang/String" "value" "[B")) (.int (Int32.ofNat (swL.getD i 0)))) := by decide +kernel
theorem sp_4 : ∀ i, i < 16 → ∀ j, j < swL.getD i 0 → (flatC (Jvm.Cond.and given_1 narrow_1))[swP.getD i 0 + 4 + j]? = some (Cond.eq (Term.elem (Term.field (Term.string "NoonGuidesLaw" (swI.getD i 0)) "java/lang/String" "value" "[B") (.int (Int32.ofNat j))) (.int ((swB.getD i []).getD j 0))) := by decide +kernel
def swN : List (List Nat) := [[0, 205, 217, 229, 243, 257, 268, 284, 300, 321, 343, 363, 386, 406, 433, 457], [0, 0, 218, 230, 244, 258, 269, 285, 301, 322, 344, 364, 387, 407, 434, 458], [0, 0, 0, 231, 245, 259, 270, 286, 302, 323, 345, 365, 388, 408, 435, 459], [0, 0, 0, 0, 246, 260, 271, 287, 303, 324, 346, 366, 389, 409, 436, 460], [0, 0, 0, 0, 0, 261, 272, 288, 304, 325, 347, 367, 390, 410, 437, 461], [0, 0, 0, 0, 0, 0, 273, 289, 305, 326, 348, 368, 391, 411, 438, 462], [0, 0, 0, 0, 0, 0, 0, 290, 306, 327, 349, 369, 392, 412, 439, 463], [0, 0, 0, 0, 0, 0, 0, 0, 307, 328, 350, 370, 393, 413, 440, 464], [0, 0, 0, 0, 0, 0, 0, 0, 0, 329, 351, 371, 394, 414, 441, 465], [0, 0, 0, 0, 0, 0, 0, 0, 0, 0, 352, 372, 395, 415, 442, 466], [0, 0, 0, 0, 0, 0, 0, 0, 0, 0, 0, 373, 396, 416, 443, 467], [0, 0, 0, 0, 0, 0, 0, 0, 0, 0, 0, 0, 397, 417, 444, 468], [0, 0, 0, 0, 0, 0, 0, 0, 0, 0, 0, 0, 0, 418, 445, 469], [0, 0, 0, 0, 0, 0, 0, 0, 0, 0, 0, 0, 0, 0, 446, 470], [0, 0, 0, 0, 0, 0, 0, 0, 0, 0, 0, 0, 0, 0, 0, 471], [0, 0, 0, 0, 0, 0, 0, 0, 0, 0, 0, 0, 0, 0, 0, 0]]
theorem sp_5 : ∀ i, i < 16 → ∀ j, j < 16 → i < j → (flatC (Jvm.Cond.and given_1 narrow_1))[(swN.getD i []).getD j 0]? = some (Cond.not (Cond.eq (Term.string "NoonGuidesLaw" (swI.getD i 0)) (Term.string "NoonGuidesLaw" (swI.getD j 0)))) := by decide +kernel
def swR : List Nat := [936, 962, 963, 964, 965, 966, 967, 968, 972, 973, 974, 975, 976, 977, 978, 979]
theorem sp_6 : ∀ i, i < 16 → tables_1[swR.getD i 0]? = some (Cond.stringRef "NoonGuidesLaw" (swI.getD i 0) (swT.getD i "")) := by decide +kernel
theorem KWS_start {args : Array Value} {s : State} {b L : Nat} {xs : Nat → Int32} (hts : ∀ w ∈ lw_tbl, w.before args s = true) (hgv : (Jvm.Cond.and given_1 narrow_1).before args s = true) (hX : va_X b L xs s s.heap) (hbl : b < s.heap.size) : ∃ aK aV : Nat → Nat, KWS s.heap.size b L xs aK aV s s.heap := by
  have hs := flat_of_before _ hgv
  have hA : ∀ a : Nat, a < s.heap.size → ¬ (fun q : Nat => s.heap.size ≤ q) a := fun a h => Nat.not_le.mpr h
  have f6 : (Cond.eq (Term.static "java/lang/String" "COMPACT_STRINGS" "Z") (.int 1)).before args s = true := hs _ (by decide +kernel)
  have f7 : (Cond.isRef (Term.static "jdk/internal/util/Preconditions" "SIOOBE_FORMATTER" "Ljava/util/function/BiFunction;")).before args s = true := hs _ (by decide +kernel)
  obtain ⟨aK, aV, hS, hev⟩ := vk_Sof (N := 16) (tm := fun i => (Term.string "NoonGuidesLaw" (swI.getD i 0))) (len := swL) (byt := swB) (A := (fun q : Nat => s.heap.size ≤ q)) (args := args) (s := s) (fun i hi => Nat.lt_trans (sw_len i hi) (by decide)) (fun i hi => hs _ (List.mem_of_getElem? (sp_0 i hi))) (fun i hi => hs _ (List.mem_of_getElem? (sp_1 i hi))) (fun i hi => hs _ (List.mem_of_getElem? (sp_2 i hi))) (fun i hi => hs _ (List.mem_of_getElem? (sp_3 i hi))) (fun i hi j hj => hs _ (List.mem_of_getElem? (sp_4 i hi j hj))) (fun i j hi hj h => by
    rcases Nat.lt_or_gt_of_ne h with q | q
    · exact Or.inl (hs _ (List.mem_of_getElem? (sp_5 i hi j hj q)))
    · exact Or.inr (hs _ (List.mem_of_getElem? (sp_5 j hj i hi q)))) hA
  exact ⟨aK, aV, ⟨hX, hbl⟩, fun i hi => vk_R.of (hts _ (li _ (sp_6 i hi))) (hev i hi), hS, va_Zof (hts _ (li 51 (by decide +kernel))) (hts _ (li 4 (by decide +kernel))) (va_eqt f6) hA, va_Zqof (hts _ (li 67 (by decide +kernel))) (hts _ (li 6 (by decide +kernel))) f7 hA⟩
