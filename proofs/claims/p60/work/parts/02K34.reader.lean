/-- the words of a text, as the class makes them of its string -/
def kwGo : List Int32 → Nat → Int64 → (Nat → Int64) → (Nat → Int64)
  | [], _, _, f => f
  | c :: t, n, a, f => if 26 ≤ n then f else if c = 32 then kwGo t (n + 1) 0 (vp_updL f n a) else kwGo t n (a * 32 + c.toInt64 - 97 + 1) f
def kwF : Nat → Int64 := kwGo kwBytes 0 0 (fun _ => 0)
abbrev cX9_init : ByteArray := prog_11_method_1_code
def yX9_init : MethodName := ⟨RX9, "<init>", "()V"⟩
theorem nm_X9_init : (yX9_init).cls ≠ "java/lang/invoke/MethodHandle" ∧ (yX9_init).cls ≠ "java/lang/invoke/VarHandle" ∧ (parseMethodDescriptor (yX9_init).desc).map (fun d => d.parameters.length) = some 0 := ⟨by decide +kernel, by decide +kernel, by decide +kernel⟩
theorem dX9_init_0 : dc cX9_init 0 (.aload_n 0) 1 1 := ⟨by decide +kernel, rfl⟩
theorem dX9_init_1 : dc cX9_init 1 (.invokespecial 3) 3 4 := ⟨by decide +kernel, rfl⟩
theorem dX9_init_4 : dc cX9_init 4 (.aload_n 0) 1 5 := ⟨by decide +kernel, rfl⟩
theorem dX9_init_5 : dc cX9_init 5 (.bipush 26) 2 7 := ⟨by decide +kernel, rfl⟩
theorem dX9_init_7 : dc cX9_init 7 (.newarray .long) 2 9 := ⟨by decide +kernel, rfl⟩
theorem dX9_init_9 : dc cX9_init 9 (.putfield 11) 3 12 := ⟨by decide +kernel, rfl⟩
theorem dX9_init_12 : dc cX9_init 12 (.aload_n 0) 1 13 := ⟨by decide +kernel, rfl⟩
theorem dX9_init_13 : dc cX9_init 13 (.iconst 0) 1 14 := ⟨by decide +kernel, rfl⟩
theorem dX9_init_14 : dc cX9_init 14 (.newarray .byte) 2 16 := ⟨by decide +kernel, rfl⟩
theorem dX9_init_16 : dc cX9_init 16 (.putfield 15) 3 19 := ⟨by decide +kernel, rfl⟩
theorem dX9_init_19 : dc cX9_init 19 (.aload_n 0) 1 20 := ⟨by decide +kernel, rfl⟩
theorem dX9_init_20 : dc cX9_init 20 (.iconst (-1)) 1 21 := ⟨by decide +kernel, rfl⟩
theorem dX9_init_21 : dc cX9_init 21 (.putfield 19) 3 24 := ⟨by decide +kernel, rfl⟩
theorem dX9_init_24 : dc cX9_init 24 (.aload_n 0) 1 25 := ⟨by decide +kernel, rfl⟩
theorem dX9_init_25 : dc cX9_init 25 (.iconst (-1)) 1 26 := ⟨by decide +kernel, rfl⟩
theorem dX9_init_26 : dc cX9_init 26 (.putfield 23) 3 29 := ⟨by decide +kernel, rfl⟩
theorem dX9_init_29 : dc cX9_init 29 (.iconst 0) 1 30 := ⟨by decide +kernel, rfl⟩
theorem dX9_init_30 : dc cX9_init 30 (.istore_n 1) 1 31 := ⟨by decide +kernel, rfl⟩
theorem dX9_init_31 : dc cX9_init 31 (.lconst 0) 1 32 := ⟨by decide +kernel, rfl⟩
theorem dX9_init_32 : dc cX9_init 32 (.lstore_n 2) 1 33 := ⟨by decide +kernel, rfl⟩
theorem dX9_init_33 : dc cX9_init 33 (.iconst 0) 1 34 := ⟨by decide +kernel, rfl⟩
theorem dX9_init_34 : dc cX9_init 34 (.istore 4) 2 36 := ⟨by decide +kernel, rfl⟩
theorem dX9_init_36 : dc cX9_init 36 (.iload 4) 2 38 := ⟨by decide +kernel, rfl⟩
theorem dX9_init_38 : dc cX9_init 38 (.ldc 26) 2 40 := ⟨by decide +kernel, rfl⟩
theorem dX9_init_40 : dc cX9_init 40 (.invokevirtual 28) 3 43 := ⟨by decide +kernel, rfl⟩
theorem dX9_init_43 : dc cX9_init 43 (.if_icmp .ge 62) 3 46 := ⟨by decide +kernel, rfl⟩
theorem dX9_init_46 : dc cX9_init 46 (.iload_n 1) 1 47 := ⟨by decide +kernel, rfl⟩
theorem dX9_init_47 : dc cX9_init 47 (.bipush 26) 2 49 := ⟨by decide +kernel, rfl⟩
theorem dX9_init_49 : dc cX9_init 49 (.if_icmp .ge 56) 3 52 := ⟨by decide +kernel, rfl⟩
theorem dX9_init_52 : dc cX9_init 52 (.ldc 26) 2 54 := ⟨by decide +kernel, rfl⟩
theorem dX9_init_54 : dc cX9_init 54 (.iload 4) 2 56 := ⟨by decide +kernel, rfl⟩
theorem dX9_init_56 : dc cX9_init 56 (.invokevirtual 34) 3 59 := ⟨by decide +kernel, rfl⟩
theorem dX9_init_59 : dc cX9_init 59 (.istore 5) 2 61 := ⟨by decide +kernel, rfl⟩
theorem dX9_init_61 : dc cX9_init 61 (.iload 5) 2 63 := ⟨by decide +kernel, rfl⟩
theorem dX9_init_63 : dc cX9_init 63 (.bipush 32) 2 65 := ⟨by decide +kernel, rfl⟩
theorem dX9_init_65 : dc cX9_init 65 (.if_icmp .ne 18) 3 68 := ⟨by decide +kernel, rfl⟩
theorem dX9_init_68 : dc cX9_init 68 (.aload_n 0) 1 69 := ⟨by decide +kernel, rfl⟩
theorem dX9_init_69 : dc cX9_init 69 (.getfield 11) 3 72 := ⟨by decide +kernel, rfl⟩
theorem dX9_init_72 : dc cX9_init 72 (.iload_n 1) 1 73 := ⟨by decide +kernel, rfl⟩
theorem dX9_init_73 : dc cX9_init 73 (.lload_n 2) 1 74 := ⟨by decide +kernel, rfl⟩
theorem dX9_init_74 : dc cX9_init 74 (.lastore) 1 75 := ⟨by decide +kernel, rfl⟩
theorem dX9_init_75 : dc cX9_init 75 (.iinc 1 1) 3 78 := ⟨by decide +kernel, rfl⟩
theorem dX9_init_78 : dc cX9_init 78 (.lconst 0) 1 79 := ⟨by decide +kernel, rfl⟩
theorem dX9_init_79 : dc cX9_init 79 (.lstore_n 2) 1 80 := ⟨by decide +kernel, rfl⟩
theorem dX9_init_80 : dc cX9_init 80 (.goto 19) 3 83 := ⟨by decide +kernel, rfl⟩
theorem dX9_init_83 : dc cX9_init 83 (.lload_n 2) 1 84 := ⟨by decide +kernel, rfl⟩
theorem dX9_init_84 : dc cX9_init 84 (.ldc2_w 38) 3 87 := ⟨by decide +kernel, rfl⟩
theorem dX9_init_87 : dc cX9_init 87 (.lmul) 1 88 := ⟨by decide +kernel, rfl⟩
theorem dX9_init_88 : dc cX9_init 88 (.iload 5) 2 90 := ⟨by decide +kernel, rfl⟩
theorem dX9_init_90 : dc cX9_init 90 (.i2l) 1 91 := ⟨by decide +kernel, rfl⟩
theorem dX9_init_91 : dc cX9_init 91 (.ladd) 1 92 := ⟨by decide +kernel, rfl⟩
theorem dX9_init_92 : dc cX9_init 92 (.ldc2_w 40) 3 95 := ⟨by decide +kernel, rfl⟩
theorem dX9_init_95 : dc cX9_init 95 (.lsub) 1 96 := ⟨by decide +kernel, rfl⟩
theorem dX9_init_96 : dc cX9_init 96 (.lconst 1) 1 97 := ⟨by decide +kernel, rfl⟩
theorem dX9_init_97 : dc cX9_init 97 (.ladd) 1 98 := ⟨by decide +kernel, rfl⟩
theorem dX9_init_98 : dc cX9_init 98 (.lstore_n 2) 1 99 := ⟨by decide +kernel, rfl⟩
theorem dX9_init_99 : dc cX9_init 99 (.iinc 4 1) 3 102 := ⟨by decide +kernel, rfl⟩
theorem dX9_init_102 : dc cX9_init 102 (.goto (-66)) 3 105 := ⟨by decide +kernel, rfl⟩
theorem dX9_init_105 : dc cX9_init 105 (.return_) 1 106 := ⟨by decide +kernel, rfl⟩
set_option maxRecDepth 100000 in
set_option maxHeartbeats 4000000 in
theorem kwl_L {cy : Nat → ClassId} {w : Nat × Nat} {x : BX} {B : Nat → va_E} {i : Nat} {fs : List Value} {e2 : va_E} (G : BG cy w x cX9_init yX9_init.cls 6 (some (true, none, BQ (BXD x) (BXz x) none)) 5) (hk : BXk x = (2, 26)) (hf : fs[0]? = some (.ref (BXz x + (i + 1)))) : ∀ (t : List Int32) (k n : Nat) (a : Int64) (f : Nat → Int64), kwBytes.drop k = t → k ≤ 141 → n ≤ 26 → BV x (bL B i [.inr (3, fs), .inl (cy 2, 26, .inr (.inl (kwGo t n a f))), e2]) 36 [(4, .int (nI k)), (2, .long a), (1, .int (nI n)), (0, .ref (BXz x + i))] [] (bL B i [.inr (3, fs), .inl (cy 2, 26, .inr (.inl (f))), e2]) 2 26 := by
  intro t
  induction t with
  | nil =>
    intro k n a f hd h1 hn
    have q : 141 ≤ k := by rw [← kw_len]; exact List.drop_eq_nil_iff.mp hd
    refine b_iload G dX9_init_36 0 rfl ?_
    refine b_ldcS G rfl dX9_init_38 ?_
    refine b_callT [] G (cj_length) rfl t_42 t_43 t_44 t_4 t_45 nm_J0_length_8abf5 (Nat.le_of_ble_eq_true rfl) (Nat.le_of_ble_eq_true rfl) rfl rfl (Nat.le_of_ble_eq_true rfl) (by rw [hk]; exact Nat.le_of_ble_eq_true rfl) (by rw [hk]; exact Nat.le_of_ble_eq_true rfl) dX9_init_40 ?_
    show BV x _ 43 _ [.int 141, .int (nI k)] _ _ _
    refine b_icmp_ge 105 G dX9_init_43 rfl (fun _ => ?_) (fun h => absurd (nI_le (a := 141) q (by omega)) h)
    exact b_ret G hk dX9_init_105
  | cons c t ih =>
    intro k n a f hd h1 hn
    have hlt : k < 141 := by
      rcases Nat.lt_or_ge k 141 with q | q
      · exact q
      · rw [List.drop_eq_nil_iff.mpr (by rw [kw_len]; exact q)] at hd; cases hd
    have hdrop : kwBytes.drop (k + 1) = t := by
      have h2 := congrArg List.tail hd
      rwa [List.tail_drop] at h2
    have hc : kwBytes.getD k 0 = c := by
      have h2 := congrArg (fun l => l[0]?) hd
      simp only [List.getElem?_drop, Nat.add_zero, List.getElem?_cons_zero] at h2
      rw [List.getD_eq_getElem?_getD, h2]; rfl
    refine b_iload G dX9_init_36 0 rfl ?_
    refine b_ldcS G rfl dX9_init_38 ?_
    refine b_callT [] G (cj_length) rfl t_42 t_43 t_44 t_4 t_45 nm_J0_length_8abf5 (Nat.le_of_ble_eq_true rfl) (Nat.le_of_ble_eq_true rfl) rfl rfl (Nat.le_of_ble_eq_true rfl) (by rw [hk]; exact Nat.le_of_ble_eq_true rfl) (by rw [hk]; exact Nat.le_of_ble_eq_true rfl) dX9_init_40 ?_
    show BV x _ 43 _ [.int 141, .int (nI k)] _ _ _
    refine b_icmp_ge 105 G dX9_init_43 rfl (fun h => absurd h (nI_ge (b := 141) hlt (by decide))) (fun _ => ?_)
    refine b_iload_n G dX9_init_46 2 rfl ?_
    refine b_bipush 26 G dX9_init_47 (by decide) ?_
    by_cases h26 : 26 ≤ n
    · rw [kwGo, if_pos h26]
      refine b_icmp_ge 105 G dX9_init_49 rfl (fun _ => ?_) (fun h => absurd (nI_le (a := 26) h26 (by omega)) h)
      exact b_ret G hk dX9_init_105
    refine b_icmp_ge 105 G dX9_init_49 rfl (fun h => absurd h (nI_ge (b := 26) (by omega) (by decide))) (fun _ => ?_)
    rw [kwGo, if_neg h26]
    refine b_ldcS G rfl dX9_init_52 ?_
    refine b_iload G dX9_init_54 0 rfl ?_
    refine b_callT [.int (nI k)] G (cj_char hlt) rfl t_52 t_53 t_54 t_4 t_55 nm_J0_charAt_5068e (Nat.le_of_ble_eq_true rfl) (Nat.le_of_ble_eq_true rfl) rfl rfl (Nat.le_of_ble_eq_true rfl) (by rw [hk]; exact Nat.le_of_ble_eq_true rfl) (by rw [hk]; exact Nat.le_of_ble_eq_true rfl) dX9_init_56 ?_
    show BV x _ 59 _ [.int (kwBytes.getD k 0)] _ _ _
    rw [hc]
    refine b_istore [(5, .int c), (4, .int (nI k)), (2, .long a), (1, .int (nI n)), (0, .ref (BXz x + i))] G dX9_init_59 (Nat.le_of_ble_eq_true rfl) rfl ?_
    refine b_iload G dX9_init_61 0 rfl ?_
    refine b_bipush 32 G dX9_init_63 (by decide) ?_
    by_cases hc32 : c = 32
    · rw [if_pos hc32]
      refine b_icmp_ne 83 G dX9_init_65 rfl (fun h => absurd hc32 h) (fun _ => ?_)
      refine b_aload_n G dX9_init_68 4 rfl ?_
      refine l_get (ci := 3) (v := .ref (BXz x + (i + 1))) G rfl 0 (by decide) tb_X3 t_94 (Or.inl rfl) hf dX9_init_69 ?_
      refine b_iload_n G dX9_init_72 3 rfl ?_
      refine b_lload_n G dX9_init_73 2 rfl ?_
      refine l_last (k := 1) (f := f) (N := 26) G rfl (vp_in_nI (by omega) (by decide)) dX9_init_74 ?_
      rw [nI_clamp (show n < 2 ^ 31 by omega)]
      show BV x _ 75 _ [] (bL B i [.inr (3, fs), .inl (cy 2, 26, .inr (.inl (vp_updL f n a))), e2]) _ _
      refine b_iinc (nI (n + 1)) [(1, .int (nI (n + 1))), (5, .int c), (4, .int (nI k)), (2, .long a), (0, .ref (BXz x + i))] G dX9_init_75 3 rfl (nI_succ n).symm (Nat.le_of_ble_eq_true rfl) rfl ?_
      refine b_lconst 0 G dX9_init_78 (by decide) ?_
      refine b_lstore_n [(2, .long 0), (1, .int (nI (n + 1))), (5, .int c), (4, .int (nI k)), (0, .ref (BXz x + i))] G dX9_init_79 (Nat.le_of_ble_eq_true rfl) rfl ?_
      refine b_goto 99 G dX9_init_80 rfl ?_
      refine b_iinc (nI (k + 1)) [(4, .int (nI (k + 1))), (2, .long 0), (1, .int (nI (n + 1))), (5, .int c), (0, .ref (BXz x + i))] G dX9_init_99 3 rfl (nI_succ k).symm (Nat.le_of_ble_eq_true rfl) rfl ?_
      refine b_goto 36 G dX9_init_102 rfl ?_
      refine b_sub [(4, .int (nI (k + 1))), (2, .long 0), (1, .int (nI (n + 1))), (0, .ref (BXz x + i))] [0, 1, 2, 4] rfl ?_
      exact ih (k + 1) (n + 1) 0 _ hdrop (by omega) (by omega)
    · rw [if_neg hc32]
      refine b_icmp_ne 83 G dX9_init_65 rfl (fun _ => ?_) (fun h => absurd h hc32)
      refine b_lload_n G dX9_init_83 2 rfl ?_
      refine b_ldc2 G dX9_init_84 t_90 ?_
      refine b_lmul G dX9_init_87 ?_
      refine b_iload G dX9_init_88 0 rfl ?_
      refine b_i2l G dX9_init_90 ?_
      refine b_ladd G dX9_init_91 ?_
      refine b_ldc2 G dX9_init_92 t_91 ?_
      refine b_lsub G dX9_init_95 ?_
      refine b_lconst 1 G dX9_init_96 (by decide) ?_
      refine b_ladd G dX9_init_97 ?_
      refine b_lstore_n [(2, .long (a * 32 + c.toInt64 - 97 + 1)), (5, .int c), (4, .int (nI k)), (1, .int (nI n)), (0, .ref (BXz x + i))] G dX9_init_98 (Nat.le_of_ble_eq_true rfl) rfl ?_
      refine b_iinc (nI (k + 1)) [(4, .int (nI (k + 1))), (2, .long (a * 32 + c.toInt64 - 97 + 1)), (5, .int c), (1, .int (nI n)), (0, .ref (BXz x + i))] G dX9_init_99 2 rfl (nI_succ k).symm (Nat.le_of_ble_eq_true rfl) rfl ?_
      refine b_goto 36 G dX9_init_102 rfl ?_
      refine b_sub [(4, .int (nI (k + 1))), (2, .long (a * 32 + c.toInt64 - 97 + 1)), (1, .int (nI n)), (0, .ref (BXz x + i))] [0, 1, 3, 4] rfl ?_
      exact ih (k + 1) n _ f hdrop (by omega) hn
def L_9_L (cy : Nat → ClassId) (z i : Nat) : List va_E := .inr (3, [.ref (z + (i + 1)), .ref (z + (i + 2)), .int 0, .int 0, .int 0, .int (-1), .int 0, .int (-1), .int 0, .long 0, .int 0, .int 0, .int 0, .int 0]) :: .inl (cy 2, 26, .inr (.inl kwF)) :: .inl (cy 0, 0, .inl (fun _ => 0)) :: []
set_option maxRecDepth 100000 in
set_option maxHeartbeats 4000000 in
theorem cb_X9_L {l : Launch} {cy : Nat → ClassId} {w : Nat × Nat} {D : va_G} {z : Nat} (B : Nat → va_E) (i : Nat) : BC l cy w D z yX9_init cX9_init 6 none none 5 2 26 [.ref (z + i)] (bL B i [.inr (3, [.null, .null, .int 0, .int 0, .int 0, .int 0, .int 0, .int 0, .int 0, .long 0, .int 0, .int 0, .int 0, .int 0])]) (bL B i (L_9_L cy z i)) := by
  refine bv_enter true (by decide +kernel) (fun _ => rfl) (Nat.le_of_ble_eq_true rfl) ?_
  intro x hl hD hz hk G
  subst hl hD hz
  refine b_aload_n G dX9_init_0 0 rfl ?_
  refine b_obj G (Nat.le_of_ble_eq_true rfl) t_40 t_26 t_27 (Nat.le_of_ble_eq_true rfl) dX9_init_1 ?_
  refine b_aload_n G dX9_init_4 0 rfl ?_
  refine b_bipush (26) G dX9_init_5 (by decide) ?_
  refine l_newa (nn := 1) (t0 := 2) (at0 := .long) (N := 26) (a0 := (26, .inr (.inl (fun _ => 0)))) G t_143 rfl (fun _ => rfl) (by decide) (by decide) (Nat.le_of_ble_eq_true rfl) (by rw [hk]; exact (Nat.le_of_ble_eq_true rfl)) (by rw [hk]; exact (Nat.le_of_ble_eq_true rfl)) (by simp only [List.length_cons, List.length_append, List.length_nil, Nat.reduceAdd, Nat.zero_add]) dX9_init_7 ?_
  try simp only [List.append_assoc, List.cons_append, List.nil_append, List.append_nil, List.set_cons_succ, List.set_cons_zero]
  refine l_put (ci := 3) G rfl 0 (by decide) tb_X3 tyX3_ok nmX3 t_94 (Or.inl rfl) (Or.inr rfl) rfl rfl (Nat.le_of_ble_eq_true rfl) dX9_init_9 ?_
  try simp only [List.append_assoc, List.cons_append, List.nil_append, List.append_nil, List.set_cons_succ, List.set_cons_zero]
  refine b_aload_n G dX9_init_12 0 rfl ?_
  refine b_iconst (0) G dX9_init_13 (by decide) ?_
  refine l_newa (nn := 2) (t0 := 0) (at0 := .byte) (N := 0) (a0 := (0, .inl (fun _ => 0))) G t_141 rfl (fun _ => rfl) (by decide) (by decide) (Nat.le_of_ble_eq_true rfl) (by rw [hk]; exact (Nat.le_of_ble_eq_true rfl)) (by rw [hk]; exact (Nat.le_of_ble_eq_true rfl)) (by simp only [List.length_cons, List.length_append, List.length_nil, Nat.reduceAdd, Nat.zero_add]) dX9_init_14 ?_
  try simp only [List.append_assoc, List.cons_append, List.nil_append, List.append_nil, List.set_cons_succ, List.set_cons_zero]
  refine l_put (ci := 3) G rfl 1 (by decide) tb_X3 tyX3_ok nmX3 t_95 (Or.inl rfl) (Or.inl rfl) rfl rfl (Nat.le_of_ble_eq_true rfl) dX9_init_16 ?_
  try simp only [List.append_assoc, List.cons_append, List.nil_append, List.append_nil, List.set_cons_succ, List.set_cons_zero]
  refine b_aload_n G dX9_init_19 0 rfl ?_
  refine b_iconst (-1) G dX9_init_20 (by decide) ?_
  refine l_put (ci := 3) G rfl 5 (by decide) tb_X3 tyX3_ok nmX3 t_100 (Or.inl rfl) (Or.inl rfl) rfl rfl (Nat.le_of_ble_eq_true rfl) dX9_init_21 ?_
  try simp only [List.append_assoc, List.cons_append, List.nil_append, List.append_nil, List.set_cons_succ, List.set_cons_zero]
  refine b_aload_n G dX9_init_24 0 rfl ?_
  refine b_iconst (-1) G dX9_init_25 (by decide) ?_
  refine l_put (ci := 3) G rfl 7 (by decide) tb_X3 tyX3_ok nmX3 t_103 (Or.inl rfl) (Or.inl rfl) rfl rfl (Nat.le_of_ble_eq_true rfl) dX9_init_26 ?_
  try simp only [List.append_assoc, List.cons_append, List.nil_append, List.append_nil, List.set_cons_succ, List.set_cons_zero]
  refine b_iconst 0 G dX9_init_29 (by decide) ?_
  refine b_istore_n [(1, .int 0), (0, .ref (BXz x + i))] G dX9_init_30 (Nat.le_of_ble_eq_true rfl) rfl ?_
  refine b_lconst 0 G dX9_init_31 (by decide) ?_
  refine b_lstore_n [(2, .long 0), (1, .int 0), (0, .ref (BXz x + i))] G dX9_init_32 (Nat.le_of_ble_eq_true rfl) rfl ?_
  refine b_iconst 0 G dX9_init_33 (by decide) ?_
  refine b_istore [(4, .int 0), (2, .long 0), (1, .int 0), (0, .ref (BXz x + i))] G dX9_init_34 (Nat.le_of_ble_eq_true rfl) rfl ?_
  exact kwl_L G hk rfl kwBytes 0 0 0 (fun _ => 0) rfl (Nat.zero_le _) (Nat.zero_le _)
set_option maxRecDepth 100000 in
set_option maxHeartbeats 4000000 in
theorem kwl_D {cy : Nat → ClassId} {w : Nat × Nat} {x : BX} {B : Nat → va_E} {i : Nat} {fs : List Value} {e2 : va_E} (G : BG cy w x cX9_init yX9_init.cls 6 (some (true, none, BQ (BXD x) (BXz x) none)) 5) (hk : BXk x = (2, 26)) (hf : fs[0]? = some (.ref (BXz x + (i + 1)))) : ∀ (t : List Int32) (k n : Nat) (a : Int64) (f : Nat → Int64), kwBytes.drop k = t → k ≤ 141 → n ≤ 26 → BV x (bL B i [.inr (0, fs), .inl (cy 2, 26, .inr (.inl (kwGo t n a f))), e2]) 36 [(4, .int (nI k)), (2, .long a), (1, .int (nI n)), (0, .ref (BXz x + i))] [] (bL B i [.inr (0, fs), .inl (cy 2, 26, .inr (.inl (f))), e2]) 2 26 := by
  intro t
  induction t with
  | nil =>
    intro k n a f hd h1 hn
    have q : 141 ≤ k := by rw [← kw_len]; exact List.drop_eq_nil_iff.mp hd
    refine b_iload G dX9_init_36 0 rfl ?_
    refine b_ldcS G rfl dX9_init_38 ?_
    refine b_callT [] G (cj_length) rfl t_42 t_43 t_44 t_4 t_45 nm_J0_length_8abf5 (Nat.le_of_ble_eq_true rfl) (Nat.le_of_ble_eq_true rfl) rfl rfl (Nat.le_of_ble_eq_true rfl) (by rw [hk]; exact Nat.le_of_ble_eq_true rfl) (by rw [hk]; exact Nat.le_of_ble_eq_true rfl) dX9_init_40 ?_
    show BV x _ 43 _ [.int 141, .int (nI k)] _ _ _
    refine b_icmp_ge 105 G dX9_init_43 rfl (fun _ => ?_) (fun h => absurd (nI_le (a := 141) q (by omega)) h)
    exact b_ret G hk dX9_init_105
  | cons c t ih =>
    intro k n a f hd h1 hn
    have hlt : k < 141 := by
      rcases Nat.lt_or_ge k 141 with q | q
      · exact q
      · rw [List.drop_eq_nil_iff.mpr (by rw [kw_len]; exact q)] at hd; cases hd
    have hdrop : kwBytes.drop (k + 1) = t := by
      have h2 := congrArg List.tail hd
      rwa [List.tail_drop] at h2
    have hc : kwBytes.getD k 0 = c := by
      have h2 := congrArg (fun l => l[0]?) hd
      simp only [List.getElem?_drop, Nat.add_zero, List.getElem?_cons_zero] at h2
      rw [List.getD_eq_getElem?_getD, h2]; rfl
    refine b_iload G dX9_init_36 0 rfl ?_
    refine b_ldcS G rfl dX9_init_38 ?_
    refine b_callT [] G (cj_length) rfl t_42 t_43 t_44 t_4 t_45 nm_J0_length_8abf5 (Nat.le_of_ble_eq_true rfl) (Nat.le_of_ble_eq_true rfl) rfl rfl (Nat.le_of_ble_eq_true rfl) (by rw [hk]; exact Nat.le_of_ble_eq_true rfl) (by rw [hk]; exact Nat.le_of_ble_eq_true rfl) dX9_init_40 ?_
    show BV x _ 43 _ [.int 141, .int (nI k)] _ _ _
    refine b_icmp_ge 105 G dX9_init_43 rfl (fun h => absurd h (nI_ge (b := 141) hlt (by decide))) (fun _ => ?_)
    refine b_iload_n G dX9_init_46 2 rfl ?_
    refine b_bipush 26 G dX9_init_47 (by decide) ?_
    by_cases h26 : 26 ≤ n
    · rw [kwGo, if_pos h26]
      refine b_icmp_ge 105 G dX9_init_49 rfl (fun _ => ?_) (fun h => absurd (nI_le (a := 26) h26 (by omega)) h)
      exact b_ret G hk dX9_init_105
    refine b_icmp_ge 105 G dX9_init_49 rfl (fun h => absurd h (nI_ge (b := 26) (by omega) (by decide))) (fun _ => ?_)
    rw [kwGo, if_neg h26]
    refine b_ldcS G rfl dX9_init_52 ?_
    refine b_iload G dX9_init_54 0 rfl ?_
    refine b_callT [.int (nI k)] G (cj_char hlt) rfl t_52 t_53 t_54 t_4 t_55 nm_J0_charAt_5068e (Nat.le_of_ble_eq_true rfl) (Nat.le_of_ble_eq_true rfl) rfl rfl (Nat.le_of_ble_eq_true rfl) (by rw [hk]; exact Nat.le_of_ble_eq_true rfl) (by rw [hk]; exact Nat.le_of_ble_eq_true rfl) dX9_init_56 ?_
    show BV x _ 59 _ [.int (kwBytes.getD k 0)] _ _ _
    rw [hc]
    refine b_istore [(5, .int c), (4, .int (nI k)), (2, .long a), (1, .int (nI n)), (0, .ref (BXz x + i))] G dX9_init_59 (Nat.le_of_ble_eq_true rfl) rfl ?_
    refine b_iload G dX9_init_61 0 rfl ?_
    refine b_bipush 32 G dX9_init_63 (by decide) ?_
    by_cases hc32 : c = 32
    · rw [if_pos hc32]
      refine b_icmp_ne 83 G dX9_init_65 rfl (fun h => absurd hc32 h) (fun _ => ?_)
      refine b_aload_n G dX9_init_68 4 rfl ?_
      refine l_get (ci := 0) (v := .ref (BXz x + (i + 1))) G rfl 0 (by decide) tb_X0 t_94 (Or.inl rfl) hf dX9_init_69 ?_
      refine b_iload_n G dX9_init_72 3 rfl ?_
      refine b_lload_n G dX9_init_73 2 rfl ?_
      refine l_last (k := 1) (f := f) (N := 26) G rfl (vp_in_nI (by omega) (by decide)) dX9_init_74 ?_
      rw [nI_clamp (show n < 2 ^ 31 by omega)]
      show BV x _ 75 _ [] (bL B i [.inr (0, fs), .inl (cy 2, 26, .inr (.inl (vp_updL f n a))), e2]) _ _
      refine b_iinc (nI (n + 1)) [(1, .int (nI (n + 1))), (5, .int c), (4, .int (nI k)), (2, .long a), (0, .ref (BXz x + i))] G dX9_init_75 3 rfl (nI_succ n).symm (Nat.le_of_ble_eq_true rfl) rfl ?_
      refine b_lconst 0 G dX9_init_78 (by decide) ?_
      refine b_lstore_n [(2, .long 0), (1, .int (nI (n + 1))), (5, .int c), (4, .int (nI k)), (0, .ref (BXz x + i))] G dX9_init_79 (Nat.le_of_ble_eq_true rfl) rfl ?_
      refine b_goto 99 G dX9_init_80 rfl ?_
      refine b_iinc (nI (k + 1)) [(4, .int (nI (k + 1))), (2, .long 0), (1, .int (nI (n + 1))), (5, .int c), (0, .ref (BXz x + i))] G dX9_init_99 3 rfl (nI_succ k).symm (Nat.le_of_ble_eq_true rfl) rfl ?_
      refine b_goto 36 G dX9_init_102 rfl ?_
      refine b_sub [(4, .int (nI (k + 1))), (2, .long 0), (1, .int (nI (n + 1))), (0, .ref (BXz x + i))] [0, 1, 2, 4] rfl ?_
      exact ih (k + 1) (n + 1) 0 _ hdrop (by omega) (by omega)
    · rw [if_neg hc32]
      refine b_icmp_ne 83 G dX9_init_65 rfl (fun _ => ?_) (fun h => absurd h hc32)
      refine b_lload_n G dX9_init_83 2 rfl ?_
      refine b_ldc2 G dX9_init_84 t_90 ?_
      refine b_lmul G dX9_init_87 ?_
      refine b_iload G dX9_init_88 0 rfl ?_
      refine b_i2l G dX9_init_90 ?_
      refine b_ladd G dX9_init_91 ?_
      refine b_ldc2 G dX9_init_92 t_91 ?_
      refine b_lsub G dX9_init_95 ?_
      refine b_lconst 1 G dX9_init_96 (by decide) ?_
      refine b_ladd G dX9_init_97 ?_
      refine b_lstore_n [(2, .long (a * 32 + c.toInt64 - 97 + 1)), (5, .int c), (4, .int (nI k)), (1, .int (nI n)), (0, .ref (BXz x + i))] G dX9_init_98 (Nat.le_of_ble_eq_true rfl) rfl ?_
      refine b_iinc (nI (k + 1)) [(4, .int (nI (k + 1))), (2, .long (a * 32 + c.toInt64 - 97 + 1)), (5, .int c), (1, .int (nI n)), (0, .ref (BXz x + i))] G dX9_init_99 2 rfl (nI_succ k).symm (Nat.le_of_ble_eq_true rfl) rfl ?_
      refine b_goto 36 G dX9_init_102 rfl ?_
      refine b_sub [(4, .int (nI (k + 1))), (2, .long (a * 32 + c.toInt64 - 97 + 1)), (1, .int (nI n)), (0, .ref (BXz x + i))] [0, 1, 3, 4] rfl ?_
      exact ih (k + 1) n _ f hdrop (by omega) hn
def L_9_D (cy : Nat → ClassId) (z i : Nat) : List va_E := .inr (0, [.ref (z + (i + 1)), .ref (z + (i + 2)), .int 0, .int 0, .int 0, .int (-1), .int 0, .int (-1), .int 0, .long 0, .int 0, .int 0, .null, .int 0]) :: .inl (cy 2, 26, .inr (.inl kwF)) :: .inl (cy 0, 0, .inl (fun _ => 0)) :: []
set_option maxRecDepth 100000 in
set_option maxHeartbeats 4000000 in
theorem cb_X9_D {l : Launch} {cy : Nat → ClassId} {w : Nat × Nat} {D : va_G} {z : Nat} (B : Nat → va_E) (i : Nat) : BC l cy w D z yX9_init cX9_init 6 none none 5 2 26 [.ref (z + i)] (bL B i [.inr (0, [.null, .null, .int 0, .int 0, .int 0, .int 0, .int 0, .int 0, .int 0, .long 0, .int 0, .int 0, .null, .int 0])]) (bL B i (L_9_D cy z i)) := by
  refine bv_enter true (by decide +kernel) (fun _ => rfl) (Nat.le_of_ble_eq_true rfl) ?_
  intro x hl hD hz hk G
  subst hl hD hz
  refine b_aload_n G dX9_init_0 0 rfl ?_
  refine b_obj G (Nat.le_of_ble_eq_true rfl) t_40 t_26 t_27 (Nat.le_of_ble_eq_true rfl) dX9_init_1 ?_
  refine b_aload_n G dX9_init_4 0 rfl ?_
  refine b_bipush (26) G dX9_init_5 (by decide) ?_
  refine l_newa (nn := 1) (t0 := 2) (at0 := .long) (N := 26) (a0 := (26, .inr (.inl (fun _ => 0)))) G t_143 rfl (fun _ => rfl) (by decide) (by decide) (Nat.le_of_ble_eq_true rfl) (by rw [hk]; exact (Nat.le_of_ble_eq_true rfl)) (by rw [hk]; exact (Nat.le_of_ble_eq_true rfl)) (by simp only [List.length_cons, List.length_append, List.length_nil, Nat.reduceAdd, Nat.zero_add]) dX9_init_7 ?_
  try simp only [List.append_assoc, List.cons_append, List.nil_append, List.append_nil, List.set_cons_succ, List.set_cons_zero]
  refine l_put (ci := 0) G rfl 0 (by decide) tb_X0 tyX0_ok nmX0 t_94 (Or.inl rfl) (Or.inr rfl) rfl rfl (Nat.le_of_ble_eq_true rfl) dX9_init_9 ?_
  try simp only [List.append_assoc, List.cons_append, List.nil_append, List.append_nil, List.set_cons_succ, List.set_cons_zero]
  refine b_aload_n G dX9_init_12 0 rfl ?_
  refine b_iconst (0) G dX9_init_13 (by decide) ?_
  refine l_newa (nn := 2) (t0 := 0) (at0 := .byte) (N := 0) (a0 := (0, .inl (fun _ => 0))) G t_141 rfl (fun _ => rfl) (by decide) (by decide) (Nat.le_of_ble_eq_true rfl) (by rw [hk]; exact (Nat.le_of_ble_eq_true rfl)) (by rw [hk]; exact (Nat.le_of_ble_eq_true rfl)) (by simp only [List.length_cons, List.length_append, List.length_nil, Nat.reduceAdd, Nat.zero_add]) dX9_init_14 ?_
  try simp only [List.append_assoc, List.cons_append, List.nil_append, List.append_nil, List.set_cons_succ, List.set_cons_zero]
  refine l_put (ci := 0) G rfl 1 (by decide) tb_X0 tyX0_ok nmX0 t_95 (Or.inl rfl) (Or.inl rfl) rfl rfl (Nat.le_of_ble_eq_true rfl) dX9_init_16 ?_
  try simp only [List.append_assoc, List.cons_append, List.nil_append, List.append_nil, List.set_cons_succ, List.set_cons_zero]
  refine b_aload_n G dX9_init_19 0 rfl ?_
  refine b_iconst (-1) G dX9_init_20 (by decide) ?_
  refine l_put (ci := 0) G rfl 5 (by decide) tb_X0 tyX0_ok nmX0 t_100 (Or.inl rfl) (Or.inl rfl) rfl rfl (Nat.le_of_ble_eq_true rfl) dX9_init_21 ?_
  try simp only [List.append_assoc, List.cons_append, List.nil_append, List.append_nil, List.set_cons_succ, List.set_cons_zero]
  refine b_aload_n G dX9_init_24 0 rfl ?_
  refine b_iconst (-1) G dX9_init_25 (by decide) ?_
  refine l_put (ci := 0) G rfl 7 (by decide) tb_X0 tyX0_ok nmX0 t_103 (Or.inl rfl) (Or.inl rfl) rfl rfl (Nat.le_of_ble_eq_true rfl) dX9_init_26 ?_
  try simp only [List.append_assoc, List.cons_append, List.nil_append, List.append_nil, List.set_cons_succ, List.set_cons_zero]
  refine b_iconst 0 G dX9_init_29 (by decide) ?_
  refine b_istore_n [(1, .int 0), (0, .ref (BXz x + i))] G dX9_init_30 (Nat.le_of_ble_eq_true rfl) rfl ?_
  refine b_lconst 0 G dX9_init_31 (by decide) ?_
  refine b_lstore_n [(2, .long 0), (1, .int 0), (0, .ref (BXz x + i))] G dX9_init_32 (Nat.le_of_ble_eq_true rfl) rfl ?_
  refine b_iconst 0 G dX9_init_33 (by decide) ?_
  refine b_istore [(4, .int 0), (2, .long 0), (1, .int 0), (0, .ref (BXz x + i))] G dX9_init_34 (Nat.le_of_ble_eq_true rfl) rfl ?_
  exact kwl_D G hk rfl kwBytes 0 0 0 (fun _ => 0) rfl (Nat.zero_le _) (Nat.zero_le _)
abbrev cX3_init : ByteArray := prog_5_method_1_code
def yX3_init : MethodName := ⟨RX3, "<init>", "()V"⟩
theorem nm_X3_init : (yX3_init).cls ≠ "java/lang/invoke/MethodHandle" ∧ (yX3_init).cls ≠ "java/lang/invoke/VarHandle" ∧ (parseMethodDescriptor (yX3_init).desc).map (fun d => d.parameters.length) = some 0 := ⟨by decide +kernel, by decide +kernel, by decide +kernel⟩
theorem dX3_init_0 : dc cX3_init 0 (.aload_n 0) 1 1 := ⟨by decide +kernel, rfl⟩
theorem dX3_init_1 : dc cX3_init 1 (.invokespecial 3) 3 4 := ⟨by decide +kernel, rfl⟩
theorem dX3_init_4 : dc cX3_init 4 (.return_) 1 5 := ⟨by decide +kernel, rfl⟩
def L_3 (cy : Nat → ClassId) (z i : Nat) : List va_E := .inr (3, [.ref (z + (i + 1)), .ref (z + (i + 2)), .int 0, .int 0, .int 0, .int (-1), .int 0, .int (-1), .int 0, .long 0, .int 0, .int 0, .int 0, .int 0]) :: .inl (cy 2, 26, .inr (.inl kwF)) :: .inl (cy 0, 0, .inl (fun _ => 0)) :: []
theorem ln_L_3 {cy : Nat → ClassId} {z i : Nat} : (L_3 cy z i).length = 3 := rfl
set_option maxRecDepth 100000 in
set_option maxHeartbeats 4000000 in
theorem cb_X3 {l : Launch} {cy : Nat → ClassId} {w : Nat × Nat} {D : va_G} {z : Nat} (B : Nat → va_E) (i : Nat) : BC l cy w D z yX3_init cX3_init 1 none none 6 2 26 [.ref (z + i)] (bL B i [.inr (3, [.null, .null, .int 0, .int 0, .int 0, .int 0, .int 0, .int 0, .int 0, .long 0, .int 0, .int 0, .int 0, .int 0])]) (bL B i (L_3 cy z i)) := by
  refine bv_enter true (by decide +kernel) (fun _ => rfl) (Nat.le_of_ble_eq_true rfl) ?_
  intro x hl hD hz hk G
  subst hl hD hz
  refine b_aload_n G dX3_init_0 0 rfl ?_
  refine l_sup (LX := L_9_L cy (BXz x)) G (fun B j => cb_X9_L B j) t_37 t_38 t_2 t_39 rfl nm_X9_init (Nat.le_of_ble_eq_true rfl) (Nat.le_of_ble_eq_true rfl) (by rw [hk]; exact (Nat.le_of_ble_eq_true rfl)) (by rw [hk]; exact (Nat.le_of_ble_eq_true rfl)) (Nat.le_of_ble_eq_true rfl) dX3_init_1 ?_
  try simp only [L_9_L, List.append_assoc, List.cons_append, List.nil_append, List.append_nil, List.set_cons_succ, List.set_cons_zero]
  exact b_ret G hk dX3_init_4
abbrev cX0_init : ByteArray := prog_2_method_1_code
def yX0_init : MethodName := ⟨RX0, "<init>", "()V"⟩
theorem nm_X0_init : (yX0_init).cls ≠ "java/lang/invoke/MethodHandle" ∧ (yX0_init).cls ≠ "java/lang/invoke/VarHandle" ∧ (parseMethodDescriptor (yX0_init).desc).map (fun d => d.parameters.length) = some 0 := ⟨by decide +kernel, by decide +kernel, by decide +kernel⟩
theorem dX0_init_0 : dc cX0_init 0 (.aload_n 0) 1 1 := ⟨by decide +kernel, rfl⟩
theorem dX0_init_1 : dc cX0_init 1 (.invokespecial 3) 3 4 := ⟨by decide +kernel, rfl⟩
theorem dX0_init_4 : dc cX0_init 4 (.aload_n 0) 1 5 := ⟨by decide +kernel, rfl⟩
theorem dX0_init_5 : dc cX0_init 5 (.iconst 3) 1 6 := ⟨by decide +kernel, rfl⟩
theorem dX0_init_6 : dc cX0_init 6 (.newarray .int) 2 8 := ⟨by decide +kernel, rfl⟩
theorem dX0_init_8 : dc cX0_init 8 (.putfield 11) 3 11 := ⟨by decide +kernel, rfl⟩
theorem dX0_init_11 : dc cX0_init 11 (.return_) 1 12 := ⟨by decide +kernel, rfl⟩
def L_0 (cy : Nat → ClassId) (z i : Nat) : List va_E := .inr (0, [.ref (z + (i + 1)), .ref (z + (i + 2)), .int 0, .int 0, .int 0, .int (-1), .int 0, .int (-1), .int 0, .long 0, .int 0, .int 0, .ref (z + (i + 3)), .int 0]) :: .inl (cy 2, 26, .inr (.inl kwF)) :: .inl (cy 0, 0, .inl (fun _ => 0)) :: .inl (cy 1, 3, .inl (fun _ => 0)) :: []
theorem ln_L_0 {cy : Nat → ClassId} {z i : Nat} : (L_0 cy z i).length = 4 := rfl
set_option maxRecDepth 100000 in
set_option maxHeartbeats 4000000 in
theorem cb_X0 {l : Launch} {cy : Nat → ClassId} {w : Nat × Nat} {D : va_G} {z : Nat} (B : Nat → va_E) (i : Nat) : BC l cy w D z yX0_init cX0_init 1 none none 6 3 29 [.ref (z + i)] (bL B i [.inr (0, [.null, .null, .int 0, .int 0, .int 0, .int 0, .int 0, .int 0, .int 0, .long 0, .int 0, .int 0, .null, .int 0])]) (bL B i (L_0 cy z i)) := by
  refine bv_enter true (by decide +kernel) (fun _ => rfl) (Nat.le_of_ble_eq_true rfl) ?_
  intro x hl hD hz hk G
  subst hl hD hz
  refine b_aload_n G dX0_init_0 0 rfl ?_
  refine l_sup (LX := L_9_D cy (BXz x)) G (fun B j => cb_X9_D B j) t_149 t_38 t_2 t_39 rfl nm_X9_init (Nat.le_of_ble_eq_true rfl) (Nat.le_of_ble_eq_true rfl) (by rw [hk]; exact (Nat.le_of_ble_eq_true rfl)) (by rw [hk]; exact (Nat.le_of_ble_eq_true rfl)) (Nat.le_of_ble_eq_true rfl) dX0_init_1 ?_
  try simp only [L_9_D, List.append_assoc, List.cons_append, List.nil_append, List.append_nil, List.set_cons_succ, List.set_cons_zero]
  refine b_aload_n G dX0_init_4 0 rfl ?_
  refine b_iconst (3) G dX0_init_5 (by decide) ?_
  refine l_newa (nn := 3) (t0 := 1) (at0 := .int) (N := 3) (a0 := (3, .inl (fun _ => 0))) G t_142 rfl (fun _ => rfl) (by decide) (by decide) (Nat.le_of_ble_eq_true rfl) (by rw [hk]; exact (Nat.le_of_ble_eq_true rfl)) (by rw [hk]; exact (Nat.le_of_ble_eq_true rfl)) (by simp only [List.length_cons, List.length_append, List.length_nil, Nat.reduceAdd, Nat.zero_add]) dX0_init_6 ?_
  try simp only [List.append_assoc, List.cons_append, List.nil_append, List.append_nil, List.set_cons_succ, List.set_cons_zero]
  refine l_put (ci := 0) G rfl 12 (by decide) tb_X0 tyX0_ok nmX0 t_150 (Or.inl rfl) (Or.inr rfl) rfl rfl (Nat.le_of_ble_eq_true rfl) dX0_init_8 ?_
  try simp only [List.append_assoc, List.cons_append, List.nil_append, List.append_nil, List.set_cons_succ, List.set_cons_zero]
  exact b_ret G hk dX0_init_11
