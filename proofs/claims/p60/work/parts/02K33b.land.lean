abbrev cX2_init : ByteArray := prog_4_method_1_code
def yX2_init : MethodName := ⟨RX2, "<init>", "()V"⟩
theorem nm_X2_init : (yX2_init).cls ≠ "java/lang/invoke/MethodHandle" ∧ (yX2_init).cls ≠ "java/lang/invoke/VarHandle" ∧ (parseMethodDescriptor (yX2_init).desc).map (fun d => d.parameters.length) = some 0 := ⟨by decide +kernel, by decide +kernel, by decide +kernel⟩
theorem dX2_init_0 : dc cX2_init 0 (.aload_n 0) 1 1 := ⟨by decide +kernel, rfl⟩
theorem dX2_init_1 : dc cX2_init 1 (.invokespecial 3) 3 4 := ⟨by decide +kernel, rfl⟩
theorem dX2_init_4 : dc cX2_init 4 (.aload_n 0) 1 5 := ⟨by decide +kernel, rfl⟩
theorem dX2_init_5 : dc cX2_init 5 (.bipush 8) 2 7 := ⟨by decide +kernel, rfl⟩
theorem dX2_init_7 : dc cX2_init 7 (.newarray .long) 2 9 := ⟨by decide +kernel, rfl⟩
theorem dX2_init_9 : dc cX2_init 9 (.putfield 9) 3 12 := ⟨by decide +kernel, rfl⟩
theorem dX2_init_12 : dc cX2_init 12 (.aload_n 0) 1 13 := ⟨by decide +kernel, rfl⟩
theorem dX2_init_13 : dc cX2_init 13 (.bipush 12) 2 15 := ⟨by decide +kernel, rfl⟩
theorem dX2_init_15 : dc cX2_init 15 (.newarray .int) 2 17 := ⟨by decide +kernel, rfl⟩
theorem dX2_init_17 : dc cX2_init 17 (.putfield 15) 3 20 := ⟨by decide +kernel, rfl⟩
theorem dX2_init_20 : dc cX2_init 20 (.aload_n 0) 1 21 := ⟨by decide +kernel, rfl⟩
theorem dX2_init_21 : dc cX2_init 21 (.bipush 12) 2 23 := ⟨by decide +kernel, rfl⟩
theorem dX2_init_23 : dc cX2_init 23 (.newarray .int) 2 25 := ⟨by decide +kernel, rfl⟩
theorem dX2_init_25 : dc cX2_init 25 (.putfield 19) 3 28 := ⟨by decide +kernel, rfl⟩
theorem dX2_init_28 : dc cX2_init 28 (.aload_n 0) 1 29 := ⟨by decide +kernel, rfl⟩
theorem dX2_init_29 : dc cX2_init 29 (.bipush 12) 2 31 := ⟨by decide +kernel, rfl⟩
theorem dX2_init_31 : dc cX2_init 31 (.newarray .int) 2 33 := ⟨by decide +kernel, rfl⟩
theorem dX2_init_33 : dc cX2_init 33 (.putfield 22) 3 36 := ⟨by decide +kernel, rfl⟩
theorem dX2_init_36 : dc cX2_init 36 (.aload_n 0) 1 37 := ⟨by decide +kernel, rfl⟩
theorem dX2_init_37 : dc cX2_init 37 (.bipush 12) 2 39 := ⟨by decide +kernel, rfl⟩
theorem dX2_init_39 : dc cX2_init 39 (.newarray .boolean) 2 41 := ⟨by decide +kernel, rfl⟩
theorem dX2_init_41 : dc cX2_init 41 (.putfield 25) 3 44 := ⟨by decide +kernel, rfl⟩
theorem dX2_init_44 : dc cX2_init 44 (.aload_n 0) 1 45 := ⟨by decide +kernel, rfl⟩
theorem dX2_init_45 : dc cX2_init 45 (.bipush 8) 2 47 := ⟨by decide +kernel, rfl⟩
theorem dX2_init_47 : dc cX2_init 47 (.anewarray 29) 3 50 := ⟨by decide +kernel, rfl⟩
theorem dX2_init_50 : dc cX2_init 50 (.putfield 31) 3 53 := ⟨by decide +kernel, rfl⟩
theorem dX2_init_53 : dc cX2_init 53 (.aload_n 0) 1 54 := ⟨by decide +kernel, rfl⟩
theorem dX2_init_54 : dc cX2_init 54 (.new 35) 3 57 := ⟨by decide +kernel, rfl⟩
theorem dX2_init_57 : dc cX2_init 57 (.dup) 1 58 := ⟨by decide +kernel, rfl⟩
theorem dX2_init_58 : dc cX2_init 58 (.invokespecial 37) 3 61 := ⟨by decide +kernel, rfl⟩
theorem dX2_init_61 : dc cX2_init 61 (.putfield 38) 3 64 := ⟨by decide +kernel, rfl⟩
theorem dX2_init_64 : dc cX2_init 64 (.aload_n 0) 1 65 := ⟨by decide +kernel, rfl⟩
theorem dX2_init_65 : dc cX2_init 65 (.new 42) 3 68 := ⟨by decide +kernel, rfl⟩
theorem dX2_init_68 : dc cX2_init 68 (.dup) 1 69 := ⟨by decide +kernel, rfl⟩
theorem dX2_init_69 : dc cX2_init 69 (.invokespecial 44) 3 72 := ⟨by decide +kernel, rfl⟩
theorem dX2_init_72 : dc cX2_init 72 (.putfield 45) 3 75 := ⟨by decide +kernel, rfl⟩
theorem dX2_init_75 : dc cX2_init 75 (.aload_n 0) 1 76 := ⟨by decide +kernel, rfl⟩
theorem dX2_init_76 : dc cX2_init 76 (.sipush 480) 3 79 := ⟨by decide +kernel, rfl⟩
theorem dX2_init_79 : dc cX2_init 79 (.putfield 49) 3 82 := ⟨by decide +kernel, rfl⟩
theorem dX2_init_82 : dc cX2_init 82 (.aload_n 0) 1 83 := ⟨by decide +kernel, rfl⟩
theorem dX2_init_83 : dc cX2_init 83 (.bipush 9) 2 85 := ⟨by decide +kernel, rfl⟩
theorem dX2_init_85 : dc cX2_init 85 (.putfield 53) 3 88 := ⟨by decide +kernel, rfl⟩
theorem dX2_init_88 : dc cX2_init 88 (.aload_n 0) 1 89 := ⟨by decide +kernel, rfl⟩
theorem dX2_init_89 : dc cX2_init 89 (.iconst 3) 1 90 := ⟨by decide +kernel, rfl⟩
theorem dX2_init_90 : dc cX2_init 90 (.putfield 56) 3 93 := ⟨by decide +kernel, rfl⟩
theorem dX2_init_93 : dc cX2_init 93 (.aload_n 0) 1 94 := ⟨by decide +kernel, rfl⟩
theorem dX2_init_94 : dc cX2_init 94 (.iconst 4) 1 95 := ⟨by decide +kernel, rfl⟩
theorem dX2_init_95 : dc cX2_init 95 (.putfield 59) 3 98 := ⟨by decide +kernel, rfl⟩
theorem dX2_init_98 : dc cX2_init 98 (.iconst 0) 1 99 := ⟨by decide +kernel, rfl⟩
theorem dX2_init_99 : dc cX2_init 99 (.istore_n 1) 1 100 := ⟨by decide +kernel, rfl⟩
theorem dX2_init_100 : dc cX2_init 100 (.iload_n 1) 1 101 := ⟨by decide +kernel, rfl⟩
theorem dX2_init_101 : dc cX2_init 101 (.bipush 8) 2 103 := ⟨by decide +kernel, rfl⟩
theorem dX2_init_103 : dc cX2_init 103 (.if_icmp .ge 22) 3 106 := ⟨by decide +kernel, rfl⟩
theorem dX2_init_106 : dc cX2_init 106 (.aload_n 0) 1 107 := ⟨by decide +kernel, rfl⟩
theorem dX2_init_107 : dc cX2_init 107 (.getfield 31) 3 110 := ⟨by decide +kernel, rfl⟩
theorem dX2_init_110 : dc cX2_init 110 (.iload_n 1) 1 111 := ⟨by decide +kernel, rfl⟩
theorem dX2_init_111 : dc cX2_init 111 (.new 29) 3 114 := ⟨by decide +kernel, rfl⟩
theorem dX2_init_114 : dc cX2_init 114 (.dup) 1 115 := ⟨by decide +kernel, rfl⟩
theorem dX2_init_115 : dc cX2_init 115 (.invokespecial 62) 3 118 := ⟨by decide +kernel, rfl⟩
theorem dX2_init_118 : dc cX2_init 118 (.aastore) 1 119 := ⟨by decide +kernel, rfl⟩
theorem dX2_init_119 : dc cX2_init 119 (.iinc 1 1) 3 122 := ⟨by decide +kernel, rfl⟩
theorem dX2_init_122 : dc cX2_init 122 (.goto (-22)) 3 125 := ⟨by decide +kernel, rfl⟩
theorem dX2_init_125 : dc cX2_init 125 (.return_) 1 126 := ⟨by decide +kernel, rfl⟩
def L_2 (cy : Nat → ClassId) (z i : Nat) : List va_E := .inr (2, [.ref (z + (i + 1)), .ref (z + (i + 2)), .ref (z + (i + 3)), .ref (z + (i + 4)), .ref (z + (i + 5)), .ref (z + (i + 6)), .ref (z + (i + 7)), .ref (z + (i + 8)), .int 0, .int 0, .int 0, .int (480), .int (9), .int (3), .int (4), .int 0]) :: .inl (cy 2, 8, .inr (.inl (fun _ => 0))) :: .inl (cy 1, 12, .inl (fun _ => 0)) :: .inl (cy 1, 12, .inl (fun _ => 0)) :: .inl (cy 1, 12, .inl (fun _ => 0)) :: .inl (cy 3, 12, .inl (fun _ => 0)) :: .inl (cy 5, 8, .inr (.inr (.inr (.inr (fun q => some (z + (i + (14 + 3 * q)))))))) :: (L_1 cy z (i + 7) ++ (L_8 cy z (i + 8) ++ (L_7 cy z (i + 14) ++ (L_7 cy z (i + 17) ++ (L_7 cy z (i + 20) ++ (L_7 cy z (i + 23) ++ (L_7 cy z (i + 26) ++ (L_7 cy z (i + 29) ++ (L_7 cy z (i + 32) ++ L_7 cy z (i + 35))))))))))
theorem ln_L_2 {cy : Nat → ClassId} {z i : Nat} : (L_2 cy z i).length = 38 := by unfold L_2; simp only [List.length_cons, List.length_append, List.length_nil, ln_L_1, ln_L_7, ln_L_8, Nat.reduceAdd, Nat.zero_add]
set_option maxRecDepth 100000 in
set_option maxHeartbeats 4000000 in
theorem cb_X2 {l : Launch} {cy : Nat → ClassId} {w : Nat × Nat} {D : va_G} {z : Nat} (B : Nat → va_E) (i : Nat) : BC l cy w D z yX2_init cX2_init 2 none none 2 37 631 [.ref (z + i)] (bL B i [.inr (2, [.null, .null, .null, .null, .null, .null, .null, .null, .int 0, .int 0, .int 0, .int 0, .int 0, .int 0, .int 0, .int 0])]) (bL B i (L_2 cy z i)) := by
  refine bv_enter true (by decide +kernel) (fun _ => rfl) (Nat.le_of_ble_eq_true rfl) ?_
  intro x hl hD hz hk G
  subst hl hD hz
  refine b_aload_n G dX2_init_0 0 rfl ?_
  refine b_obj G (Nat.le_of_ble_eq_true rfl) t_258 t_26 t_27 (Nat.le_of_ble_eq_true rfl) dX2_init_1 ?_
  refine b_aload_n G dX2_init_4 0 rfl ?_
  refine b_bipush (8) G dX2_init_5 (by decide) ?_
  refine l_newa (nn := 1) (t0 := 2) (at0 := .long) (N := 8) (a0 := (8, .inr (.inl (fun _ => 0)))) G t_143 rfl (fun _ => rfl) (by decide) (by decide) (Nat.le_of_ble_eq_true rfl) (by rw [hk]; exact (Nat.le_of_ble_eq_true rfl)) (by rw [hk]; exact (Nat.le_of_ble_eq_true rfl)) (by simp only [List.length_cons, List.length_append, List.length_nil, Nat.reduceAdd, Nat.zero_add]) dX2_init_7 ?_
  try simp only [List.append_assoc, List.cons_append, List.nil_append, List.append_nil, List.set_cons_succ, List.set_cons_zero]
  refine l_put (ci := 2) G rfl 0 (by decide) tb_X2 tyX2_ok nmX2 t_363 (Or.inl rfl) (Or.inr rfl) rfl rfl (Nat.le_of_ble_eq_true rfl) dX2_init_9 ?_
  try simp only [List.append_assoc, List.cons_append, List.nil_append, List.append_nil, List.set_cons_succ, List.set_cons_zero]
  refine b_aload_n G dX2_init_12 0 rfl ?_
  refine b_bipush (12) G dX2_init_13 (by decide) ?_
  refine l_newa (nn := 2) (t0 := 1) (at0 := .int) (N := 12) (a0 := (12, .inl (fun _ => 0))) G t_142 rfl (fun _ => rfl) (by decide) (by decide) (Nat.le_of_ble_eq_true rfl) (by rw [hk]; exact (Nat.le_of_ble_eq_true rfl)) (by rw [hk]; exact (Nat.le_of_ble_eq_true rfl)) (by simp only [List.length_cons, List.length_append, List.length_nil, Nat.reduceAdd, Nat.zero_add]) dX2_init_15 ?_
  try simp only [List.append_assoc, List.cons_append, List.nil_append, List.append_nil, List.set_cons_succ, List.set_cons_zero]
  refine l_put (ci := 2) G rfl 1 (by decide) tb_X2 tyX2_ok nmX2 t_364 (Or.inl rfl) (Or.inr rfl) rfl rfl (Nat.le_of_ble_eq_true rfl) dX2_init_17 ?_
  try simp only [List.append_assoc, List.cons_append, List.nil_append, List.append_nil, List.set_cons_succ, List.set_cons_zero]
  refine b_aload_n G dX2_init_20 0 rfl ?_
  refine b_bipush (12) G dX2_init_21 (by decide) ?_
  refine l_newa (nn := 3) (t0 := 1) (at0 := .int) (N := 12) (a0 := (12, .inl (fun _ => 0))) G t_142 rfl (fun _ => rfl) (by decide) (by decide) (Nat.le_of_ble_eq_true rfl) (by rw [hk]; exact (Nat.le_of_ble_eq_true rfl)) (by rw [hk]; exact (Nat.le_of_ble_eq_true rfl)) (by simp only [List.length_cons, List.length_append, List.length_nil, Nat.reduceAdd, Nat.zero_add]) dX2_init_23 ?_
  try simp only [List.append_assoc, List.cons_append, List.nil_append, List.append_nil, List.set_cons_succ, List.set_cons_zero]
  refine l_put (ci := 2) G rfl 2 (by decide) tb_X2 tyX2_ok nmX2 t_366 (Or.inl rfl) (Or.inr rfl) rfl rfl (Nat.le_of_ble_eq_true rfl) dX2_init_25 ?_
  try simp only [List.append_assoc, List.cons_append, List.nil_append, List.append_nil, List.set_cons_succ, List.set_cons_zero]
  refine b_aload_n G dX2_init_28 0 rfl ?_
  refine b_bipush (12) G dX2_init_29 (by decide) ?_
  refine l_newa (nn := 4) (t0 := 1) (at0 := .int) (N := 12) (a0 := (12, .inl (fun _ => 0))) G t_142 rfl (fun _ => rfl) (by decide) (by decide) (Nat.le_of_ble_eq_true rfl) (by rw [hk]; exact (Nat.le_of_ble_eq_true rfl)) (by rw [hk]; exact (Nat.le_of_ble_eq_true rfl)) (by simp only [List.length_cons, List.length_append, List.length_nil, Nat.reduceAdd, Nat.zero_add]) dX2_init_31 ?_
  try simp only [List.append_assoc, List.cons_append, List.nil_append, List.append_nil, List.set_cons_succ, List.set_cons_zero]
  refine l_put (ci := 2) G rfl 3 (by decide) tb_X2 tyX2_ok nmX2 t_368 (Or.inl rfl) (Or.inr rfl) rfl rfl (Nat.le_of_ble_eq_true rfl) dX2_init_33 ?_
  try simp only [List.append_assoc, List.cons_append, List.nil_append, List.append_nil, List.set_cons_succ, List.set_cons_zero]
  refine b_aload_n G dX2_init_36 0 rfl ?_
  refine b_bipush (12) G dX2_init_37 (by decide) ?_
  refine l_newa (nn := 5) (t0 := 3) (at0 := .boolean) (N := 12) (a0 := (12, .inl (fun _ => 0))) G t_298 rfl (fun _ => rfl) (by decide) (by decide) (Nat.le_of_ble_eq_true rfl) (by rw [hk]; exact (Nat.le_of_ble_eq_true rfl)) (by rw [hk]; exact (Nat.le_of_ble_eq_true rfl)) (by simp only [List.length_cons, List.length_append, List.length_nil, Nat.reduceAdd, Nat.zero_add]) dX2_init_39 ?_
  try simp only [List.append_assoc, List.cons_append, List.nil_append, List.append_nil, List.set_cons_succ, List.set_cons_zero]
  refine l_put (ci := 2) G rfl 4 (by decide) tb_X2 tyX2_ok nmX2 t_369 (Or.inl rfl) (Or.inr rfl) rfl rfl (Nat.le_of_ble_eq_true rfl) dX2_init_41 ?_
  try simp only [List.append_assoc, List.cons_append, List.nil_append, List.append_nil, List.set_cons_succ, List.set_cons_zero]
  refine b_aload_n G dX2_init_44 0 rfl ?_
  refine b_bipush (8) G dX2_init_45 (by decide) ?_
  refine l_anew (nn := 6) (t0 := 5) (N := 8) G t_259 (by decide) rfl (by decide) (by decide) (Nat.le_of_ble_eq_true rfl) (by rw [hk]; exact (Nat.le_of_ble_eq_true rfl)) (by rw [hk]; exact (Nat.le_of_ble_eq_true rfl)) (by simp only [List.length_cons, List.length_append, List.length_nil, Nat.reduceAdd, Nat.zero_add]) dX2_init_47 ?_
  try simp only [List.append_assoc, List.cons_append, List.nil_append, List.append_nil, List.set_cons_succ, List.set_cons_zero]
  refine l_put (ci := 2) G rfl 5 (by decide) tb_X2 tyX2_ok nmX2 t_371 (Or.inl rfl) (Or.inr rfl) rfl rfl (Nat.le_of_ble_eq_true rfl) dX2_init_50 ?_
  try simp only [List.append_assoc, List.cons_append, List.nil_append, List.append_nil, List.set_cons_succ, List.set_cons_zero]
  refine b_aload_n G dX2_init_53 0 rfl ?_
  refine l_new (nn := 7) (ci := 1) G tyX1 rfl tb_X1 tyX1_ok t_261 t_235 t_12 [.int 0, .int 0, .int 0] (by decide +kernel) (by rw [hk]; exact (Nat.le_of_ble_eq_true rfl)) (by rw [hk]; exact (Nat.le_of_ble_eq_true rfl)) (by simp only [List.length_cons, List.length_append, List.length_nil, Nat.reduceAdd, Nat.zero_add]) dX2_init_54 ?_
  refine b_dup G dX2_init_57 rfl ?_
  refine l_callN (nn := 7) (LX := L_1 cy (BXz x)) G (fun B j => cb_X1 B j) (List.mem_of_getElem? (i := 6) rfl) t_237 t_12 t_238 rfl nm_X1_init (Nat.le_of_ble_eq_true rfl) (Nat.le_of_ble_eq_true rfl) (by rw [hk]; exact (Nat.le_of_ble_eq_true rfl)) (by rw [hk]; exact (Nat.le_of_ble_eq_true rfl)) (by simp only [List.length_cons, List.length_append, List.length_nil, Nat.reduceAdd, Nat.zero_add]) (Nat.le_of_ble_eq_true rfl) dX2_init_58 ?_
  try simp only [List.append_assoc, List.cons_append, List.nil_append, List.append_nil, List.set_cons_succ, List.set_cons_zero]
  refine l_put (ci := 2) G rfl 6 (by decide) tb_X2 tyX2_ok nmX2 t_376 (Or.inl rfl) (Or.inr rfl) rfl rfl (Nat.le_of_ble_eq_true rfl) dX2_init_61 ?_
  try simp only [List.append_assoc, List.cons_append, List.nil_append, List.append_nil, List.set_cons_succ, List.set_cons_zero]
  refine b_aload_n G dX2_init_64 0 rfl ?_
  refine l_new (nn := 8) (ci := 8) G tyX8 rfl tb_X8 tyX8_ok t_263 t_264 t_14 [.null, .null, .null, .null, .null, .int 0, .int 0, .int 0] (by decide +kernel) (by rw [hk]; exact (Nat.le_of_ble_eq_true rfl)) (by rw [hk]; exact (Nat.le_of_ble_eq_true rfl)) (by simp only [List.length_cons, List.length_append, List.length_nil, ln_L_1, Nat.reduceAdd, Nat.zero_add]) dX2_init_65 ?_
  refine b_dup G dX2_init_68 rfl ?_
  refine l_callN (nn := 8) (LX := L_8 cy (BXz x)) G (fun B j => cb_X8 B j) (List.mem_of_getElem? (i := 7) rfl) t_266 t_14 t_267 rfl nm_X8_init (Nat.le_of_ble_eq_true rfl) (Nat.le_of_ble_eq_true rfl) (by rw [hk]; exact (Nat.le_of_ble_eq_true rfl)) (by rw [hk]; exact (Nat.le_of_ble_eq_true rfl)) (by simp only [List.length_cons, List.length_append, List.length_nil, ln_L_1, Nat.reduceAdd, Nat.zero_add]) (Nat.le_of_ble_eq_true rfl) dX2_init_69 ?_
  try simp only [List.append_assoc, List.cons_append, List.nil_append, List.append_nil, List.set_cons_succ, List.set_cons_zero]
  refine l_put (ci := 2) G rfl 7 (by decide) tb_X2 tyX2_ok nmX2 t_379 (Or.inl rfl) (Or.inl rfl) rfl rfl (Nat.le_of_ble_eq_true rfl) dX2_init_72 ?_
  try simp only [List.append_assoc, List.cons_append, List.nil_append, List.append_nil, List.set_cons_succ, List.set_cons_zero]
  refine b_aload_n G dX2_init_75 0 rfl ?_
  refine b_sipush (480) G dX2_init_76 (by decide) ?_
  refine l_put (ci := 2) G rfl 11 (by decide) tb_X2 tyX2_ok nmX2 t_393 (Or.inl rfl) (Or.inl rfl) rfl rfl (Nat.le_of_ble_eq_true rfl) dX2_init_79 ?_
  try simp only [List.append_assoc, List.cons_append, List.nil_append, List.append_nil, List.set_cons_succ, List.set_cons_zero]
  refine b_aload_n G dX2_init_82 0 rfl ?_
  refine b_bipush (9) G dX2_init_83 (by decide) ?_
  refine l_put (ci := 2) G rfl 12 (by decide) tb_X2 tyX2_ok nmX2 t_397 (Or.inl rfl) (Or.inl rfl) rfl rfl (Nat.le_of_ble_eq_true rfl) dX2_init_85 ?_
  try simp only [List.append_assoc, List.cons_append, List.nil_append, List.append_nil, List.set_cons_succ, List.set_cons_zero]
  refine b_aload_n G dX2_init_88 0 rfl ?_
  refine b_iconst (3) G dX2_init_89 (by decide) ?_
  refine l_put (ci := 2) G rfl 13 (by decide) tb_X2 tyX2_ok nmX2 t_400 (Or.inl rfl) (Or.inl rfl) rfl rfl (Nat.le_of_ble_eq_true rfl) dX2_init_90 ?_
  try simp only [List.append_assoc, List.cons_append, List.nil_append, List.append_nil, List.set_cons_succ, List.set_cons_zero]
  refine b_aload_n G dX2_init_93 0 rfl ?_
  refine b_iconst (4) G dX2_init_94 (by decide) ?_
  refine l_put (ci := 2) G rfl 14 (by decide) tb_X2 tyX2_ok nmX2 t_403 (Or.inl rfl) (Or.inl rfl) rfl rfl (Nat.le_of_ble_eq_true rfl) dX2_init_95 ?_
  try simp only [List.append_assoc, List.cons_append, List.nil_append, List.append_nil, List.set_cons_succ, List.set_cons_zero]
  refine b_iconst (0) G dX2_init_98 (by decide) ?_
  refine b_istore_n [(1, .int 0), (0, .ref (BXz x + i))] G dX2_init_99 (Nat.le_of_ble_eq_true rfl) rfl ?_
  refine b_iload_n G dX2_init_100 0 rfl ?_
  refine b_bipush (8) G dX2_init_101 (by decide) ?_
  refine b_icmp_ge 125 G dX2_init_103 rfl (fun h => absurd h (by decide)) (fun h => ?_)
  clear h
  refine b_aload_n G dX2_init_106 1 rfl ?_
  refine l_get (ci := 2) (v := .ref (BXz x + (i + 6))) G rfl 5 (by decide) tb_X2 t_371 (Or.inl rfl) rfl dX2_init_107 ?_
  refine b_iload_n G dX2_init_110 0 rfl ?_
  refine l_new (nn := 14) (ci := 7) G tyX7 rfl tb_X7 tyX7_ok t_259 t_299 t_15 [.null, .null, .long 0, .int 0, .int 0, .int 0, .int 0, .int 0, .int 0, .int 0, .int 0, .int 0] (by decide +kernel) (by rw [hk]; exact (Nat.le_of_ble_eq_true rfl)) (by rw [hk]; exact (Nat.le_of_ble_eq_true rfl)) (by simp only [List.length_cons, List.length_append, List.length_nil, ln_L_1, ln_L_8, Nat.reduceAdd, Nat.zero_add]) dX2_init_111 ?_
  refine b_dup G dX2_init_114 rfl ?_
  refine l_callN (nn := 14) (LX := L_7 cy (BXz x)) G (fun B j => cb_X7 B j) (List.mem_of_getElem? (i := 8) rfl) t_301 t_15 t_302 rfl nm_X7_init (Nat.le_of_ble_eq_true rfl) (Nat.le_of_ble_eq_true rfl) (by rw [hk]; exact (Nat.le_of_ble_eq_true rfl)) (by rw [hk]; exact (Nat.le_of_ble_eq_true rfl)) (by simp only [List.length_cons, List.length_append, List.length_nil, ln_L_1, ln_L_8, Nat.reduceAdd, Nat.zero_add]) (Nat.le_of_ble_eq_true rfl) dX2_init_115 ?_
  refine l_aastQ (k := 5) (nn := 14) (t0 := 5) (ci := 7) G rfl rfl rfl rfl (by decide) (by simp only [List.length_cons, List.length_append, List.length_nil, ln_L_1, ln_L_8, Nat.reduceAdd, Nat.zero_add]) dX2_init_118 ?_
  try simp only [List.append_assoc, List.cons_append, List.nil_append, List.append_nil, List.set_cons_succ, List.set_cons_zero]
  refine b_iinc 1 [(1, .int 1), (0, .ref (BXz x + i))] G dX2_init_119 0 rfl (by decide) (Nat.le_of_ble_eq_true rfl) rfl ?_
  refine b_goto 100 G dX2_init_122 rfl ?_
  refine b_iload_n G dX2_init_100 0 rfl ?_
  refine b_bipush (8) G dX2_init_101 (by decide) ?_
  refine b_icmp_ge 125 G dX2_init_103 rfl (fun h => absurd h (by decide)) (fun h => ?_)
  clear h
  refine b_aload_n G dX2_init_106 1 rfl ?_
  refine l_get (ci := 2) (v := .ref (BXz x + (i + 6))) G rfl 5 (by decide) tb_X2 t_371 (Or.inl rfl) rfl dX2_init_107 ?_
  refine b_iload_n G dX2_init_110 0 rfl ?_
  refine l_new (nn := 17) (ci := 7) G tyX7 rfl tb_X7 tyX7_ok t_259 t_299 t_15 [.null, .null, .long 0, .int 0, .int 0, .int 0, .int 0, .int 0, .int 0, .int 0, .int 0, .int 0] (by decide +kernel) (by rw [hk]; exact (Nat.le_of_ble_eq_true rfl)) (by rw [hk]; exact (Nat.le_of_ble_eq_true rfl)) (by simp only [List.length_cons, List.length_append, List.length_nil, ln_L_1, ln_L_7, ln_L_8, Nat.reduceAdd, Nat.zero_add]) dX2_init_111 ?_
  refine b_dup G dX2_init_114 rfl ?_
  refine l_callN (nn := 17) (LX := L_7 cy (BXz x)) G (fun B j => cb_X7 B j) (List.mem_of_getElem? (i := 8) rfl) t_301 t_15 t_302 rfl nm_X7_init (Nat.le_of_ble_eq_true rfl) (Nat.le_of_ble_eq_true rfl) (by rw [hk]; exact (Nat.le_of_ble_eq_true rfl)) (by rw [hk]; exact (Nat.le_of_ble_eq_true rfl)) (by simp only [List.length_cons, List.length_append, List.length_nil, ln_L_1, ln_L_7, ln_L_8, Nat.reduceAdd, Nat.zero_add]) (Nat.le_of_ble_eq_true rfl) dX2_init_115 ?_
  refine l_aastQ (k := 5) (nn := 17) (t0 := 5) (ci := 7) G rfl rfl rfl rfl (by decide) (by simp only [List.length_cons, List.length_append, List.length_nil, ln_L_1, ln_L_7, ln_L_8, Nat.reduceAdd, Nat.zero_add]) dX2_init_118 ?_
  try simp only [List.append_assoc, List.cons_append, List.nil_append, List.append_nil, List.set_cons_succ, List.set_cons_zero]
  refine b_iinc 2 [(1, .int 2), (0, .ref (BXz x + i))] G dX2_init_119 0 rfl (by decide) (Nat.le_of_ble_eq_true rfl) rfl ?_
  refine b_goto 100 G dX2_init_122 rfl ?_
  refine b_iload_n G dX2_init_100 0 rfl ?_
  refine b_bipush (8) G dX2_init_101 (by decide) ?_
  refine b_icmp_ge 125 G dX2_init_103 rfl (fun h => absurd h (by decide)) (fun h => ?_)
  clear h
  refine b_aload_n G dX2_init_106 1 rfl ?_
  refine l_get (ci := 2) (v := .ref (BXz x + (i + 6))) G rfl 5 (by decide) tb_X2 t_371 (Or.inl rfl) rfl dX2_init_107 ?_
  refine b_iload_n G dX2_init_110 0 rfl ?_
  refine l_new (nn := 20) (ci := 7) G tyX7 rfl tb_X7 tyX7_ok t_259 t_299 t_15 [.null, .null, .long 0, .int 0, .int 0, .int 0, .int 0, .int 0, .int 0, .int 0, .int 0, .int 0] (by decide +kernel) (by rw [hk]; exact (Nat.le_of_ble_eq_true rfl)) (by rw [hk]; exact (Nat.le_of_ble_eq_true rfl)) (by simp only [List.length_cons, List.length_append, List.length_nil, ln_L_1, ln_L_7, ln_L_8, Nat.reduceAdd, Nat.zero_add]) dX2_init_111 ?_
  refine b_dup G dX2_init_114 rfl ?_
  refine l_callN (nn := 20) (LX := L_7 cy (BXz x)) G (fun B j => cb_X7 B j) (List.mem_of_getElem? (i := 8) rfl) t_301 t_15 t_302 rfl nm_X7_init (Nat.le_of_ble_eq_true rfl) (Nat.le_of_ble_eq_true rfl) (by rw [hk]; exact (Nat.le_of_ble_eq_true rfl)) (by rw [hk]; exact (Nat.le_of_ble_eq_true rfl)) (by simp only [List.length_cons, List.length_append, List.length_nil, ln_L_1, ln_L_7, ln_L_8, Nat.reduceAdd, Nat.zero_add]) (Nat.le_of_ble_eq_true rfl) dX2_init_115 ?_
  refine l_aastQ (k := 5) (nn := 20) (t0 := 5) (ci := 7) G rfl rfl rfl rfl (by decide) (by simp only [List.length_cons, List.length_append, List.length_nil, ln_L_1, ln_L_7, ln_L_8, Nat.reduceAdd, Nat.zero_add]) dX2_init_118 ?_
  try simp only [List.append_assoc, List.cons_append, List.nil_append, List.append_nil, List.set_cons_succ, List.set_cons_zero]
  refine b_iinc 3 [(1, .int 3), (0, .ref (BXz x + i))] G dX2_init_119 0 rfl (by decide) (Nat.le_of_ble_eq_true rfl) rfl ?_
  refine b_goto 100 G dX2_init_122 rfl ?_
  refine b_iload_n G dX2_init_100 0 rfl ?_
  refine b_bipush (8) G dX2_init_101 (by decide) ?_
  refine b_icmp_ge 125 G dX2_init_103 rfl (fun h => absurd h (by decide)) (fun h => ?_)
  clear h
  refine b_aload_n G dX2_init_106 1 rfl ?_
  refine l_get (ci := 2) (v := .ref (BXz x + (i + 6))) G rfl 5 (by decide) tb_X2 t_371 (Or.inl rfl) rfl dX2_init_107 ?_
  refine b_iload_n G dX2_init_110 0 rfl ?_
  refine l_new (nn := 23) (ci := 7) G tyX7 rfl tb_X7 tyX7_ok t_259 t_299 t_15 [.null, .null, .long 0, .int 0, .int 0, .int 0, .int 0, .int 0, .int 0, .int 0, .int 0, .int 0] (by decide +kernel) (by rw [hk]; exact (Nat.le_of_ble_eq_true rfl)) (by rw [hk]; exact (Nat.le_of_ble_eq_true rfl)) (by simp only [List.length_cons, List.length_append, List.length_nil, ln_L_1, ln_L_7, ln_L_8, Nat.reduceAdd, Nat.zero_add]) dX2_init_111 ?_
  refine b_dup G dX2_init_114 rfl ?_
  refine l_callN (nn := 23) (LX := L_7 cy (BXz x)) G (fun B j => cb_X7 B j) (List.mem_of_getElem? (i := 8) rfl) t_301 t_15 t_302 rfl nm_X7_init (Nat.le_of_ble_eq_true rfl) (Nat.le_of_ble_eq_true rfl) (by rw [hk]; exact (Nat.le_of_ble_eq_true rfl)) (by rw [hk]; exact (Nat.le_of_ble_eq_true rfl)) (by simp only [List.length_cons, List.length_append, List.length_nil, ln_L_1, ln_L_7, ln_L_8, Nat.reduceAdd, Nat.zero_add]) (Nat.le_of_ble_eq_true rfl) dX2_init_115 ?_
  refine l_aastQ (k := 5) (nn := 23) (t0 := 5) (ci := 7) G rfl rfl rfl rfl (by decide) (by simp only [List.length_cons, List.length_append, List.length_nil, ln_L_1, ln_L_7, ln_L_8, Nat.reduceAdd, Nat.zero_add]) dX2_init_118 ?_
  try simp only [List.append_assoc, List.cons_append, List.nil_append, List.append_nil, List.set_cons_succ, List.set_cons_zero]
  refine b_iinc 4 [(1, .int 4), (0, .ref (BXz x + i))] G dX2_init_119 0 rfl (by decide) (Nat.le_of_ble_eq_true rfl) rfl ?_
  refine b_goto 100 G dX2_init_122 rfl ?_
  refine b_iload_n G dX2_init_100 0 rfl ?_
  refine b_bipush (8) G dX2_init_101 (by decide) ?_
  refine b_icmp_ge 125 G dX2_init_103 rfl (fun h => absurd h (by decide)) (fun h => ?_)
  clear h
  refine b_aload_n G dX2_init_106 1 rfl ?_
  refine l_get (ci := 2) (v := .ref (BXz x + (i + 6))) G rfl 5 (by decide) tb_X2 t_371 (Or.inl rfl) rfl dX2_init_107 ?_
  refine b_iload_n G dX2_init_110 0 rfl ?_
  refine l_new (nn := 26) (ci := 7) G tyX7 rfl tb_X7 tyX7_ok t_259 t_299 t_15 [.null, .null, .long 0, .int 0, .int 0, .int 0, .int 0, .int 0, .int 0, .int 0, .int 0, .int 0] (by decide +kernel) (by rw [hk]; exact (Nat.le_of_ble_eq_true rfl)) (by rw [hk]; exact (Nat.le_of_ble_eq_true rfl)) (by simp only [List.length_cons, List.length_append, List.length_nil, ln_L_1, ln_L_7, ln_L_8, Nat.reduceAdd, Nat.zero_add]) dX2_init_111 ?_
  refine b_dup G dX2_init_114 rfl ?_
  refine l_callN (nn := 26) (LX := L_7 cy (BXz x)) G (fun B j => cb_X7 B j) (List.mem_of_getElem? (i := 8) rfl) t_301 t_15 t_302 rfl nm_X7_init (Nat.le_of_ble_eq_true rfl) (Nat.le_of_ble_eq_true rfl) (by rw [hk]; exact (Nat.le_of_ble_eq_true rfl)) (by rw [hk]; exact (Nat.le_of_ble_eq_true rfl)) (by simp only [List.length_cons, List.length_append, List.length_nil, ln_L_1, ln_L_7, ln_L_8, Nat.reduceAdd, Nat.zero_add]) (Nat.le_of_ble_eq_true rfl) dX2_init_115 ?_
  refine l_aastQ (k := 5) (nn := 26) (t0 := 5) (ci := 7) G rfl rfl rfl rfl (by decide) (by simp only [List.length_cons, List.length_append, List.length_nil, ln_L_1, ln_L_7, ln_L_8, Nat.reduceAdd, Nat.zero_add]) dX2_init_118 ?_
  try simp only [List.append_assoc, List.cons_append, List.nil_append, List.append_nil, List.set_cons_succ, List.set_cons_zero]
  refine b_iinc 5 [(1, .int 5), (0, .ref (BXz x + i))] G dX2_init_119 0 rfl (by decide) (Nat.le_of_ble_eq_true rfl) rfl ?_
  refine b_goto 100 G dX2_init_122 rfl ?_
  refine b_iload_n G dX2_init_100 0 rfl ?_
  refine b_bipush (8) G dX2_init_101 (by decide) ?_
  refine b_icmp_ge 125 G dX2_init_103 rfl (fun h => absurd h (by decide)) (fun h => ?_)
  clear h
  refine b_aload_n G dX2_init_106 1 rfl ?_
  refine l_get (ci := 2) (v := .ref (BXz x + (i + 6))) G rfl 5 (by decide) tb_X2 t_371 (Or.inl rfl) rfl dX2_init_107 ?_
  refine b_iload_n G dX2_init_110 0 rfl ?_
  refine l_new (nn := 29) (ci := 7) G tyX7 rfl tb_X7 tyX7_ok t_259 t_299 t_15 [.null, .null, .long 0, .int 0, .int 0, .int 0, .int 0, .int 0, .int 0, .int 0, .int 0, .int 0] (by decide +kernel) (by rw [hk]; exact (Nat.le_of_ble_eq_true rfl)) (by rw [hk]; exact (Nat.le_of_ble_eq_true rfl)) (by simp only [List.length_cons, List.length_append, List.length_nil, ln_L_1, ln_L_7, ln_L_8, Nat.reduceAdd, Nat.zero_add]) dX2_init_111 ?_
  refine b_dup G dX2_init_114 rfl ?_
  refine l_callN (nn := 29) (LX := L_7 cy (BXz x)) G (fun B j => cb_X7 B j) (List.mem_of_getElem? (i := 8) rfl) t_301 t_15 t_302 rfl nm_X7_init (Nat.le_of_ble_eq_true rfl) (Nat.le_of_ble_eq_true rfl) (by rw [hk]; exact (Nat.le_of_ble_eq_true rfl)) (by rw [hk]; exact (Nat.le_of_ble_eq_true rfl)) (by simp only [List.length_cons, List.length_append, List.length_nil, ln_L_1, ln_L_7, ln_L_8, Nat.reduceAdd, Nat.zero_add]) (Nat.le_of_ble_eq_true rfl) dX2_init_115 ?_
  refine l_aastQ (k := 5) (nn := 29) (t0 := 5) (ci := 7) G rfl rfl rfl rfl (by decide) (by simp only [List.length_cons, List.length_append, List.length_nil, ln_L_1, ln_L_7, ln_L_8, Nat.reduceAdd, Nat.zero_add]) dX2_init_118 ?_
  try simp only [List.append_assoc, List.cons_append, List.nil_append, List.append_nil, List.set_cons_succ, List.set_cons_zero]
  refine b_iinc 6 [(1, .int 6), (0, .ref (BXz x + i))] G dX2_init_119 0 rfl (by decide) (Nat.le_of_ble_eq_true rfl) rfl ?_
  refine b_goto 100 G dX2_init_122 rfl ?_
  refine b_iload_n G dX2_init_100 0 rfl ?_
  refine b_bipush (8) G dX2_init_101 (by decide) ?_
  refine b_icmp_ge 125 G dX2_init_103 rfl (fun h => absurd h (by decide)) (fun h => ?_)
  clear h
  refine b_aload_n G dX2_init_106 1 rfl ?_
  refine l_get (ci := 2) (v := .ref (BXz x + (i + 6))) G rfl 5 (by decide) tb_X2 t_371 (Or.inl rfl) rfl dX2_init_107 ?_
  refine b_iload_n G dX2_init_110 0 rfl ?_
  refine l_new (nn := 32) (ci := 7) G tyX7 rfl tb_X7 tyX7_ok t_259 t_299 t_15 [.null, .null, .long 0, .int 0, .int 0, .int 0, .int 0, .int 0, .int 0, .int 0, .int 0, .int 0] (by decide +kernel) (by rw [hk]; exact (Nat.le_of_ble_eq_true rfl)) (by rw [hk]; exact (Nat.le_of_ble_eq_true rfl)) (by simp only [List.length_cons, List.length_append, List.length_nil, ln_L_1, ln_L_7, ln_L_8, Nat.reduceAdd, Nat.zero_add]) dX2_init_111 ?_
  refine b_dup G dX2_init_114 rfl ?_
  refine l_callN (nn := 32) (LX := L_7 cy (BXz x)) G (fun B j => cb_X7 B j) (List.mem_of_getElem? (i := 8) rfl) t_301 t_15 t_302 rfl nm_X7_init (Nat.le_of_ble_eq_true rfl) (Nat.le_of_ble_eq_true rfl) (by rw [hk]; exact (Nat.le_of_ble_eq_true rfl)) (by rw [hk]; exact (Nat.le_of_ble_eq_true rfl)) (by simp only [List.length_cons, List.length_append, List.length_nil, ln_L_1, ln_L_7, ln_L_8, Nat.reduceAdd, Nat.zero_add]) (Nat.le_of_ble_eq_true rfl) dX2_init_115 ?_
  refine l_aastQ (k := 5) (nn := 32) (t0 := 5) (ci := 7) G rfl rfl rfl rfl (by decide) (by simp only [List.length_cons, List.length_append, List.length_nil, ln_L_1, ln_L_7, ln_L_8, Nat.reduceAdd, Nat.zero_add]) dX2_init_118 ?_
  try simp only [List.append_assoc, List.cons_append, List.nil_append, List.append_nil, List.set_cons_succ, List.set_cons_zero]
  refine b_iinc 7 [(1, .int 7), (0, .ref (BXz x + i))] G dX2_init_119 0 rfl (by decide) (Nat.le_of_ble_eq_true rfl) rfl ?_
  refine b_goto 100 G dX2_init_122 rfl ?_
  refine b_iload_n G dX2_init_100 0 rfl ?_
  refine b_bipush (8) G dX2_init_101 (by decide) ?_
  refine b_icmp_ge 125 G dX2_init_103 rfl (fun h => absurd h (by decide)) (fun h => ?_)
  clear h
  refine b_aload_n G dX2_init_106 1 rfl ?_
  refine l_get (ci := 2) (v := .ref (BXz x + (i + 6))) G rfl 5 (by decide) tb_X2 t_371 (Or.inl rfl) rfl dX2_init_107 ?_
  refine b_iload_n G dX2_init_110 0 rfl ?_
  refine l_new (nn := 35) (ci := 7) G tyX7 rfl tb_X7 tyX7_ok t_259 t_299 t_15 [.null, .null, .long 0, .int 0, .int 0, .int 0, .int 0, .int 0, .int 0, .int 0, .int 0, .int 0] (by decide +kernel) (by rw [hk]; exact (Nat.le_of_ble_eq_true rfl)) (by rw [hk]; exact (Nat.le_of_ble_eq_true rfl)) (by simp only [List.length_cons, List.length_append, List.length_nil, ln_L_1, ln_L_7, ln_L_8, Nat.reduceAdd, Nat.zero_add]) dX2_init_111 ?_
  refine b_dup G dX2_init_114 rfl ?_
  refine l_callN (nn := 35) (LX := L_7 cy (BXz x)) G (fun B j => cb_X7 B j) (List.mem_of_getElem? (i := 8) rfl) t_301 t_15 t_302 rfl nm_X7_init (Nat.le_of_ble_eq_true rfl) (Nat.le_of_ble_eq_true rfl) (by rw [hk]; exact (Nat.le_of_ble_eq_true rfl)) (by rw [hk]; exact (Nat.le_of_ble_eq_true rfl)) (by simp only [List.length_cons, List.length_append, List.length_nil, ln_L_1, ln_L_7, ln_L_8, Nat.reduceAdd, Nat.zero_add]) (Nat.le_of_ble_eq_true rfl) dX2_init_115 ?_
  refine l_aastQ (k := 5) (nn := 35) (t0 := 5) (ci := 7) G rfl rfl rfl rfl (by decide) (by simp only [List.length_cons, List.length_append, List.length_nil, ln_L_1, ln_L_7, ln_L_8, Nat.reduceAdd, Nat.zero_add]) dX2_init_118 ?_
  try simp only [List.append_assoc, List.cons_append, List.nil_append, List.append_nil, List.set_cons_succ, List.set_cons_zero]
  refine b_iinc 8 [(1, .int 8), (0, .ref (BXz x + i))] G dX2_init_119 0 rfl (by decide) (Nat.le_of_ble_eq_true rfl) rfl ?_
  refine b_goto 100 G dX2_init_122 rfl ?_
  refine b_iload_n G dX2_init_100 0 rfl ?_
  refine b_bipush (8) G dX2_init_101 (by decide) ?_
  refine b_icmp_ge 125 G dX2_init_103 rfl (fun h => ?_) (fun h => absurd (by decide) h)
  clear h
  refine l_fix (k := 6) (t0 := 5) (N := 8) (fun q => some (BXz x + (i + (14 + 3 * q)))) rfl (fun q hq => by rcases (show q = 0 ∨ q = 1 ∨ q = 2 ∨ q = 3 ∨ q = 4 ∨ q = 5 ∨ q = 6 ∨ q = 7 by omega) with rfl | rfl | rfl | rfl | rfl | rfl | rfl | rfl <;> rfl) ?_
  try simp only [List.append_assoc, List.cons_append, List.nil_append, List.append_nil, List.set_cons_succ, List.set_cons_zero]
  exact b_ret G hk dX2_init_125
