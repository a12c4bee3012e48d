abbrev cX1_init : ByteArray := prog_3_method_1_code
def yX1_init : MethodName := ⟨RX1, "<init>", "()V"⟩
theorem nm_X1_init : (yX1_init).cls ≠ "java/lang/invoke/MethodHandle" ∧ (yX1_init).cls ≠ "java/lang/invoke/VarHandle" ∧ (parseMethodDescriptor (yX1_init).desc).map (fun d => d.parameters.length) = some 0 := ⟨by decide +kernel, by decide +kernel, by decide +kernel⟩
theorem dX1_init_0 : dc cX1_init 0 (.aload_n 0) 1 1 := ⟨by decide +kernel, rfl⟩
theorem dX1_init_1 : dc cX1_init 1 (.invokespecial 3) 3 4 := ⟨by decide +kernel, rfl⟩
theorem dX1_init_4 : dc cX1_init 4 (.aload_n 0) 1 5 := ⟨by decide +kernel, rfl⟩
theorem dX1_init_5 : dc cX1_init 5 (.bipush 10) 2 7 := ⟨by decide +kernel, rfl⟩
theorem dX1_init_7 : dc cX1_init 7 (.putfield 9) 3 10 := ⟨by decide +kernel, rfl⟩
theorem dX1_init_10 : dc cX1_init 10 (.aload_n 0) 1 11 := ⟨by decide +kernel, rfl⟩
theorem dX1_init_11 : dc cX1_init 11 (.bipush 16) 2 13 := ⟨by decide +kernel, rfl⟩
theorem dX1_init_13 : dc cX1_init 13 (.putfield 15) 3 16 := ⟨by decide +kernel, rfl⟩
theorem dX1_init_16 : dc cX1_init 16 (.aload_n 0) 1 17 := ⟨by decide +kernel, rfl⟩
theorem dX1_init_17 : dc cX1_init 17 (.sipush 360) 3 20 := ⟨by decide +kernel, rfl⟩
theorem dX1_init_20 : dc cX1_init 20 (.putfield 18) 3 23 := ⟨by decide +kernel, rfl⟩
theorem dX1_init_23 : dc cX1_init 23 (.return_) 1 24 := ⟨by decide +kernel, rfl⟩
def L_1 (cy : Nat → ClassId) (z i : Nat) : List va_E := .inr (1, [.int (10), .int (16), .int (360)]) :: []
theorem ln_L_1 {cy : Nat → ClassId} {z i : Nat} : (L_1 cy z i).length = 1 := rfl
set_option maxRecDepth 100000 in
set_option maxHeartbeats 4000000 in
theorem cb_X1 {l : Launch} {cy : Nat → ClassId} {w : Nat × Nat} {D : va_G} {z : Nat} (B : Nat → va_E) (i : Nat) : BC l cy w D z yX1_init cX1_init 1 none none 1 0 0 [.ref (z + i)] (bL B i [.inr (1, [.int 0, .int 0, .int 0])]) (bL B i (L_1 cy z i)) := by
  refine bv_enter true (by decide +kernel) (fun _ => rfl) (Nat.le_of_ble_eq_true rfl) ?_
  intro x hl hD hz hk G
  subst hl hD hz
  refine b_aload_n G dX1_init_0 0 rfl ?_
  refine b_obj G (Nat.le_of_ble_eq_true rfl) t_239 t_26 t_27 (Nat.le_of_ble_eq_true rfl) dX1_init_1 ?_
  refine b_aload_n G dX1_init_4 0 rfl ?_
  refine b_bipush (10) G dX1_init_5 (by decide) ?_
  refine l_put (ci := 1) G rfl 0 (by decide) tb_X1 tyX1_ok nmX1 t_240 (Or.inl rfl) (Or.inl rfl) rfl rfl (Nat.le_of_ble_eq_true rfl) dX1_init_7 ?_
  try simp only [List.append_assoc, List.cons_append, List.nil_append, List.append_nil, List.set_cons_succ, List.set_cons_zero]
  refine b_aload_n G dX1_init_10 0 rfl ?_
  refine b_bipush (16) G dX1_init_11 (by decide) ?_
  refine l_put (ci := 1) G rfl 1 (by decide) tb_X1 tyX1_ok nmX1 t_243 (Or.inl rfl) (Or.inl rfl) rfl rfl (Nat.le_of_ble_eq_true rfl) dX1_init_13 ?_
  try simp only [List.append_assoc, List.cons_append, List.nil_append, List.append_nil, List.set_cons_succ, List.set_cons_zero]
  refine b_aload_n G dX1_init_16 0 rfl ?_
  refine b_sipush (360) G dX1_init_17 (by decide) ?_
  refine l_put (ci := 1) G rfl 2 (by decide) tb_X1 tyX1_ok nmX1 t_246 (Or.inl rfl) (Or.inl rfl) rfl rfl (Nat.le_of_ble_eq_true rfl) dX1_init_20 ?_
  try simp only [List.append_assoc, List.cons_append, List.nil_append, List.append_nil, List.set_cons_succ, List.set_cons_zero]
  exact b_ret G hk dX1_init_23
abbrev cX7_init : ByteArray := prog_9_method_1_code
def yX7_init : MethodName := ⟨RX7, "<init>", "()V"⟩
theorem nm_X7_init : (yX7_init).cls ≠ "java/lang/invoke/MethodHandle" ∧ (yX7_init).cls ≠ "java/lang/invoke/VarHandle" ∧ (parseMethodDescriptor (yX7_init).desc).map (fun d => d.parameters.length) = some 0 := ⟨by decide +kernel, by decide +kernel, by decide +kernel⟩
theorem dX7_init_0 : dc cX7_init 0 (.aload_n 0) 1 1 := ⟨by decide +kernel, rfl⟩
theorem dX7_init_1 : dc cX7_init 1 (.invokespecial 3) 3 4 := ⟨by decide +kernel, rfl⟩
theorem dX7_init_4 : dc cX7_init 4 (.aload_n 0) 1 5 := ⟨by decide +kernel, rfl⟩
theorem dX7_init_5 : dc cX7_init 5 (.bipush 12) 2 7 := ⟨by decide +kernel, rfl⟩
theorem dX7_init_7 : dc cX7_init 7 (.newarray .int) 2 9 := ⟨by decide +kernel, rfl⟩
theorem dX7_init_9 : dc cX7_init 9 (.putfield 9) 3 12 := ⟨by decide +kernel, rfl⟩
theorem dX7_init_12 : dc cX7_init 12 (.aload_n 0) 1 13 := ⟨by decide +kernel, rfl⟩
theorem dX7_init_13 : dc cX7_init 13 (.bipush 8) 2 15 := ⟨by decide +kernel, rfl⟩
theorem dX7_init_15 : dc cX7_init 15 (.newarray .int) 2 17 := ⟨by decide +kernel, rfl⟩
theorem dX7_init_17 : dc cX7_init 17 (.putfield 15) 3 20 := ⟨by decide +kernel, rfl⟩
theorem dX7_init_20 : dc cX7_init 20 (.aload_n 0) 1 21 := ⟨by decide +kernel, rfl⟩
theorem dX7_init_21 : dc cX7_init 21 (.iconst (-1)) 1 22 := ⟨by decide +kernel, rfl⟩
theorem dX7_init_22 : dc cX7_init 22 (.putfield 18) 3 25 := ⟨by decide +kernel, rfl⟩
theorem dX7_init_25 : dc cX7_init 25 (.aload_n 0) 1 26 := ⟨by decide +kernel, rfl⟩
theorem dX7_init_26 : dc cX7_init 26 (.iconst (-1)) 1 27 := ⟨by decide +kernel, rfl⟩
theorem dX7_init_27 : dc cX7_init 27 (.putfield 22) 3 30 := ⟨by decide +kernel, rfl⟩
theorem dX7_init_30 : dc cX7_init 30 (.aload_n 0) 1 31 := ⟨by decide +kernel, rfl⟩
theorem dX7_init_31 : dc cX7_init 31 (.iconst (-1)) 1 32 := ⟨by decide +kernel, rfl⟩
theorem dX7_init_32 : dc cX7_init 32 (.putfield 25) 3 35 := ⟨by decide +kernel, rfl⟩
theorem dX7_init_35 : dc cX7_init 35 (.aload_n 0) 1 36 := ⟨by decide +kernel, rfl⟩
theorem dX7_init_36 : dc cX7_init 36 (.iconst (-1)) 1 37 := ⟨by decide +kernel, rfl⟩
theorem dX7_init_37 : dc cX7_init 37 (.putfield 28) 3 40 := ⟨by decide +kernel, rfl⟩
theorem dX7_init_40 : dc cX7_init 40 (.aload_n 0) 1 41 := ⟨by decide +kernel, rfl⟩
theorem dX7_init_41 : dc cX7_init 41 (.iconst (-1)) 1 42 := ⟨by decide +kernel, rfl⟩
theorem dX7_init_42 : dc cX7_init 42 (.putfield 31) 3 45 := ⟨by decide +kernel, rfl⟩
theorem dX7_init_45 : dc cX7_init 45 (.return_) 1 46 := ⟨by decide +kernel, rfl⟩
def L_7 (cy : Nat → ClassId) (z i : Nat) : List va_E := .inr (7, [.ref (z + (i + 1)), .ref (z + (i + 2)), .long 0, .int 0, .int 0, .int (-1), .int (-1), .int (-1), .int (-1), .int (-1), .int 0, .int 0]) :: .inl (cy 1, 12, .inl (fun _ => 0)) :: .inl (cy 1, 8, .inl (fun _ => 0)) :: []
theorem ln_L_7 {cy : Nat → ClassId} {z i : Nat} : (L_7 cy z i).length = 3 := rfl
set_option maxRecDepth 100000 in
set_option maxHeartbeats 4000000 in
theorem cb_X7 {l : Launch} {cy : Nat → ClassId} {w : Nat × Nat} {D : va_G} {z : Nat} (B : Nat → va_E) (i : Nat) : BC l cy w D z yX7_init cX7_init 1 none none 1 2 20 [.ref (z + i)] (bL B i [.inr (7, [.null, .null, .long 0, .int 0, .int 0, .int 0, .int 0, .int 0, .int 0, .int 0, .int 0, .int 0])]) (bL B i (L_7 cy z i)) := by
  refine bv_enter true (by decide +kernel) (fun _ => rfl) (Nat.le_of_ble_eq_true rfl) ?_
  intro x hl hD hz hk G
  subst hl hD hz
  refine b_aload_n G dX7_init_0 0 rfl ?_
  refine b_obj G (Nat.le_of_ble_eq_true rfl) t_303 t_26 t_27 (Nat.le_of_ble_eq_true rfl) dX7_init_1 ?_
  refine b_aload_n G dX7_init_4 0 rfl ?_
  refine b_bipush (12) G dX7_init_5 (by decide) ?_
  refine l_newa (nn := 1) (t0 := 1) (at0 := .int) (N := 12) (a0 := (12, .inl (fun _ => 0))) G t_142 rfl (fun _ => rfl) (by decide) (by decide) (Nat.le_of_ble_eq_true rfl) (by rw [hk]; exact (Nat.le_of_ble_eq_true rfl)) (by rw [hk]; exact (Nat.le_of_ble_eq_true rfl)) (by simp only [List.length_cons, List.length_append, List.length_nil, Nat.reduceAdd, Nat.zero_add]) dX7_init_7 ?_
  try simp only [List.append_assoc, List.cons_append, List.nil_append, List.append_nil, List.set_cons_succ, List.set_cons_zero]
  refine l_put (ci := 7) G rfl 0 (by decide) tb_X7 tyX7_ok nmX7 t_304 (Or.inl rfl) (Or.inr rfl) rfl rfl (Nat.le_of_ble_eq_true rfl) dX7_init_9 ?_
  try simp only [List.append_assoc, List.cons_append, List.nil_append, List.append_nil, List.set_cons_succ, List.set_cons_zero]
  refine b_aload_n G dX7_init_12 0 rfl ?_
  refine b_bipush (8) G dX7_init_13 (by decide) ?_
  refine l_newa (nn := 2) (t0 := 1) (at0 := .int) (N := 8) (a0 := (8, .inl (fun _ => 0))) G t_142 rfl (fun _ => rfl) (by decide) (by decide) (Nat.le_of_ble_eq_true rfl) (by rw [hk]; exact (Nat.le_of_ble_eq_true rfl)) (by rw [hk]; exact (Nat.le_of_ble_eq_true rfl)) (by simp only [List.length_cons, List.length_append, List.length_nil, Nat.reduceAdd, Nat.zero_add]) dX7_init_15 ?_
  try simp only [List.append_assoc, List.cons_append, List.nil_append, List.append_nil, List.set_cons_succ, List.set_cons_zero]
  refine l_put (ci := 7) G rfl 1 (by decide) tb_X7 tyX7_ok nmX7 t_307 (Or.inl rfl) (Or.inr rfl) rfl rfl (Nat.le_of_ble_eq_true rfl) dX7_init_17 ?_
  try simp only [List.append_assoc, List.cons_append, List.nil_append, List.append_nil, List.set_cons_succ, List.set_cons_zero]
  refine b_aload_n G dX7_init_20 0 rfl ?_
  refine b_iconst (-1) G dX7_init_21 (by decide) ?_
  refine l_put (ci := 7) G rfl 5 (by decide) tb_X7 tyX7_ok nmX7 t_320 (Or.inl rfl) (Or.inl rfl) rfl rfl (Nat.le_of_ble_eq_true rfl) dX7_init_22 ?_
  try simp only [List.append_assoc, List.cons_append, List.nil_append, List.append_nil, List.set_cons_succ, List.set_cons_zero]
  refine b_aload_n G dX7_init_25 0 rfl ?_
  refine b_iconst (-1) G dX7_init_26 (by decide) ?_
  refine l_put (ci := 7) G rfl 6 (by decide) tb_X7 tyX7_ok nmX7 t_324 (Or.inl rfl) (Or.inl rfl) rfl rfl (Nat.le_of_ble_eq_true rfl) dX7_init_27 ?_
  try simp only [List.append_assoc, List.cons_append, List.nil_append, List.append_nil, List.set_cons_succ, List.set_cons_zero]
  refine b_aload_n G dX7_init_30 0 rfl ?_
  refine b_iconst (-1) G dX7_init_31 (by decide) ?_
  refine l_put (ci := 7) G rfl 7 (by decide) tb_X7 tyX7_ok nmX7 t_326 (Or.inl rfl) (Or.inl rfl) rfl rfl (Nat.le_of_ble_eq_true rfl) dX7_init_32 ?_
  try simp only [List.append_assoc, List.cons_append, List.nil_append, List.append_nil, List.set_cons_succ, List.set_cons_zero]
  refine b_aload_n G dX7_init_35 0 rfl ?_
  refine b_iconst (-1) G dX7_init_36 (by decide) ?_
  refine l_put (ci := 7) G rfl 8 (by decide) tb_X7 tyX7_ok nmX7 t_327 (Or.inl rfl) (Or.inl rfl) rfl rfl (Nat.le_of_ble_eq_true rfl) dX7_init_37 ?_
  try simp only [List.append_assoc, List.cons_append, List.nil_append, List.append_nil, List.set_cons_succ, List.set_cons_zero]
  refine b_aload_n G dX7_init_40 0 rfl ?_
  refine b_iconst (-1) G dX7_init_41 (by decide) ?_
  refine l_put (ci := 7) G rfl 9 (by decide) tb_X7 tyX7_ok nmX7 t_330 (Or.inl rfl) (Or.inl rfl) rfl rfl (Nat.le_of_ble_eq_true rfl) dX7_init_42 ?_
  try simp only [List.append_assoc, List.cons_append, List.nil_append, List.append_nil, List.set_cons_succ, List.set_cons_zero]
  exact b_ret G hk dX7_init_45
abbrev cX8_init : ByteArray := prog_10_method_1_code
def yX8_init : MethodName := ⟨RX8, "<init>", "()V"⟩
theorem nm_X8_init : (yX8_init).cls ≠ "java/lang/invoke/MethodHandle" ∧ (yX8_init).cls ≠ "java/lang/invoke/VarHandle" ∧ (parseMethodDescriptor (yX8_init).desc).map (fun d => d.parameters.length) = some 0 := ⟨by decide +kernel, by decide +kernel, by decide +kernel⟩
theorem dX8_init_0 : dc cX8_init 0 (.aload_n 0) 1 1 := ⟨by decide +kernel, rfl⟩
theorem dX8_init_1 : dc cX8_init 1 (.invokespecial 3) 3 4 := ⟨by decide +kernel, rfl⟩
theorem dX8_init_4 : dc cX8_init 4 (.aload_n 0) 1 5 := ⟨by decide +kernel, rfl⟩
theorem dX8_init_5 : dc cX8_init 5 (.bipush 60) 2 7 := ⟨by decide +kernel, rfl⟩
theorem dX8_init_7 : dc cX8_init 7 (.newarray .int) 2 9 := ⟨by decide +kernel, rfl⟩
theorem dX8_init_9 : dc cX8_init 9 (.putfield 11) 3 12 := ⟨by decide +kernel, rfl⟩
theorem dX8_init_12 : dc cX8_init 12 (.aload_n 0) 1 13 := ⟨by decide +kernel, rfl⟩
theorem dX8_init_13 : dc cX8_init 13 (.bipush 60) 2 15 := ⟨by decide +kernel, rfl⟩
theorem dX8_init_15 : dc cX8_init 15 (.newarray .int) 2 17 := ⟨by decide +kernel, rfl⟩
theorem dX8_init_17 : dc cX8_init 17 (.putfield 15) 3 20 := ⟨by decide +kernel, rfl⟩
theorem dX8_init_20 : dc cX8_init 20 (.aload_n 0) 1 21 := ⟨by decide +kernel, rfl⟩
theorem dX8_init_21 : dc cX8_init 21 (.bipush 60) 2 23 := ⟨by decide +kernel, rfl⟩
theorem dX8_init_23 : dc cX8_init 23 (.newarray .int) 2 25 := ⟨by decide +kernel, rfl⟩
theorem dX8_init_25 : dc cX8_init 25 (.putfield 18) 3 28 := ⟨by decide +kernel, rfl⟩
theorem dX8_init_28 : dc cX8_init 28 (.aload_n 0) 1 29 := ⟨by decide +kernel, rfl⟩
theorem dX8_init_29 : dc cX8_init 29 (.bipush 60) 2 31 := ⟨by decide +kernel, rfl⟩
theorem dX8_init_31 : dc cX8_init 31 (.newarray .int) 2 33 := ⟨by decide +kernel, rfl⟩
theorem dX8_init_33 : dc cX8_init 33 (.putfield 21) 3 36 := ⟨by decide +kernel, rfl⟩
theorem dX8_init_36 : dc cX8_init 36 (.aload_n 0) 1 37 := ⟨by decide +kernel, rfl⟩
theorem dX8_init_37 : dc cX8_init 37 (.bipush 60) 2 39 := ⟨by decide +kernel, rfl⟩
theorem dX8_init_39 : dc cX8_init 39 (.newarray .int) 2 41 := ⟨by decide +kernel, rfl⟩
theorem dX8_init_41 : dc cX8_init 41 (.putfield 24) 3 44 := ⟨by decide +kernel, rfl⟩
theorem dX8_init_44 : dc cX8_init 44 (.return_) 1 45 := ⟨by decide +kernel, rfl⟩
def L_8 (cy : Nat → ClassId) (z i : Nat) : List va_E := .inr (8, [.ref (z + (i + 1)), .ref (z + (i + 2)), .ref (z + (i + 3)), .ref (z + (i + 4)), .ref (z + (i + 5)), .int 0, .int 0, .int 0]) :: .inl (cy 1, 60, .inl (fun _ => 0)) :: .inl (cy 1, 60, .inl (fun _ => 0)) :: .inl (cy 1, 60, .inl (fun _ => 0)) :: .inl (cy 1, 60, .inl (fun _ => 0)) :: .inl (cy 1, 60, .inl (fun _ => 0)) :: []
theorem ln_L_8 {cy : Nat → ClassId} {z i : Nat} : (L_8 cy z i).length = 6 := rfl
set_option maxRecDepth 100000 in
set_option maxHeartbeats 4000000 in
theorem cb_X8 {l : Launch} {cy : Nat → ClassId} {w : Nat × Nat} {D : va_G} {z : Nat} (B : Nat → va_E) (i : Nat) : BC l cy w D z yX8_init cX8_init 1 none none 1 5 300 [.ref (z + i)] (bL B i [.inr (8, [.null, .null, .null, .null, .null, .int 0, .int 0, .int 0])]) (bL B i (L_8 cy z i)) := by
  refine bv_enter true (by decide +kernel) (fun _ => rfl) (Nat.le_of_ble_eq_true rfl) ?_
  intro x hl hD hz hk G
  subst hl hD hz
  refine b_aload_n G dX8_init_0 0 rfl ?_
  refine b_obj G (Nat.le_of_ble_eq_true rfl) t_268 t_26 t_27 (Nat.le_of_ble_eq_true rfl) dX8_init_1 ?_
  refine b_aload_n G dX8_init_4 0 rfl ?_
  refine b_bipush (60) G dX8_init_5 (by decide) ?_
  refine l_newa (nn := 1) (t0 := 1) (at0 := .int) (N := 60) (a0 := (60, .inl (fun _ => 0))) G t_142 rfl (fun _ => rfl) (by decide) (by decide) (Nat.le_of_ble_eq_true rfl) (by rw [hk]; exact (Nat.le_of_ble_eq_true rfl)) (by rw [hk]; exact (Nat.le_of_ble_eq_true rfl)) (by simp only [List.length_cons, List.length_append, List.length_nil, Nat.reduceAdd, Nat.zero_add]) dX8_init_7 ?_
  try simp only [List.append_assoc, List.cons_append, List.nil_append, List.append_nil, List.set_cons_succ, List.set_cons_zero]
  refine l_put (ci := 8) G rfl 0 (by decide) tb_X8 tyX8_ok nmX8 t_269 (Or.inl rfl) (Or.inr rfl) rfl rfl (Nat.le_of_ble_eq_true rfl) dX8_init_9 ?_
  try simp only [List.append_assoc, List.cons_append, List.nil_append, List.append_nil, List.set_cons_succ, List.set_cons_zero]
  refine b_aload_n G dX8_init_12 0 rfl ?_
  refine b_bipush (60) G dX8_init_13 (by decide) ?_
  refine l_newa (nn := 2) (t0 := 1) (at0 := .int) (N := 60) (a0 := (60, .inl (fun _ => 0))) G t_142 rfl (fun _ => rfl) (by decide) (by decide) (Nat.le_of_ble_eq_true rfl) (by rw [hk]; exact (Nat.le_of_ble_eq_true rfl)) (by rw [hk]; exact (Nat.le_of_ble_eq_true rfl)) (by simp only [List.length_cons, List.length_append, List.length_nil, Nat.reduceAdd, Nat.zero_add]) dX8_init_15 ?_
  try simp only [List.append_assoc, List.cons_append, List.nil_append, List.append_nil, List.set_cons_succ, List.set_cons_zero]
  refine l_put (ci := 8) G rfl 1 (by decide) tb_X8 tyX8_ok nmX8 t_270 (Or.inl rfl) (Or.inr rfl) rfl rfl (Nat.le_of_ble_eq_true rfl) dX8_init_17 ?_
  try simp only [List.append_assoc, List.cons_append, List.nil_append, List.append_nil, List.set_cons_succ, List.set_cons_zero]
  refine b_aload_n G dX8_init_20 0 rfl ?_
  refine b_bipush (60) G dX8_init_21 (by decide) ?_
  refine l_newa (nn := 3) (t0 := 1) (at0 := .int) (N := 60) (a0 := (60, .inl (fun _ => 0))) G t_142 rfl (fun _ => rfl) (by decide) (by decide) (Nat.le_of_ble_eq_true rfl) (by rw [hk]; exact (Nat.le_of_ble_eq_true rfl)) (by rw [hk]; exact (Nat.le_of_ble_eq_true rfl)) (by simp only [List.length_cons, List.length_append, List.length_nil, Nat.reduceAdd, Nat.zero_add]) dX8_init_23 ?_
  try simp only [List.append_assoc, List.cons_append, List.nil_append, List.append_nil, List.set_cons_succ, List.set_cons_zero]
  refine l_put (ci := 8) G rfl 2 (by decide) tb_X8 tyX8_ok nmX8 t_271 (Or.inl rfl) (Or.inr rfl) rfl rfl (Nat.le_of_ble_eq_true rfl) dX8_init_25 ?_
  try simp only [List.append_assoc, List.cons_append, List.nil_append, List.append_nil, List.set_cons_succ, List.set_cons_zero]
  refine b_aload_n G dX8_init_28 0 rfl ?_
  refine b_bipush (60) G dX8_init_29 (by decide) ?_
  refine l_newa (nn := 4) (t0 := 1) (at0 := .int) (N := 60) (a0 := (60, .inl (fun _ => 0))) G t_142 rfl (fun _ => rfl) (by decide) (by decide) (Nat.le_of_ble_eq_true rfl) (by rw [hk]; exact (Nat.le_of_ble_eq_true rfl)) (by rw [hk]; exact (Nat.le_of_ble_eq_true rfl)) (by simp only [List.length_cons, List.length_append, List.length_nil, Nat.reduceAdd, Nat.zero_add]) dX8_init_31 ?_
  try simp only [List.append_assoc, List.cons_append, List.nil_append, List.append_nil, List.set_cons_succ, List.set_cons_zero]
  refine l_put (ci := 8) G rfl 3 (by decide) tb_X8 tyX8_ok nmX8 t_272 (Or.inl rfl) (Or.inr rfl) rfl rfl (Nat.le_of_ble_eq_true rfl) dX8_init_33 ?_
  try simp only [List.append_assoc, List.cons_append, List.nil_append, List.append_nil, List.set_cons_succ, List.set_cons_zero]
  refine b_aload_n G dX8_init_36 0 rfl ?_
  refine b_bipush (60) G dX8_init_37 (by decide) ?_
  refine l_newa (nn := 5) (t0 := 1) (at0 := .int) (N := 60) (a0 := (60, .inl (fun _ => 0))) G t_142 rfl (fun _ => rfl) (by decide) (by decide) (Nat.le_of_ble_eq_true rfl) (by rw [hk]; exact (Nat.le_of_ble_eq_true rfl)) (by rw [hk]; exact (Nat.le_of_ble_eq_true rfl)) (by simp only [List.length_cons, List.length_append, List.length_nil, Nat.reduceAdd, Nat.zero_add]) dX8_init_39 ?_
  try simp only [List.append_assoc, List.cons_append, List.nil_append, List.append_nil, List.set_cons_succ, List.set_cons_zero]
  refine l_put (ci := 8) G rfl 4 (by decide) tb_X8 tyX8_ok nmX8 t_273 (Or.inl rfl) (Or.inr rfl) rfl rfl (Nat.le_of_ble_eq_true rfl) dX8_init_41 ?_
  try simp only [List.append_assoc, List.cons_append, List.nil_append, List.append_nil, List.set_cons_succ, List.set_cons_zero]
  exact b_ret G hk dX8_init_44
abbrev cX10_init : ByteArray := prog_12_method_1_code
def yX10_init : MethodName := ⟨RX10, "<init>", "()V"⟩
theorem nm_X10_init : (yX10_init).cls ≠ "java/lang/invoke/MethodHandle" ∧ (yX10_init).cls ≠ "java/lang/invoke/VarHandle" ∧ (parseMethodDescriptor (yX10_init).desc).map (fun d => d.parameters.length) = some 0 := ⟨by decide +kernel, by decide +kernel, by decide +kernel⟩
theorem dX10_init_0 : dc cX10_init 0 (.aload_n 0) 1 1 := ⟨by decide +kernel, rfl⟩
theorem dX10_init_1 : dc cX10_init 1 (.invokespecial 3) 3 4 := ⟨by decide +kernel, rfl⟩
theorem dX10_init_4 : dc cX10_init 4 (.aload_n 0) 1 5 := ⟨by decide +kernel, rfl⟩
theorem dX10_init_5 : dc cX10_init 5 (.bipush 60) 2 7 := ⟨by decide +kernel, rfl⟩
theorem dX10_init_7 : dc cX10_init 7 (.newarray .long) 2 9 := ⟨by decide +kernel, rfl⟩
theorem dX10_init_9 : dc cX10_init 9 (.putfield 9) 3 12 := ⟨by decide +kernel, rfl⟩
theorem dX10_init_12 : dc cX10_init 12 (.aload_n 0) 1 13 := ⟨by decide +kernel, rfl⟩
theorem dX10_init_13 : dc cX10_init 13 (.iconst (-1)) 1 14 := ⟨by decide +kernel, rfl⟩
theorem dX10_init_14 : dc cX10_init 14 (.putfield 15) 3 17 := ⟨by decide +kernel, rfl⟩
theorem dX10_init_17 : dc cX10_init 17 (.return_) 1 18 := ⟨by decide +kernel, rfl⟩
def L_10 (cy : Nat → ClassId) (z i : Nat) : List va_E := .inr (9, [.ref (z + (i + 1)), .int 0, .int (-1)]) :: .inl (cy 2, 60, .inr (.inl (fun _ => 0))) :: []
theorem ln_L_10 {cy : Nat → ClassId} {z i : Nat} : (L_10 cy z i).length = 2 := rfl
set_option maxRecDepth 100000 in
set_option maxHeartbeats 4000000 in
theorem cb_X10 {l : Launch} {cy : Nat → ClassId} {w : Nat × Nat} {D : va_G} {z : Nat} (B : Nat → va_E) (i : Nat) : BC l cy w D z yX10_init cX10_init 1 none none 1 1 60 [.ref (z + i)] (bL B i [.inr (9, [.null, .int 0, .int 0])]) (bL B i (L_10 cy z i)) := by
  refine bv_enter true (by decide +kernel) (fun _ => rfl) (Nat.le_of_ble_eq_true rfl) ?_
  intro x hl hD hz hk G
  subst hl hD hz
  refine b_aload_n G dX10_init_0 0 rfl ?_
  refine b_obj G (Nat.le_of_ble_eq_true rfl) t_447 t_26 t_27 (Nat.le_of_ble_eq_true rfl) dX10_init_1 ?_
  refine b_aload_n G dX10_init_4 0 rfl ?_
  refine b_bipush (60) G dX10_init_5 (by decide) ?_
  refine l_newa (nn := 1) (t0 := 2) (at0 := .long) (N := 60) (a0 := (60, .inr (.inl (fun _ => 0)))) G t_143 rfl (fun _ => rfl) (by decide) (by decide) (Nat.le_of_ble_eq_true rfl) (by rw [hk]; exact (Nat.le_of_ble_eq_true rfl)) (by rw [hk]; exact (Nat.le_of_ble_eq_true rfl)) (by simp only [List.length_cons, List.length_append, List.length_nil, Nat.reduceAdd, Nat.zero_add]) dX10_init_7 ?_
  try simp only [List.append_assoc, List.cons_append, List.nil_append, List.append_nil, List.set_cons_succ, List.set_cons_zero]
  refine l_put (ci := 9) G rfl 0 (by decide) tb_X10 tyX10_ok nmX10 t_448 (Or.inl rfl) (Or.inr rfl) rfl rfl (Nat.le_of_ble_eq_true rfl) dX10_init_9 ?_
  try simp only [List.append_assoc, List.cons_append, List.nil_append, List.append_nil, List.set_cons_succ, List.set_cons_zero]
  refine b_aload_n G dX10_init_12 0 rfl ?_
  refine b_iconst (-1) G dX10_init_13 (by decide) ?_
  refine l_put (ci := 9) G rfl 2 (by decide) tb_X10 tyX10_ok nmX10 t_449 (Or.inl rfl) (Or.inl rfl) rfl rfl (Nat.le_of_ble_eq_true rfl) dX10_init_14 ?_
  try simp only [List.append_assoc, List.cons_append, List.nil_append, List.append_nil, List.set_cons_succ, List.set_cons_zero]
  exact b_ret G hk dX10_init_17
abbrev cX4_init : ByteArray := prog_6_method_1_code
def yX4_init : MethodName := ⟨RX4, "<init>", "()V"⟩
theorem nm_X4_init : (yX4_init).cls ≠ "java/lang/invoke/MethodHandle" ∧ (yX4_init).cls ≠ "java/lang/invoke/VarHandle" ∧ (parseMethodDescriptor (yX4_init).desc).map (fun d => d.parameters.length) = some 0 := ⟨by decide +kernel, by decide +kernel, by decide +kernel⟩
theorem dX4_init_0 : dc cX4_init 0 (.aload_n 0) 1 1 := ⟨by decide +kernel, rfl⟩
theorem dX4_init_1 : dc cX4_init 1 (.invokespecial 3) 3 4 := ⟨by decide +kernel, rfl⟩
theorem dX4_init_4 : dc cX4_init 4 (.aload_n 0) 1 5 := ⟨by decide +kernel, rfl⟩
theorem dX4_init_5 : dc cX4_init 5 (.bipush 60) 2 7 := ⟨by decide +kernel, rfl⟩
theorem dX4_init_7 : dc cX4_init 7 (.newarray .int) 2 9 := ⟨by decide +kernel, rfl⟩
theorem dX4_init_9 : dc cX4_init 9 (.putfield 11) 3 12 := ⟨by decide +kernel, rfl⟩
theorem dX4_init_12 : dc cX4_init 12 (.return_) 1 13 := ⟨by decide +kernel, rfl⟩
def L_4 (cy : Nat → ClassId) (z i : Nat) : List va_E := .inr (4, [.ref (z + (i + 1)), .int 0, .int 0, .int 0, .int 0, .int 0, .int 0, .int 0]) :: .inl (cy 1, 60, .inl (fun _ => 0)) :: []
theorem ln_L_4 {cy : Nat → ClassId} {z i : Nat} : (L_4 cy z i).length = 2 := rfl
set_option maxRecDepth 100000 in
set_option maxHeartbeats 4000000 in
theorem cb_X4 {l : Launch} {cy : Nat → ClassId} {w : Nat × Nat} {D : va_G} {z : Nat} (B : Nat → va_E) (i : Nat) : BC l cy w D z yX4_init cX4_init 1 none none 1 1 60 [.ref (z + i)] (bL B i [.inr (4, [.null, .int 0, .int 0, .int 0, .int 0, .int 0, .int 0, .int 0])]) (bL B i (L_4 cy z i)) := by
  refine bv_enter true (by decide +kernel) (fun _ => rfl) (Nat.le_of_ble_eq_true rfl) ?_
  intro x hl hD hz hk G
  subst hl hD hz
  refine b_aload_n G dX4_init_0 0 rfl ?_
  refine b_obj G (Nat.le_of_ble_eq_true rfl) t_174 t_26 t_27 (Nat.le_of_ble_eq_true rfl) dX4_init_1 ?_
  refine b_aload_n G dX4_init_4 0 rfl ?_
  refine b_bipush (60) G dX4_init_5 (by decide) ?_
  refine l_newa (nn := 1) (t0 := 1) (at0 := .int) (N := 60) (a0 := (60, .inl (fun _ => 0))) G t_142 rfl (fun _ => rfl) (by decide) (by decide) (Nat.le_of_ble_eq_true rfl) (by rw [hk]; exact (Nat.le_of_ble_eq_true rfl)) (by rw [hk]; exact (Nat.le_of_ble_eq_true rfl)) (by simp only [List.length_cons, List.length_append, List.length_nil, Nat.reduceAdd, Nat.zero_add]) dX4_init_7 ?_
  try simp only [List.append_assoc, List.cons_append, List.nil_append, List.append_nil, List.set_cons_succ, List.set_cons_zero]
  refine l_put (ci := 4) G rfl 0 (by decide) tb_X4 tyX4_ok nmX4 t_175 (Or.inl rfl) (Or.inr rfl) rfl rfl (Nat.le_of_ble_eq_true rfl) dX4_init_9 ?_
  try simp only [List.append_assoc, List.cons_append, List.nil_append, List.append_nil, List.set_cons_succ, List.set_cons_zero]
  exact b_ret G hk dX4_init_12
abbrev cX6_init : ByteArray := prog_8_method_1_code
def yX6_init : MethodName := ⟨RX6, "<init>", "()V"⟩
theorem nm_X6_init : (yX6_init).cls ≠ "java/lang/invoke/MethodHandle" ∧ (yX6_init).cls ≠ "java/lang/invoke/VarHandle" ∧ (parseMethodDescriptor (yX6_init).desc).map (fun d => d.parameters.length) = some 0 := ⟨by decide +kernel, by decide +kernel, by decide +kernel⟩
theorem dX6_init_0 : dc cX6_init 0 (.aload_n 0) 1 1 := ⟨by decide +kernel, rfl⟩
theorem dX6_init_1 : dc cX6_init 1 (.invokespecial 3) 3 4 := ⟨by decide +kernel, rfl⟩
theorem dX6_init_4 : dc cX6_init 4 (.aload_n 0) 1 5 := ⟨by decide +kernel, rfl⟩
theorem dX6_init_5 : dc cX6_init 5 (.bipush 8) 2 7 := ⟨by decide +kernel, rfl⟩
theorem dX6_init_7 : dc cX6_init 7 (.newarray .int) 2 9 := ⟨by decide +kernel, rfl⟩
theorem dX6_init_9 : dc cX6_init 9 (.putfield 9) 3 12 := ⟨by decide +kernel, rfl⟩
theorem dX6_init_12 : dc cX6_init 12 (.aload_n 0) 1 13 := ⟨by decide +kernel, rfl⟩
theorem dX6_init_13 : dc cX6_init 13 (.bipush 8) 2 15 := ⟨by decide +kernel, rfl⟩
theorem dX6_init_15 : dc cX6_init 15 (.newarray .int) 2 17 := ⟨by decide +kernel, rfl⟩
theorem dX6_init_17 : dc cX6_init 17 (.putfield 15) 3 20 := ⟨by decide +kernel, rfl⟩
theorem dX6_init_20 : dc cX6_init 20 (.aload_n 0) 1 21 := ⟨by decide +kernel, rfl⟩
theorem dX6_init_21 : dc cX6_init 21 (.bipush 8) 2 23 := ⟨by decide +kernel, rfl⟩
theorem dX6_init_23 : dc cX6_init 23 (.newarray .long) 2 25 := ⟨by decide +kernel, rfl⟩
theorem dX6_init_25 : dc cX6_init 25 (.putfield 18) 3 28 := ⟨by decide +kernel, rfl⟩
theorem dX6_init_28 : dc cX6_init 28 (.aload_n 0) 1 29 := ⟨by decide +kernel, rfl⟩
theorem dX6_init_29 : dc cX6_init 29 (.bipush 8) 2 31 := ⟨by decide +kernel, rfl⟩
theorem dX6_init_31 : dc cX6_init 31 (.newarray .long) 2 33 := ⟨by decide +kernel, rfl⟩
theorem dX6_init_33 : dc cX6_init 33 (.putfield 22) 3 36 := ⟨by decide +kernel, rfl⟩
theorem dX6_init_36 : dc cX6_init 36 (.return_) 1 37 := ⟨by decide +kernel, rfl⟩
def L_6 (cy : Nat → ClassId) (z i : Nat) : List va_E := .inr (6, [.ref (z + (i + 1)), .ref (z + (i + 2)), .ref (z + (i + 3)), .ref (z + (i + 4)), .int 0, .int 0]) :: .inl (cy 1, 8, .inl (fun _ => 0)) :: .inl (cy 1, 8, .inl (fun _ => 0)) :: .inl (cy 2, 8, .inr (.inl (fun _ => 0))) :: .inl (cy 2, 8, .inr (.inl (fun _ => 0))) :: []
theorem ln_L_6 {cy : Nat → ClassId} {z i : Nat} : (L_6 cy z i).length = 5 := rfl
set_option maxRecDepth 100000 in
set_option maxHeartbeats 4000000 in
theorem cb_X6 {l : Launch} {cy : Nat → ClassId} {w : Nat × Nat} {D : va_G} {z : Nat} (B : Nat → va_E) (i : Nat) : BC l cy w D z yX6_init cX6_init 1 none none 1 4 32 [.ref (z + i)] (bL B i [.inr (6, [.null, .null, .null, .null, .int 0, .int 0])]) (bL B i (L_6 cy z i)) := by
  refine bv_enter true (by decide +kernel) (fun _ => rfl) (Nat.le_of_ble_eq_true rfl) ?_
  intro x hl hD hz hk G
  subst hl hD hz
  refine b_aload_n G dX6_init_0 0 rfl ?_
  refine b_obj G (Nat.le_of_ble_eq_true rfl) t_198 t_26 t_27 (Nat.le_of_ble_eq_true rfl) dX6_init_1 ?_
  refine b_aload_n G dX6_init_4 0 rfl ?_
  refine b_bipush (8) G dX6_init_5 (by decide) ?_
  refine l_newa (nn := 1) (t0 := 1) (at0 := .int) (N := 8) (a0 := (8, .inl (fun _ => 0))) G t_142 rfl (fun _ => rfl) (by decide) (by decide) (Nat.le_of_ble_eq_true rfl) (by rw [hk]; exact (Nat.le_of_ble_eq_true rfl)) (by rw [hk]; exact (Nat.le_of_ble_eq_true rfl)) (by simp only [List.length_cons, List.length_append, List.length_nil, Nat.reduceAdd, Nat.zero_add]) dX6_init_7 ?_
  try simp only [List.append_assoc, List.cons_append, List.nil_append, List.append_nil, List.set_cons_succ, List.set_cons_zero]
  refine l_put (ci := 6) G rfl 0 (by decide) tb_X6 tyX6_ok nmX6 t_199 (Or.inl rfl) (Or.inr rfl) rfl rfl (Nat.le_of_ble_eq_true rfl) dX6_init_9 ?_
  try simp only [List.append_assoc, List.cons_append, List.nil_append, List.append_nil, List.set_cons_succ, List.set_cons_zero]
  refine b_aload_n G dX6_init_12 0 rfl ?_
  refine b_bipush (8) G dX6_init_13 (by decide) ?_
  refine l_newa (nn := 2) (t0 := 1) (at0 := .int) (N := 8) (a0 := (8, .inl (fun _ => 0))) G t_142 rfl (fun _ => rfl) (by decide) (by decide) (Nat.le_of_ble_eq_true rfl) (by rw [hk]; exact (Nat.le_of_ble_eq_true rfl)) (by rw [hk]; exact (Nat.le_of_ble_eq_true rfl)) (by simp only [List.length_cons, List.length_append, List.length_nil, Nat.reduceAdd, Nat.zero_add]) dX6_init_15 ?_
  try simp only [List.append_assoc, List.cons_append, List.nil_append, List.append_nil, List.set_cons_succ, List.set_cons_zero]
  refine l_put (ci := 6) G rfl 1 (by decide) tb_X6 tyX6_ok nmX6 t_200 (Or.inl rfl) (Or.inr rfl) rfl rfl (Nat.le_of_ble_eq_true rfl) dX6_init_17 ?_
  try simp only [List.append_assoc, List.cons_append, List.nil_append, List.append_nil, List.set_cons_succ, List.set_cons_zero]
  refine b_aload_n G dX6_init_20 0 rfl ?_
  refine b_bipush (8) G dX6_init_21 (by decide) ?_
  refine l_newa (nn := 3) (t0 := 2) (at0 := .long) (N := 8) (a0 := (8, .inr (.inl (fun _ => 0)))) G t_143 rfl (fun _ => rfl) (by decide) (by decide) (Nat.le_of_ble_eq_true rfl) (by rw [hk]; exact (Nat.le_of_ble_eq_true rfl)) (by rw [hk]; exact (Nat.le_of_ble_eq_true rfl)) (by simp only [List.length_cons, List.length_append, List.length_nil, Nat.reduceAdd, Nat.zero_add]) dX6_init_23 ?_
  try simp only [List.append_assoc, List.cons_append, List.nil_append, List.append_nil, List.set_cons_succ, List.set_cons_zero]
  refine l_put (ci := 6) G rfl 2 (by decide) tb_X6 tyX6_ok nmX6 t_201 (Or.inl rfl) (Or.inl rfl) rfl rfl (Nat.le_of_ble_eq_true rfl) dX6_init_25 ?_
  try simp only [List.append_assoc, List.cons_append, List.nil_append, List.append_nil, List.set_cons_succ, List.set_cons_zero]
  refine b_aload_n G dX6_init_28 0 rfl ?_
  refine b_bipush (8) G dX6_init_29 (by decide) ?_
  refine l_newa (nn := 4) (t0 := 2) (at0 := .long) (N := 8) (a0 := (8, .inr (.inl (fun _ => 0)))) G t_143 rfl (fun _ => rfl) (by decide) (by decide) (Nat.le_of_ble_eq_true rfl) (by rw [hk]; exact (Nat.le_of_ble_eq_true rfl)) (by rw [hk]; exact (Nat.le_of_ble_eq_true rfl)) (by simp only [List.length_cons, List.length_append, List.length_nil, Nat.reduceAdd, Nat.zero_add]) dX6_init_31 ?_
  try simp only [List.append_assoc, List.cons_append, List.nil_append, List.append_nil, List.set_cons_succ, List.set_cons_zero]
  refine l_put (ci := 6) G rfl 3 (by decide) tb_X6 tyX6_ok nmX6 t_202 (Or.inl rfl) (Or.inl rfl) rfl rfl (Nat.le_of_ble_eq_true rfl) dX6_init_33 ?_
  try simp only [List.append_assoc, List.cons_append, List.nil_append, List.append_nil, List.set_cons_succ, List.set_cons_zero]
  exact b_ret G hk dX6_init_36
abbrev cX5_init : ByteArray := prog_7_method_1_code
def yX5_init : MethodName := ⟨RX5, "<init>", "()V"⟩
theorem nm_X5_init : (yX5_init).cls ≠ "java/lang/invoke/MethodHandle" ∧ (yX5_init).cls ≠ "java/lang/invoke/VarHandle" ∧ (parseMethodDescriptor (yX5_init).desc).map (fun d => d.parameters.length) = some 0 := ⟨by decide +kernel, by decide +kernel, by decide +kernel⟩
theorem dX5_init_0 : dc cX5_init 0 (.aload_n 0) 1 1 := ⟨by decide +kernel, rfl⟩
theorem dX5_init_1 : dc cX5_init 1 (.invokespecial 3) 3 4 := ⟨by decide +kernel, rfl⟩
theorem dX5_init_4 : dc cX5_init 4 (.aload_n 0) 1 5 := ⟨by decide +kernel, rfl⟩
theorem dX5_init_5 : dc cX5_init 5 (.bipush 8) 2 7 := ⟨by decide +kernel, rfl⟩
theorem dX5_init_7 : dc cX5_init 7 (.newarray .int) 2 9 := ⟨by decide +kernel, rfl⟩
theorem dX5_init_9 : dc cX5_init 9 (.putfield 9) 3 12 := ⟨by decide +kernel, rfl⟩
theorem dX5_init_12 : dc cX5_init 12 (.aload_n 0) 1 13 := ⟨by decide +kernel, rfl⟩
theorem dX5_init_13 : dc cX5_init 13 (.bipush 8) 2 15 := ⟨by decide +kernel, rfl⟩
theorem dX5_init_15 : dc cX5_init 15 (.newarray .int) 2 17 := ⟨by decide +kernel, rfl⟩
theorem dX5_init_17 : dc cX5_init 17 (.putfield 15) 3 20 := ⟨by decide +kernel, rfl⟩
theorem dX5_init_20 : dc cX5_init 20 (.return_) 1 21 := ⟨by decide +kernel, rfl⟩
def L_5 (cy : Nat → ClassId) (z i : Nat) : List va_E := .inr (5, [.ref (z + (i + 1)), .ref (z + (i + 2))]) :: .inl (cy 1, 8, .inl (fun _ => 0)) :: .inl (cy 1, 8, .inl (fun _ => 0)) :: []
theorem ln_L_5 {cy : Nat → ClassId} {z i : Nat} : (L_5 cy z i).length = 3 := rfl
set_option maxRecDepth 100000 in
set_option maxHeartbeats 4000000 in
theorem cb_X5 {l : Launch} {cy : Nat → ClassId} {w : Nat × Nat} {D : va_G} {z : Nat} (B : Nat → va_E) (i : Nat) : BC l cy w D z yX5_init cX5_init 1 none none 1 2 16 [.ref (z + i)] (bL B i [.inr (5, [.null, .null])]) (bL B i (L_5 cy z i)) := by
  refine bv_enter true (by decide +kernel) (fun _ => rfl) (Nat.le_of_ble_eq_true rfl) ?_
  intro x hl hD hz hk G
  subst hl hD hz
  refine b_aload_n G dX5_init_0 0 rfl ?_
  refine b_obj G (Nat.le_of_ble_eq_true rfl) t_225 t_26 t_27 (Nat.le_of_ble_eq_true rfl) dX5_init_1 ?_
  refine b_aload_n G dX5_init_4 0 rfl ?_
  refine b_bipush (8) G dX5_init_5 (by decide) ?_
  refine l_newa (nn := 1) (t0 := 1) (at0 := .int) (N := 8) (a0 := (8, .inl (fun _ => 0))) G t_142 rfl (fun _ => rfl) (by decide) (by decide) (Nat.le_of_ble_eq_true rfl) (by rw [hk]; exact (Nat.le_of_ble_eq_true rfl)) (by rw [hk]; exact (Nat.le_of_ble_eq_true rfl)) (by simp only [List.length_cons, List.length_append, List.length_nil, Nat.reduceAdd, Nat.zero_add]) dX5_init_7 ?_
  try simp only [List.append_assoc, List.cons_append, List.nil_append, List.append_nil, List.set_cons_succ, List.set_cons_zero]
  refine l_put (ci := 5) G rfl 0 (by decide) tb_X5 tyX5_ok nmX5 t_226 (Or.inl rfl) (Or.inr rfl) rfl rfl (Nat.le_of_ble_eq_true rfl) dX5_init_9 ?_
  try simp only [List.append_assoc, List.cons_append, List.nil_append, List.append_nil, List.set_cons_succ, List.set_cons_zero]
  refine b_aload_n G dX5_init_12 0 rfl ?_
  refine b_bipush (8) G dX5_init_13 (by decide) ?_
  refine l_newa (nn := 2) (t0 := 1) (at0 := .int) (N := 8) (a0 := (8, .inl (fun _ => 0))) G t_142 rfl (fun _ => rfl) (by decide) (by decide) (Nat.le_of_ble_eq_true rfl) (by rw [hk]; exact (Nat.le_of_ble_eq_true rfl)) (by rw [hk]; exact (Nat.le_of_ble_eq_true rfl)) (by simp only [List.length_cons, List.length_append, List.length_nil, Nat.reduceAdd, Nat.zero_add]) dX5_init_15 ?_
  try simp only [List.append_assoc, List.cons_append, List.nil_append, List.append_nil, List.set_cons_succ, List.set_cons_zero]
  refine l_put (ci := 5) G rfl 1 (by decide) tb_X5 tyX5_ok nmX5 t_228 (Or.inl rfl) (Or.inr rfl) rfl rfl (Nat.le_of_ble_eq_true rfl) dX5_init_17 ?_
  try simp only [List.append_assoc, List.cons_append, List.nil_append, List.append_nil, List.set_cons_succ, List.set_cons_zero]
  exact b_ret G hk dX5_init_20
