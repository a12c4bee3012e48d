abbrev cX11_init : ByteArray := prog_1_method_1_code
def yX11_init : MethodName := ⟨RX11, "<init>", "()V"⟩
theorem nm_X11_init : (yX11_init).cls ≠ "java/lang/invoke/MethodHandle" ∧ (yX11_init).cls ≠ "java/lang/invoke/VarHandle" ∧ (parseMethodDescriptor (yX11_init).desc).map (fun d => d.parameters.length) = some 0 := ⟨by decide +kernel, by decide +kernel, by decide +kernel⟩
theorem dX11_init_0 : dc cX11_init 0 (.aload_n 0) 1 1 := ⟨by decide +kernel, rfl⟩
theorem dX11_init_1 : dc cX11_init 1 (.invokespecial 1) 3 4 := ⟨by decide +kernel, rfl⟩
theorem dX11_init_4 : dc cX11_init 4 (.aload_n 0) 1 5 := ⟨by decide +kernel, rfl⟩
theorem dX11_init_5 : dc cX11_init 5 (.iconst 4) 1 6 := ⟨by decide +kernel, rfl⟩
theorem dX11_init_6 : dc cX11_init 6 (.anewarray 9) 3 9 := ⟨by decide +kernel, rfl⟩
theorem dX11_init_9 : dc cX11_init 9 (.putfield 11) 3 12 := ⟨by decide +kernel, rfl⟩
theorem dX11_init_12 : dc cX11_init 12 (.aload_n 0) 1 13 := ⟨by decide +kernel, rfl⟩
theorem dX11_init_13 : dc cX11_init 13 (.sipush 900) 3 16 := ⟨by decide +kernel, rfl⟩
theorem dX11_init_16 : dc cX11_init 16 (.newarray .byte) 2 18 := ⟨by decide +kernel, rfl⟩
theorem dX11_init_18 : dc cX11_init 18 (.putfield 15) 3 21 := ⟨by decide +kernel, rfl⟩
theorem dX11_init_21 : dc cX11_init 21 (.aload_n 0) 1 22 := ⟨by decide +kernel, rfl⟩
theorem dX11_init_22 : dc cX11_init 22 (.iconst 3) 1 23 := ⟨by decide +kernel, rfl⟩
theorem dX11_init_23 : dc cX11_init 23 (.anewarray 19) 3 26 := ⟨by decide +kernel, rfl⟩
theorem dX11_init_26 : dc cX11_init 26 (.putfield 21) 3 29 := ⟨by decide +kernel, rfl⟩
theorem dX11_init_29 : dc cX11_init 29 (.aload_n 0) 1 30 := ⟨by decide +kernel, rfl⟩
theorem dX11_init_30 : dc cX11_init 30 (.iconst 5) 1 31 := ⟨by decide +kernel, rfl⟩
theorem dX11_init_31 : dc cX11_init 31 (.newarray .int) 2 33 := ⟨by decide +kernel, rfl⟩
theorem dX11_init_33 : dc cX11_init 33 (.putfield 25) 3 36 := ⟨by decide +kernel, rfl⟩
theorem dX11_init_36 : dc cX11_init 36 (.aload_n 0) 1 37 := ⟨by decide +kernel, rfl⟩
theorem dX11_init_37 : dc cX11_init 37 (.new 29) 3 40 := ⟨by decide +kernel, rfl⟩
theorem dX11_init_40 : dc cX11_init 40 (.dup) 1 41 := ⟨by decide +kernel, rfl⟩
theorem dX11_init_41 : dc cX11_init 41 (.invokespecial 31) 3 44 := ⟨by decide +kernel, rfl⟩
theorem dX11_init_44 : dc cX11_init 44 (.putfield 32) 3 47 := ⟨by decide +kernel, rfl⟩
theorem dX11_init_47 : dc cX11_init 47 (.aload_n 0) 1 48 := ⟨by decide +kernel, rfl⟩
theorem dX11_init_48 : dc cX11_init 48 (.new 36) 3 51 := ⟨by decide +kernel, rfl⟩
theorem dX11_init_51 : dc cX11_init 51 (.dup) 1 52 := ⟨by decide +kernel, rfl⟩
theorem dX11_init_52 : dc cX11_init 52 (.invokespecial 38) 3 55 := ⟨by decide +kernel, rfl⟩
theorem dX11_init_55 : dc cX11_init 55 (.putfield 39) 3 58 := ⟨by decide +kernel, rfl⟩
theorem dX11_init_58 : dc cX11_init 58 (.aload_n 0) 1 59 := ⟨by decide +kernel, rfl⟩
theorem dX11_init_59 : dc cX11_init 59 (.new 43) 3 62 := ⟨by decide +kernel, rfl⟩
theorem dX11_init_62 : dc cX11_init 62 (.dup) 1 63 := ⟨by decide +kernel, rfl⟩
theorem dX11_init_63 : dc cX11_init 63 (.invokespecial 45) 3 66 := ⟨by decide +kernel, rfl⟩
theorem dX11_init_66 : dc cX11_init 66 (.putfield 46) 3 69 := ⟨by decide +kernel, rfl⟩
theorem dX11_init_69 : dc cX11_init 69 (.aload_n 0) 1 70 := ⟨by decide +kernel, rfl⟩
theorem dX11_init_70 : dc cX11_init 70 (.new 50) 3 73 := ⟨by decide +kernel, rfl⟩
theorem dX11_init_73 : dc cX11_init 73 (.dup) 1 74 := ⟨by decide +kernel, rfl⟩
theorem dX11_init_74 : dc cX11_init 74 (.invokespecial 52) 3 77 := ⟨by decide +kernel, rfl⟩
theorem dX11_init_77 : dc cX11_init 77 (.putfield 53) 3 80 := ⟨by decide +kernel, rfl⟩
theorem dX11_init_80 : dc cX11_init 80 (.aload_n 0) 1 81 := ⟨by decide +kernel, rfl⟩
theorem dX11_init_81 : dc cX11_init 81 (.new 57) 3 84 := ⟨by decide +kernel, rfl⟩
theorem dX11_init_84 : dc cX11_init 84 (.dup) 1 85 := ⟨by decide +kernel, rfl⟩
theorem dX11_init_85 : dc cX11_init 85 (.invokespecial 59) 3 88 := ⟨by decide +kernel, rfl⟩
theorem dX11_init_88 : dc cX11_init 88 (.putfield 60) 3 91 := ⟨by decide +kernel, rfl⟩
theorem dX11_init_91 : dc cX11_init 91 (.aload_n 0) 1 92 := ⟨by decide +kernel, rfl⟩
theorem dX11_init_92 : dc cX11_init 92 (.new 64) 3 95 := ⟨by decide +kernel, rfl⟩
theorem dX11_init_95 : dc cX11_init 95 (.dup) 1 96 := ⟨by decide +kernel, rfl⟩
theorem dX11_init_96 : dc cX11_init 96 (.invokespecial 66) 3 99 := ⟨by decide +kernel, rfl⟩
theorem dX11_init_99 : dc cX11_init 99 (.putfield 67) 3 102 := ⟨by decide +kernel, rfl⟩
theorem dX11_init_102 : dc cX11_init 102 (.aload_n 0) 1 103 := ⟨by decide +kernel, rfl⟩
theorem dX11_init_103 : dc cX11_init 103 (.new 19) 3 106 := ⟨by decide +kernel, rfl⟩
theorem dX11_init_106 : dc cX11_init 106 (.dup) 1 107 := ⟨by decide +kernel, rfl⟩
theorem dX11_init_107 : dc cX11_init 107 (.invokespecial 71) 3 110 := ⟨by decide +kernel, rfl⟩
theorem dX11_init_110 : dc cX11_init 110 (.putfield 72) 3 113 := ⟨by decide +kernel, rfl⟩
theorem dX11_init_113 : dc cX11_init 113 (.aload_n 0) 1 114 := ⟨by decide +kernel, rfl⟩
theorem dX11_init_114 : dc cX11_init 114 (.new 19) 3 117 := ⟨by decide +kernel, rfl⟩
theorem dX11_init_117 : dc cX11_init 117 (.dup) 1 118 := ⟨by decide +kernel, rfl⟩
theorem dX11_init_118 : dc cX11_init 118 (.invokespecial 71) 3 121 := ⟨by decide +kernel, rfl⟩
theorem dX11_init_121 : dc cX11_init 121 (.putfield 76) 3 124 := ⟨by decide +kernel, rfl⟩
theorem dX11_init_124 : dc cX11_init 124 (.aload_n 0) 1 125 := ⟨by decide +kernel, rfl⟩
theorem dX11_init_125 : dc cX11_init 125 (.new 79) 3 128 := ⟨by decide +kernel, rfl⟩
theorem dX11_init_128 : dc cX11_init 128 (.dup) 1 129 := ⟨by decide +kernel, rfl⟩
theorem dX11_init_129 : dc cX11_init 129 (.invokespecial 81) 3 132 := ⟨by decide +kernel, rfl⟩
theorem dX11_init_132 : dc cX11_init 132 (.putfield 82) 3 135 := ⟨by decide +kernel, rfl⟩
theorem dX11_init_135 : dc cX11_init 135 (.aload_n 0) 1 136 := ⟨by decide +kernel, rfl⟩
theorem dX11_init_136 : dc cX11_init 136 (.iconst (-1)) 1 137 := ⟨by decide +kernel, rfl⟩
theorem dX11_init_137 : dc cX11_init 137 (.putfield 86) 3 140 := ⟨by decide +kernel, rfl⟩
theorem dX11_init_140 : dc cX11_init 140 (.aload_n 0) 1 141 := ⟨by decide +kernel, rfl⟩
theorem dX11_init_141 : dc cX11_init 141 (.iconst (-1)) 1 142 := ⟨by decide +kernel, rfl⟩
theorem dX11_init_142 : dc cX11_init 142 (.putfield 90) 3 145 := ⟨by decide +kernel, rfl⟩
theorem dX11_init_145 : dc cX11_init 145 (.aload_n 0) 1 146 := ⟨by decide +kernel, rfl⟩
theorem dX11_init_146 : dc cX11_init 146 (.lconst 1) 1 147 := ⟨by decide +kernel, rfl⟩
theorem dX11_init_147 : dc cX11_init 147 (.putfield 93) 3 150 := ⟨by decide +kernel, rfl⟩
theorem dX11_init_150 : dc cX11_init 150 (.iconst 0) 1 151 := ⟨by decide +kernel, rfl⟩
theorem dX11_init_151 : dc cX11_init 151 (.istore_n 1) 1 152 := ⟨by decide +kernel, rfl⟩
theorem dX11_init_152 : dc cX11_init 152 (.iload_n 1) 1 153 := ⟨by decide +kernel, rfl⟩
theorem dX11_init_153 : dc cX11_init 153 (.iconst 4) 1 154 := ⟨by decide +kernel, rfl⟩
theorem dX11_init_154 : dc cX11_init 154 (.if_icmp .ge 22) 3 157 := ⟨by decide +kernel, rfl⟩
theorem dX11_init_157 : dc cX11_init 157 (.aload_n 0) 1 158 := ⟨by decide +kernel, rfl⟩
theorem dX11_init_158 : dc cX11_init 158 (.getfield 11) 3 161 := ⟨by decide +kernel, rfl⟩
theorem dX11_init_161 : dc cX11_init 161 (.iload_n 1) 1 162 := ⟨by decide +kernel, rfl⟩
theorem dX11_init_162 : dc cX11_init 162 (.new 9) 3 165 := ⟨by decide +kernel, rfl⟩
theorem dX11_init_165 : dc cX11_init 165 (.dup) 1 166 := ⟨by decide +kernel, rfl⟩
theorem dX11_init_166 : dc cX11_init 166 (.invokespecial 97) 3 169 := ⟨by decide +kernel, rfl⟩
theorem dX11_init_169 : dc cX11_init 169 (.aastore) 1 170 := ⟨by decide +kernel, rfl⟩
theorem dX11_init_170 : dc cX11_init 170 (.iinc 1 1) 3 173 := ⟨by decide +kernel, rfl⟩
theorem dX11_init_173 : dc cX11_init 173 (.goto (-21)) 3 176 := ⟨by decide +kernel, rfl⟩
theorem dX11_init_176 : dc cX11_init 176 (.iconst 0) 1 177 := ⟨by decide +kernel, rfl⟩
theorem dX11_init_177 : dc cX11_init 177 (.istore_n 1) 1 178 := ⟨by decide +kernel, rfl⟩
theorem dX11_init_178 : dc cX11_init 178 (.iload_n 1) 1 179 := ⟨by decide +kernel, rfl⟩
theorem dX11_init_179 : dc cX11_init 179 (.iconst 3) 1 180 := ⟨by decide +kernel, rfl⟩
theorem dX11_init_180 : dc cX11_init 180 (.if_icmp .ge 22) 3 183 := ⟨by decide +kernel, rfl⟩
theorem dX11_init_183 : dc cX11_init 183 (.aload_n 0) 1 184 := ⟨by decide +kernel, rfl⟩
theorem dX11_init_184 : dc cX11_init 184 (.getfield 21) 3 187 := ⟨by decide +kernel, rfl⟩
theorem dX11_init_187 : dc cX11_init 187 (.iload_n 1) 1 188 := ⟨by decide +kernel, rfl⟩
theorem dX11_init_188 : dc cX11_init 188 (.new 19) 3 191 := ⟨by decide +kernel, rfl⟩
theorem dX11_init_191 : dc cX11_init 191 (.dup) 1 192 := ⟨by decide +kernel, rfl⟩
theorem dX11_init_192 : dc cX11_init 192 (.invokespecial 71) 3 195 := ⟨by decide +kernel, rfl⟩
theorem dX11_init_195 : dc cX11_init 195 (.aastore) 1 196 := ⟨by decide +kernel, rfl⟩
theorem dX11_init_196 : dc cX11_init 196 (.iinc 1 1) 3 199 := ⟨by decide +kernel, rfl⟩
theorem dX11_init_199 : dc cX11_init 199 (.goto (-21)) 3 202 := ⟨by decide +kernel, rfl⟩
theorem dX11_init_202 : dc cX11_init 202 (.aload_n 0) 1 203 := ⟨by decide +kernel, rfl⟩
theorem dX11_init_203 : dc cX11_init 203 (.getfield 25) 3 206 := ⟨by decide +kernel, rfl⟩
theorem dX11_init_206 : dc cX11_init 206 (.iconst 0) 1 207 := ⟨by decide +kernel, rfl⟩
theorem dX11_init_207 : dc cX11_init 207 (.iconst (-1)) 1 208 := ⟨by decide +kernel, rfl⟩
theorem dX11_init_208 : dc cX11_init 208 (.iastore) 1 209 := ⟨by decide +kernel, rfl⟩
theorem dX11_init_209 : dc cX11_init 209 (.return_) 1 210 := ⟨by decide +kernel, rfl⟩
def L_11 (cy : Nat → ClassId) (z i : Nat) : List va_E := .inr (10, [.ref (z + (i + 1)), .ref (z + (i + 2)), .ref (z + (i + 3)), .ref (z + (i + 4)), .ref (z + (i + 5)), .ref (z + (i + 8)), .ref (z + (i + 12)), .ref (z + (i + 14)), .ref (z + (i + 19)), .ref (z + (i + 22)), .ref (z + (i + 23)), .ref (z + (i + 61)), .ref (z + (i + 99)), .int 0, .int 0, .int 0, .int (-1), .int (-1), .long 0, .long (1)]) :: .inl (cy 6, 4, .inr (.inr (.inr (.inr (fun q => some (z + (i + (105 + 2 * q)))))))) :: .inl (cy 0, 900, .inl (fun _ => 0)) :: .inl (cy 4, 3, .inr (.inr (.inr (.inr (fun q => some (z + (i + (113 + 38 * q)))))))) :: .inl (cy 1, 5, .inl (upd (fun _ => 0) 0 (-1))) :: (L_3 cy z (i + 5) ++ (L_0 cy z (i + 8) ++ (L_4 cy z (i + 12) ++ (L_6 cy z (i + 14) ++ (L_5 cy z (i + 19) ++ (L_1 cy z (i + 22) ++ (L_2 cy z (i + 23) ++ (L_2 cy z (i + 61) ++ (L_8 cy z (i + 99) ++ (L_10 cy z (i + 105) ++ (L_10 cy z (i + 107) ++ (L_10 cy z (i + 109) ++ (L_10 cy z (i + 111) ++ (L_2 cy z (i + 113) ++ (L_2 cy z (i + 151) ++ L_2 cy z (i + 189))))))))))))))))
theorem ln_L_11 {cy : Nat → ClassId} {z i : Nat} : (L_11 cy z i).length = 227 := by unfold L_11; simp only [List.length_cons, List.length_append, List.length_nil, ln_L_0, ln_L_1, ln_L_10, ln_L_2, ln_L_3, ln_L_4, ln_L_5, ln_L_6, ln_L_8, Nat.reduceAdd, Nat.zero_add]
set_option maxRecDepth 100000 in
set_option maxHeartbeats 4000000 in
theorem cb_X11 {l : Launch} {cy : Nat → ClassId} {w : Nat × Nat} {D : va_G} {z : Nat} (B : Nat → va_E) (i : Nat) : BC l cy w D z yX11_init cX11_init 2 none none 7 226 4917 [.ref (z + i)] (bL B i [.inr (10, [.null, .null, .null, .null, .null, .null, .null, .null, .null, .null, .null, .null, .null, .int 0, .int 0, .int 0, .int 0, .int 0, .long 0, .long 0])]) (bL B i (L_11 cy z i)) := by
  refine bv_enter true (by decide +kernel) (fun _ => rfl) (Nat.le_of_ble_eq_true rfl) ?_
  intro x hl hD hz hk G
  subst hl hD hz
  refine b_aload_n G dX11_init_0 0 rfl ?_
  refine b_obj G (Nat.le_of_ble_eq_true rfl) t_25 t_26 t_27 (Nat.le_of_ble_eq_true rfl) dX11_init_1 ?_
  refine b_aload_n G dX11_init_4 0 rfl ?_
  refine b_iconst (4) G dX11_init_5 (by decide) ?_
  refine l_anew (nn := 1) (t0 := 6) (N := 4) G t_28 (by decide) rfl (by decide) (by decide) (Nat.le_of_ble_eq_true rfl) (by rw [hk]; exact (Nat.le_of_ble_eq_true rfl)) (by rw [hk]; exact (Nat.le_of_ble_eq_true rfl)) (by simp only [List.length_cons, List.length_append, List.length_nil, Nat.reduceAdd, Nat.zero_add]) dX11_init_6 ?_
  try simp only [List.append_assoc, List.cons_append, List.nil_append, List.append_nil, List.set_cons_succ, List.set_cons_zero]
  refine l_put (ci := 10) G rfl 0 (by decide) tb_X11 tyX11_ok nmX11 t_457 (Or.inl rfl) (Or.inr rfl) rfl rfl (Nat.le_of_ble_eq_true rfl) dX11_init_9 ?_
  try simp only [List.append_assoc, List.cons_append, List.nil_append, List.append_nil, List.set_cons_succ, List.set_cons_zero]
  refine b_aload_n G dX11_init_12 0 rfl ?_
  refine b_sipush (900) G dX11_init_13 (by decide) ?_
  refine l_newa (nn := 2) (t0 := 0) (at0 := .byte) (N := 900) (a0 := (900, .inl (fun _ => 0))) G t_141 rfl (fun _ => rfl) (by decide) (by decide) (Nat.le_of_ble_eq_true rfl) (by rw [hk]; exact (Nat.le_of_ble_eq_true rfl)) (by rw [hk]; exact (Nat.le_of_ble_eq_true rfl)) (by simp only [List.length_cons, List.length_append, List.length_nil, Nat.reduceAdd, Nat.zero_add]) dX11_init_16 ?_
  try simp only [List.append_assoc, List.cons_append, List.nil_append, List.append_nil, List.set_cons_succ, List.set_cons_zero]
  refine l_put (ci := 10) G rfl 1 (by decide) tb_X11 tyX11_ok nmX11 t_458 (Or.inl rfl) (Or.inr rfl) rfl rfl (Nat.le_of_ble_eq_true rfl) dX11_init_18 ?_
  try simp only [List.append_assoc, List.cons_append, List.nil_append, List.append_nil, List.set_cons_succ, List.set_cons_zero]
  refine b_aload_n G dX11_init_21 0 rfl ?_
  refine b_iconst (3) G dX11_init_22 (by decide) ?_
  refine l_anew (nn := 3) (t0 := 4) (N := 3) G t_30 (by decide) rfl (by decide) (by decide) (Nat.le_of_ble_eq_true rfl) (by rw [hk]; exact (Nat.le_of_ble_eq_true rfl)) (by rw [hk]; exact (Nat.le_of_ble_eq_true rfl)) (by simp only [List.length_cons, List.length_append, List.length_nil, Nat.reduceAdd, Nat.zero_add]) dX11_init_23 ?_
  try simp only [List.append_assoc, List.cons_append, List.nil_append, List.append_nil, List.set_cons_succ, List.set_cons_zero]
  refine l_put (ci := 10) G rfl 2 (by decide) tb_X11 tyX11_ok nmX11 t_459 (Or.inl rfl) (Or.inr rfl) rfl rfl (Nat.le_of_ble_eq_true rfl) dX11_init_26 ?_
  try simp only [List.append_assoc, List.cons_append, List.nil_append, List.append_nil, List.set_cons_succ, List.set_cons_zero]
  refine b_aload_n G dX11_init_29 0 rfl ?_
  refine b_iconst (5) G dX11_init_30 (by decide) ?_
  refine l_newa (nn := 4) (t0 := 1) (at0 := .int) (N := 5) (a0 := (5, .inl (fun _ => 0))) G t_142 rfl (fun _ => rfl) (by decide) (by decide) (Nat.le_of_ble_eq_true rfl) (by rw [hk]; exact (Nat.le_of_ble_eq_true rfl)) (by rw [hk]; exact (Nat.le_of_ble_eq_true rfl)) (by simp only [List.length_cons, List.length_append, List.length_nil, Nat.reduceAdd, Nat.zero_add]) dX11_init_31 ?_
  try simp only [List.append_assoc, List.cons_append, List.nil_append, List.append_nil, List.set_cons_succ, List.set_cons_zero]
  refine l_put (ci := 10) G rfl 3 (by decide) tb_X11 tyX11_ok nmX11 t_460 (Or.inl rfl) (Or.inr rfl) rfl rfl (Nat.le_of_ble_eq_true rfl) dX11_init_33 ?_
  try simp only [List.append_assoc, List.cons_append, List.nil_append, List.append_nil, List.set_cons_succ, List.set_cons_zero]
  refine b_aload_n G dX11_init_36 0 rfl ?_
  refine l_new (nn := 5) (ci := 3) G tyX3 rfl tb_X3 tyX3_ok t_32 t_33 t_3 [.null, .null, .int 0, .int 0, .int 0, .int 0, .int 0, .int 0, .int 0, .long 0, .int 0, .int 0, .int 0, .int 0] (by decide +kernel) (by rw [hk]; exact (Nat.le_of_ble_eq_true rfl)) (by rw [hk]; exact (Nat.le_of_ble_eq_true rfl)) (by simp only [List.length_cons, List.length_append, List.length_nil, Nat.reduceAdd, Nat.zero_add]) dX11_init_37 ?_
  refine b_dup G dX11_init_40 rfl ?_
  refine l_callN (nn := 5) (LX := L_3 cy (BXz x)) G (fun B j => cb_X3 B j) (List.mem_of_getElem? (i := 0) rfl) t_35 t_3 t_36 rfl nm_X3_init (Nat.le_of_ble_eq_true rfl) (Nat.le_of_ble_eq_true rfl) (by rw [hk]; exact (Nat.le_of_ble_eq_true rfl)) (by rw [hk]; exact (Nat.le_of_ble_eq_true rfl)) (by simp only [List.length_cons, List.length_append, List.length_nil, Nat.reduceAdd, Nat.zero_add]) (Nat.le_of_ble_eq_true rfl) dX11_init_41 ?_
  try simp only [List.append_assoc, List.cons_append, List.nil_append, List.append_nil, List.set_cons_succ, List.set_cons_zero]
  refine l_put (ci := 10) G rfl 4 (by decide) tb_X11 tyX11_ok nmX11 t_461 (Or.inl rfl) (Or.inr rfl) rfl rfl (Nat.le_of_ble_eq_true rfl) dX11_init_44 ?_
  try simp only [List.append_assoc, List.cons_append, List.nil_append, List.append_nil, List.set_cons_succ, List.set_cons_zero]
  refine b_aload_n G dX11_init_47 0 rfl ?_
  refine l_new (nn := 8) (ci := 0) G tyX0 rfl tb_X0 tyX0_ok t_144 t_145 t_8 [.null, .null, .int 0, .int 0, .int 0, .int 0, .int 0, .int 0, .int 0, .long 0, .int 0, .int 0, .null, .int 0] (by decide +kernel) (by rw [hk]; exact (Nat.le_of_ble_eq_true rfl)) (by rw [hk]; exact (Nat.le_of_ble_eq_true rfl)) (by simp only [List.length_cons, List.length_append, List.length_nil, ln_L_3, Nat.reduceAdd, Nat.zero_add]) dX11_init_48 ?_
  refine b_dup G dX11_init_51 rfl ?_
  refine l_callN (nn := 8) (LX := L_0 cy (BXz x)) G (fun B j => cb_X0 B j) (List.mem_of_getElem? (i := 1) rfl) t_147 t_8 t_148 rfl nm_X0_init (Nat.le_of_ble_eq_true rfl) (Nat.le_of_ble_eq_true rfl) (by rw [hk]; exact (Nat.le_of_ble_eq_true rfl)) (by rw [hk]; exact (Nat.le_of_ble_eq_true rfl)) (by simp only [List.length_cons, List.length_append, List.length_nil, ln_L_3, Nat.reduceAdd, Nat.zero_add]) (Nat.le_of_ble_eq_true rfl) dX11_init_52 ?_
  try simp only [List.append_assoc, List.cons_append, List.nil_append, List.append_nil, List.set_cons_succ, List.set_cons_zero]
  refine l_put (ci := 10) G rfl 5 (by decide) tb_X11 tyX11_ok nmX11 t_462 (Or.inl rfl) (Or.inr rfl) rfl rfl (Nat.le_of_ble_eq_true rfl) dX11_init_55 ?_
  try simp only [List.append_assoc, List.cons_append, List.nil_append, List.append_nil, List.set_cons_succ, List.set_cons_zero]
  refine b_aload_n G dX11_init_58 0 rfl ?_
  refine l_new (nn := 12) (ci := 4) G tyX4 rfl tb_X4 tyX4_ok t_169 t_170 t_9 [.null, .int 0, .int 0, .int 0, .int 0, .int 0, .int 0, .int 0] (by decide +kernel) (by rw [hk]; exact (Nat.le_of_ble_eq_true rfl)) (by rw [hk]; exact (Nat.le_of_ble_eq_true rfl)) (by simp only [List.length_cons, List.length_append, List.length_nil, ln_L_0, ln_L_3, Nat.reduceAdd, Nat.zero_add]) dX11_init_59 ?_
  refine b_dup G dX11_init_62 rfl ?_
  refine l_callN (nn := 12) (LX := L_4 cy (BXz x)) G (fun B j => cb_X4 B j) (List.mem_of_getElem? (i := 2) rfl) t_172 t_9 t_173 rfl nm_X4_init (Nat.le_of_ble_eq_true rfl) (Nat.le_of_ble_eq_true rfl) (by rw [hk]; exact (Nat.le_of_ble_eq_true rfl)) (by rw [hk]; exact (Nat.le_of_ble_eq_true rfl)) (by simp only [List.length_cons, List.length_append, List.length_nil, ln_L_0, ln_L_3, Nat.reduceAdd, Nat.zero_add]) (Nat.le_of_ble_eq_true rfl) dX11_init_63 ?_
  try simp only [List.append_assoc, List.cons_append, List.nil_append, List.append_nil, List.set_cons_succ, List.set_cons_zero]
  refine l_put (ci := 10) G rfl 6 (by decide) tb_X11 tyX11_ok nmX11 t_463 (Or.inl rfl) (Or.inr rfl) rfl rfl (Nat.le_of_ble_eq_true rfl) dX11_init_66 ?_
  try simp only [List.append_assoc, List.cons_append, List.nil_append, List.append_nil, List.set_cons_succ, List.set_cons_zero]
  refine b_aload_n G dX11_init_69 0 rfl ?_
  refine l_new (nn := 14) (ci := 6) G tyX6 rfl tb_X6 tyX6_ok t_193 t_194 t_10 [.null, .null, .null, .null, .int 0, .int 0] (by decide +kernel) (by rw [hk]; exact (Nat.le_of_ble_eq_true rfl)) (by rw [hk]; exact (Nat.le_of_ble_eq_true rfl)) (by simp only [List.length_cons, List.length_append, List.length_nil, ln_L_0, ln_L_3, ln_L_4, Nat.reduceAdd, Nat.zero_add]) dX11_init_70 ?_
  refine b_dup G dX11_init_73 rfl ?_
  refine l_callN (nn := 14) (LX := L_6 cy (BXz x)) G (fun B j => cb_X6 B j) (List.mem_of_getElem? (i := 3) rfl) t_196 t_10 t_197 rfl nm_X6_init (Nat.le_of_ble_eq_true rfl) (Nat.le_of_ble_eq_true rfl) (by rw [hk]; exact (Nat.le_of_ble_eq_true rfl)) (by rw [hk]; exact (Nat.le_of_ble_eq_true rfl)) (by simp only [List.length_cons, List.length_append, List.length_nil, ln_L_0, ln_L_3, ln_L_4, Nat.reduceAdd, Nat.zero_add]) (Nat.le_of_ble_eq_true rfl) dX11_init_74 ?_
  try simp only [List.append_assoc, List.cons_append, List.nil_append, List.append_nil, List.set_cons_succ, List.set_cons_zero]
  refine l_put (ci := 10) G rfl 7 (by decide) tb_X11 tyX11_ok nmX11 t_464 (Or.inl rfl) (Or.inr rfl) rfl rfl (Nat.le_of_ble_eq_true rfl) dX11_init_77 ?_
  try simp only [List.append_assoc, List.cons_append, List.nil_append, List.append_nil, List.set_cons_succ, List.set_cons_zero]
  refine b_aload_n G dX11_init_80 0 rfl ?_
  refine l_new (nn := 19) (ci := 5) G tyX5 rfl tb_X5 tyX5_ok t_220 t_221 t_11 [.null, .null] (by decide +kernel) (by rw [hk]; exact (Nat.le_of_ble_eq_true rfl)) (by rw [hk]; exact (Nat.le_of_ble_eq_true rfl)) (by simp only [List.length_cons, List.length_append, List.length_nil, ln_L_0, ln_L_3, ln_L_4, ln_L_6, Nat.reduceAdd, Nat.zero_add]) dX11_init_81 ?_
  refine b_dup G dX11_init_84 rfl ?_
  refine l_callN (nn := 19) (LX := L_5 cy (BXz x)) G (fun B j => cb_X5 B j) (List.mem_of_getElem? (i := 4) rfl) t_223 t_11 t_224 rfl nm_X5_init (Nat.le_of_ble_eq_true rfl) (Nat.le_of_ble_eq_true rfl) (by rw [hk]; exact (Nat.le_of_ble_eq_true rfl)) (by rw [hk]; exact (Nat.le_of_ble_eq_true rfl)) (by simp only [List.length_cons, List.length_append, List.length_nil, ln_L_0, ln_L_3, ln_L_4, ln_L_6, Nat.reduceAdd, Nat.zero_add]) (Nat.le_of_ble_eq_true rfl) dX11_init_85 ?_
  try simp only [List.append_assoc, List.cons_append, List.nil_append, List.append_nil, List.set_cons_succ, List.set_cons_zero]
  refine l_put (ci := 10) G rfl 8 (by decide) tb_X11 tyX11_ok nmX11 t_465 (Or.inl rfl) (Or.inr rfl) rfl rfl (Nat.le_of_ble_eq_true rfl) dX11_init_88 ?_
  try simp only [List.append_assoc, List.cons_append, List.nil_append, List.append_nil, List.set_cons_succ, List.set_cons_zero]
  refine b_aload_n G dX11_init_91 0 rfl ?_
  refine l_new (nn := 22) (ci := 1) G tyX1 rfl tb_X1 tyX1_ok t_234 t_235 t_12 [.int 0, .int 0, .int 0] (by decide +kernel) (by rw [hk]; exact (Nat.le_of_ble_eq_true rfl)) (by rw [hk]; exact (Nat.le_of_ble_eq_true rfl)) (by simp only [List.length_cons, List.length_append, List.length_nil, ln_L_0, ln_L_3, ln_L_4, ln_L_5, ln_L_6, Nat.reduceAdd, Nat.zero_add]) dX11_init_92 ?_
  refine b_dup G dX11_init_95 rfl ?_
  refine l_callN (nn := 22) (LX := L_1 cy (BXz x)) G (fun B j => cb_X1 B j) (List.mem_of_getElem? (i := 5) rfl) t_237 t_12 t_238 rfl nm_X1_init (Nat.le_of_ble_eq_true rfl) (Nat.le_of_ble_eq_true rfl) (by rw [hk]; exact (Nat.le_of_ble_eq_true rfl)) (by rw [hk]; exact (Nat.le_of_ble_eq_true rfl)) (by simp only [List.length_cons, List.length_append, List.length_nil, ln_L_0, ln_L_3, ln_L_4, ln_L_5, ln_L_6, Nat.reduceAdd, Nat.zero_add]) (Nat.le_of_ble_eq_true rfl) dX11_init_96 ?_
  try simp only [List.append_assoc, List.cons_append, List.nil_append, List.append_nil, List.set_cons_succ, List.set_cons_zero]
  refine l_put (ci := 10) G rfl 9 (by decide) tb_X11 tyX11_ok nmX11 t_466 (Or.inl rfl) (Or.inr rfl) rfl rfl (Nat.le_of_ble_eq_true rfl) dX11_init_99 ?_
  try simp only [List.append_assoc, List.cons_append, List.nil_append, List.append_nil, List.set_cons_succ, List.set_cons_zero]
  refine b_aload_n G dX11_init_102 0 rfl ?_
  refine l_new (nn := 23) (ci := 2) G tyX2 rfl tb_X2 tyX2_ok t_30 t_254 t_13 [.null, .null, .null, .null, .null, .null, .null, .null, .int 0, .int 0, .int 0, .int 0, .int 0, .int 0, .int 0, .int 0] (by decide +kernel) (by rw [hk]; exact (Nat.le_of_ble_eq_true rfl)) (by rw [hk]; exact (Nat.le_of_ble_eq_true rfl)) (by simp only [List.length_cons, List.length_append, List.length_nil, ln_L_0, ln_L_1, ln_L_3, ln_L_4, ln_L_5, ln_L_6, Nat.reduceAdd, Nat.zero_add]) dX11_init_103 ?_
  refine b_dup G dX11_init_106 rfl ?_
  refine l_call (nn := 23) (LX := L_2 cy (BXz x)) G (fun B j => cb_X2 B j) t_255 t_256 t_13 t_257 rfl nm_X2_init (Nat.le_of_ble_eq_true rfl) (Nat.le_of_ble_eq_true rfl) (by rw [hk]; exact (Nat.le_of_ble_eq_true rfl)) (by rw [hk]; exact (Nat.le_of_ble_eq_true rfl)) (by simp only [List.length_cons, List.length_append, List.length_nil, ln_L_0, ln_L_1, ln_L_3, ln_L_4, ln_L_5, ln_L_6, Nat.reduceAdd, Nat.zero_add]) (Nat.le_of_ble_eq_true rfl) dX11_init_107 ?_
  try simp only [List.append_assoc, List.cons_append, List.nil_append, List.append_nil, List.set_cons_succ, List.set_cons_zero]
  refine l_put (ci := 10) G rfl 10 (by decide) tb_X11 tyX11_ok nmX11 t_467 (Or.inl rfl) (Or.inl rfl) rfl rfl (Nat.le_of_ble_eq_true rfl) dX11_init_110 ?_
  try simp only [List.append_assoc, List.cons_append, List.nil_append, List.append_nil, List.set_cons_succ, List.set_cons_zero]
  refine b_aload_n G dX11_init_113 0 rfl ?_
  refine l_new (nn := 61) (ci := 2) G tyX2 rfl tb_X2 tyX2_ok t_30 t_254 t_13 [.null, .null, .null, .null, .null, .null, .null, .null, .int 0, .int 0, .int 0, .int 0, .int 0, .int 0, .int 0, .int 0] (by decide +kernel) (by rw [hk]; exact (Nat.le_of_ble_eq_true rfl)) (by rw [hk]; exact (Nat.le_of_ble_eq_true rfl)) (by simp only [List.length_cons, List.length_append, List.length_nil, ln_L_0, ln_L_1, ln_L_2, ln_L_3, ln_L_4, ln_L_5, ln_L_6, Nat.reduceAdd, Nat.zero_add]) dX11_init_114 ?_
  refine b_dup G dX11_init_117 rfl ?_
  refine l_call (nn := 61) (LX := L_2 cy (BXz x)) G (fun B j => cb_X2 B j) t_255 t_256 t_13 t_257 rfl nm_X2_init (Nat.le_of_ble_eq_true rfl) (Nat.le_of_ble_eq_true rfl) (by rw [hk]; exact (Nat.le_of_ble_eq_true rfl)) (by rw [hk]; exact (Nat.le_of_ble_eq_true rfl)) (by simp only [List.length_cons, List.length_append, List.length_nil, ln_L_0, ln_L_1, ln_L_2, ln_L_3, ln_L_4, ln_L_5, ln_L_6, Nat.reduceAdd, Nat.zero_add]) (Nat.le_of_ble_eq_true rfl) dX11_init_118 ?_
  try simp only [List.append_assoc, List.cons_append, List.nil_append, List.append_nil, List.set_cons_succ, List.set_cons_zero]
  refine l_put (ci := 10) G rfl 11 (by decide) tb_X11 tyX11_ok nmX11 t_468 (Or.inl rfl) (Or.inl rfl) rfl rfl (Nat.le_of_ble_eq_true rfl) dX11_init_121 ?_
  try simp only [List.append_assoc, List.cons_append, List.nil_append, List.append_nil, List.set_cons_succ, List.set_cons_zero]
  refine b_aload_n G dX11_init_124 0 rfl ?_
  refine l_new (nn := 99) (ci := 8) G tyX8 rfl tb_X8 tyX8_ok t_441 t_264 t_14 [.null, .null, .null, .null, .null, .int 0, .int 0, .int 0] (by decide +kernel) (by rw [hk]; exact (Nat.le_of_ble_eq_true rfl)) (by rw [hk]; exact (Nat.le_of_ble_eq_true rfl)) (by simp only [List.length_cons, List.length_append, List.length_nil, ln_L_0, ln_L_1, ln_L_2, ln_L_3, ln_L_4, ln_L_5, ln_L_6, Nat.reduceAdd, Nat.zero_add]) dX11_init_125 ?_
  refine b_dup G dX11_init_128 rfl ?_
  refine l_callN (nn := 99) (LX := L_8 cy (BXz x)) G (fun B j => cb_X8 B j) (List.mem_of_getElem? (i := 9) rfl) t_266 t_14 t_267 rfl nm_X8_init (Nat.le_of_ble_eq_true rfl) (Nat.le_of_ble_eq_true rfl) (by rw [hk]; exact (Nat.le_of_ble_eq_true rfl)) (by rw [hk]; exact (Nat.le_of_ble_eq_true rfl)) (by simp only [List.length_cons, List.length_append, List.length_nil, ln_L_0, ln_L_1, ln_L_2, ln_L_3, ln_L_4, ln_L_5, ln_L_6, Nat.reduceAdd, Nat.zero_add]) (Nat.le_of_ble_eq_true rfl) dX11_init_129 ?_
  try simp only [List.append_assoc, List.cons_append, List.nil_append, List.append_nil, List.set_cons_succ, List.set_cons_zero]
  refine l_put (ci := 10) G rfl 12 (by decide) tb_X11 tyX11_ok nmX11 t_469 (Or.inl rfl) (Or.inl rfl) rfl rfl (Nat.le_of_ble_eq_true rfl) dX11_init_132 ?_
  try simp only [List.append_assoc, List.cons_append, List.nil_append, List.append_nil, List.set_cons_succ, List.set_cons_zero]
  refine b_aload_n G dX11_init_135 0 rfl ?_
  refine b_iconst (-1) G dX11_init_136 (by decide) ?_
  refine l_put (ci := 10) G rfl 16 (by decide) tb_X11 tyX11_ok nmX11 t_473 (Or.inl rfl) (Or.inl rfl) rfl rfl (Nat.le_of_ble_eq_true rfl) dX11_init_137 ?_
  try simp only [List.append_assoc, List.cons_append, List.nil_append, List.append_nil, List.set_cons_succ, List.set_cons_zero]
  refine b_aload_n G dX11_init_140 0 rfl ?_
  refine b_iconst (-1) G dX11_init_141 (by decide) ?_
  refine l_put (ci := 10) G rfl 17 (by decide) tb_X11 tyX11_ok nmX11 t_474 (Or.inl rfl) (Or.inl rfl) rfl rfl (Nat.le_of_ble_eq_true rfl) dX11_init_142 ?_
  try simp only [List.append_assoc, List.cons_append, List.nil_append, List.append_nil, List.set_cons_succ, List.set_cons_zero]
  refine b_aload_n G dX11_init_145 0 rfl ?_
  refine b_lconst (1) G dX11_init_146 (by decide) ?_
  refine l_put (ci := 10) G rfl 19 (by decide) tb_X11 tyX11_ok nmX11 t_475 (Or.inl rfl) (Or.inl rfl) rfl rfl (Nat.le_of_ble_eq_true rfl) dX11_init_147 ?_
  try simp only [List.append_assoc, List.cons_append, List.nil_append, List.append_nil, List.set_cons_succ, List.set_cons_zero]
  refine b_iconst (0) G dX11_init_150 (by decide) ?_
  refine b_istore_n [(1, .int 0), (0, .ref (BXz x + i))] G dX11_init_151 (Nat.le_of_ble_eq_true rfl) rfl ?_
  refine b_iload_n G dX11_init_152 0 rfl ?_
  refine b_iconst (4) G dX11_init_153 (by decide) ?_
  refine b_icmp_ge 176 G dX11_init_154 rfl (fun h => absurd h (by decide)) (fun h => ?_)
  clear h
  refine b_aload_n G dX11_init_157 1 rfl ?_
  refine l_get (ci := 10) (v := .ref (BXz x + (i + 1))) G rfl 0 (by decide) tb_X11 t_457 (Or.inl rfl) rfl dX11_init_158 ?_
  refine b_iload_n G dX11_init_161 0 rfl ?_
  refine l_new (nn := 105) (ci := 9) G tyX10 rfl tb_X10 tyX10_ok t_28 t_443 t_16 [.null, .int 0, .int 0] (by decide +kernel) (by rw [hk]; exact (Nat.le_of_ble_eq_true rfl)) (by rw [hk]; exact (Nat.le_of_ble_eq_true rfl)) (by simp only [List.length_cons, List.length_append, List.length_nil, ln_L_0, ln_L_1, ln_L_2, ln_L_3, ln_L_4, ln_L_5, ln_L_6, ln_L_8, Nat.reduceAdd, Nat.zero_add]) dX11_init_162 ?_
  refine b_dup G dX11_init_165 rfl ?_
  refine l_callN (nn := 105) (LX := L_10 cy (BXz x)) G (fun B j => cb_X10 B j) (List.mem_of_getElem? (i := 10) rfl) t_445 t_16 t_446 rfl nm_X10_init (Nat.le_of_ble_eq_true rfl) (Nat.le_of_ble_eq_true rfl) (by rw [hk]; exact (Nat.le_of_ble_eq_true rfl)) (by rw [hk]; exact (Nat.le_of_ble_eq_true rfl)) (by simp only [List.length_cons, List.length_append, List.length_nil, ln_L_0, ln_L_1, ln_L_2, ln_L_3, ln_L_4, ln_L_5, ln_L_6, ln_L_8, Nat.reduceAdd, Nat.zero_add]) (Nat.le_of_ble_eq_true rfl) dX11_init_166 ?_
  refine l_aastQ (k := 0) (nn := 105) (t0 := 6) (ci := 9) G rfl rfl rfl rfl (by decide) (by simp only [List.length_cons, List.length_append, List.length_nil, ln_L_0, ln_L_1, ln_L_2, ln_L_3, ln_L_4, ln_L_5, ln_L_6, ln_L_8, Nat.reduceAdd, Nat.zero_add]) dX11_init_169 ?_
  try simp only [List.append_assoc, List.cons_append, List.nil_append, List.append_nil, List.set_cons_succ, List.set_cons_zero]
  refine b_iinc 1 [(1, .int 1), (0, .ref (BXz x + i))] G dX11_init_170 0 rfl (by decide) (Nat.le_of_ble_eq_true rfl) rfl ?_
  refine b_goto 152 G dX11_init_173 rfl ?_
  refine b_iload_n G dX11_init_152 0 rfl ?_
  refine b_iconst (4) G dX11_init_153 (by decide) ?_
  refine b_icmp_ge 176 G dX11_init_154 rfl (fun h => absurd h (by decide)) (fun h => ?_)
  clear h
  refine b_aload_n G dX11_init_157 1 rfl ?_
  refine l_get (ci := 10) (v := .ref (BXz x + (i + 1))) G rfl 0 (by decide) tb_X11 t_457 (Or.inl rfl) rfl dX11_init_158 ?_
  refine b_iload_n G dX11_init_161 0 rfl ?_
  refine l_new (nn := 107) (ci := 9) G tyX10 rfl tb_X10 tyX10_ok t_28 t_443 t_16 [.null, .int 0, .int 0] (by decide +kernel) (by rw [hk]; exact (Nat.le_of_ble_eq_true rfl)) (by rw [hk]; exact (Nat.le_of_ble_eq_true rfl)) (by simp only [List.length_cons, List.length_append, List.length_nil, ln_L_0, ln_L_1, ln_L_10, ln_L_2, ln_L_3, ln_L_4, ln_L_5, ln_L_6, ln_L_8, Nat.reduceAdd, Nat.zero_add]) dX11_init_162 ?_
  refine b_dup G dX11_init_165 rfl ?_
  refine l_callN (nn := 107) (LX := L_10 cy (BXz x)) G (fun B j => cb_X10 B j) (List.mem_of_getElem? (i := 10) rfl) t_445 t_16 t_446 rfl nm_X10_init (Nat.le_of_ble_eq_true rfl) (Nat.le_of_ble_eq_true rfl) (by rw [hk]; exact (Nat.le_of_ble_eq_true rfl)) (by rw [hk]; exact (Nat.le_of_ble_eq_true rfl)) (by simp only [List.length_cons, List.length_append, List.length_nil, ln_L_0, ln_L_1, ln_L_10, ln_L_2, ln_L_3, ln_L_4, ln_L_5, ln_L_6, ln_L_8, Nat.reduceAdd, Nat.zero_add]) (Nat.le_of_ble_eq_true rfl) dX11_init_166 ?_
  refine l_aastQ (k := 0) (nn := 107) (t0 := 6) (ci := 9) G rfl rfl rfl rfl (by decide) (by simp only [List.length_cons, List.length_append, List.length_nil, ln_L_0, ln_L_1, ln_L_10, ln_L_2, ln_L_3, ln_L_4, ln_L_5, ln_L_6, ln_L_8, Nat.reduceAdd, Nat.zero_add]) dX11_init_169 ?_
  try simp only [List.append_assoc, List.cons_append, List.nil_append, List.append_nil, List.set_cons_succ, List.set_cons_zero]
  refine b_iinc 2 [(1, .int 2), (0, .ref (BXz x + i))] G dX11_init_170 0 rfl (by decide) (Nat.le_of_ble_eq_true rfl) rfl ?_
  refine b_goto 152 G dX11_init_173 rfl ?_
  refine b_iload_n G dX11_init_152 0 rfl ?_
  refine b_iconst (4) G dX11_init_153 (by decide) ?_
  refine b_icmp_ge 176 G dX11_init_154 rfl (fun h => absurd h (by decide)) (fun h => ?_)
  clear h
  refine b_aload_n G dX11_init_157 1 rfl ?_
  refine l_get (ci := 10) (v := .ref (BXz x + (i + 1))) G rfl 0 (by decide) tb_X11 t_457 (Or.inl rfl) rfl dX11_init_158 ?_
  refine b_iload_n G dX11_init_161 0 rfl ?_
  refine l_new (nn := 109) (ci := 9) G tyX10 rfl tb_X10 tyX10_ok t_28 t_443 t_16 [.null, .int 0, .int 0] (by decide +kernel) (by rw [hk]; exact (Nat.le_of_ble_eq_true rfl)) (by rw [hk]; exact (Nat.le_of_ble_eq_true rfl)) (by simp only [List.length_cons, List.length_append, List.length_nil, ln_L_0, ln_L_1, ln_L_10, ln_L_2, ln_L_3, ln_L_4, ln_L_5, ln_L_6, ln_L_8, Nat.reduceAdd, Nat.zero_add]) dX11_init_162 ?_
  refine b_dup G dX11_init_165 rfl ?_
  refine l_callN (nn := 109) (LX := L_10 cy (BXz x)) G (fun B j => cb_X10 B j) (List.mem_of_getElem? (i := 10) rfl) t_445 t_16 t_446 rfl nm_X10_init (Nat.le_of_ble_eq_true rfl) (Nat.le_of_ble_eq_true rfl) (by rw [hk]; exact (Nat.le_of_ble_eq_true rfl)) (by rw [hk]; exact (Nat.le_of_ble_eq_true rfl)) (by simp only [List.length_cons, List.length_append, List.length_nil, ln_L_0, ln_L_1, ln_L_10, ln_L_2, ln_L_3, ln_L_4, ln_L_5, ln_L_6, ln_L_8, Nat.reduceAdd, Nat.zero_add]) (Nat.le_of_ble_eq_true rfl) dX11_init_166 ?_
  refine l_aastQ (k := 0) (nn := 109) (t0 := 6) (ci := 9) G rfl rfl rfl rfl (by decide) (by simp only [List.length_cons, List.length_append, List.length_nil, ln_L_0, ln_L_1, ln_L_10, ln_L_2, ln_L_3, ln_L_4, ln_L_5, ln_L_6, ln_L_8, Nat.reduceAdd, Nat.zero_add]) dX11_init_169 ?_
  try simp only [List.append_assoc, List.cons_append, List.nil_append, List.append_nil, List.set_cons_succ, List.set_cons_zero]
  refine b_iinc 3 [(1, .int 3), (0, .ref (BXz x + i))] G dX11_init_170 0 rfl (by decide) (Nat.le_of_ble_eq_true rfl) rfl ?_
  refine b_goto 152 G dX11_init_173 rfl ?_
  refine b_iload_n G dX11_init_152 0 rfl ?_
  refine b_iconst (4) G dX11_init_153 (by decide) ?_
  refine b_icmp_ge 176 G dX11_init_154 rfl (fun h => absurd h (by decide)) (fun h => ?_)
  clear h
  refine b_aload_n G dX11_init_157 1 rfl ?_
  refine l_get (ci := 10) (v := .ref (BXz x + (i + 1))) G rfl 0 (by decide) tb_X11 t_457 (Or.inl rfl) rfl dX11_init_158 ?_
  refine b_iload_n G dX11_init_161 0 rfl ?_
  refine l_new (nn := 111) (ci := 9) G tyX10 rfl tb_X10 tyX10_ok t_28 t_443 t_16 [.null, .int 0, .int 0] (by decide +kernel) (by rw [hk]; exact (Nat.le_of_ble_eq_true rfl)) (by rw [hk]; exact (Nat.le_of_ble_eq_true rfl)) (by simp only [List.length_cons, List.length_append, List.length_nil, ln_L_0, ln_L_1, ln_L_10, ln_L_2, ln_L_3, ln_L_4, ln_L_5, ln_L_6, ln_L_8, Nat.reduceAdd, Nat.zero_add]) dX11_init_162 ?_
  refine b_dup G dX11_init_165 rfl ?_
  refine l_callN (nn := 111) (LX := L_10 cy (BXz x)) G (fun B j => cb_X10 B j) (List.mem_of_getElem? (i := 10) rfl) t_445 t_16 t_446 rfl nm_X10_init (Nat.le_of_ble_eq_true rfl) (Nat.le_of_ble_eq_true rfl) (by rw [hk]; exact (Nat.le_of_ble_eq_true rfl)) (by rw [hk]; exact (Nat.le_of_ble_eq_true rfl)) (by simp only [List.length_cons, List.length_append, List.length_nil, ln_L_0, ln_L_1, ln_L_10, ln_L_2, ln_L_3, ln_L_4, ln_L_5, ln_L_6, ln_L_8, Nat.reduceAdd, Nat.zero_add]) (Nat.le_of_ble_eq_true rfl) dX11_init_166 ?_
  refine l_aastQ (k := 0) (nn := 111) (t0 := 6) (ci := 9) G rfl rfl rfl rfl (by decide) (by simp only [List.length_cons, List.length_append, List.length_nil, ln_L_0, ln_L_1, ln_L_10, ln_L_2, ln_L_3, ln_L_4, ln_L_5, ln_L_6, ln_L_8, Nat.reduceAdd, Nat.zero_add]) dX11_init_169 ?_
  try simp only [List.append_assoc, List.cons_append, List.nil_append, List.append_nil, List.set_cons_succ, List.set_cons_zero]
  refine b_iinc 4 [(1, .int 4), (0, .ref (BXz x + i))] G dX11_init_170 0 rfl (by decide) (Nat.le_of_ble_eq_true rfl) rfl ?_
  refine b_goto 152 G dX11_init_173 rfl ?_
  refine b_iload_n G dX11_init_152 0 rfl ?_
  refine b_iconst (4) G dX11_init_153 (by decide) ?_
  refine b_icmp_ge 176 G dX11_init_154 rfl (fun h => ?_) (fun h => absurd (by decide) h)
  clear h
  refine b_iconst (0) G dX11_init_176 (by decide) ?_
  refine b_istore_n [(1, .int 0), (0, .ref (BXz x + i))] G dX11_init_177 (Nat.le_of_ble_eq_true rfl) rfl ?_
  refine b_iload_n G dX11_init_178 0 rfl ?_
  refine b_iconst (3) G dX11_init_179 (by decide) ?_
  refine b_icmp_ge 202 G dX11_init_180 rfl (fun h => absurd h (by decide)) (fun h => ?_)
  clear h
  refine b_aload_n G dX11_init_183 1 rfl ?_
  refine l_get (ci := 10) (v := .ref (BXz x + (i + 3))) G rfl 2 (by decide) tb_X11 t_459 (Or.inl rfl) rfl dX11_init_184 ?_
  refine b_iload_n G dX11_init_187 0 rfl ?_
  refine l_new (nn := 113) (ci := 2) G tyX2 rfl tb_X2 tyX2_ok t_30 t_254 t_13 [.null, .null, .null, .null, .null, .null, .null, .null, .int 0, .int 0, .int 0, .int 0, .int 0, .int 0, .int 0, .int 0] (by decide +kernel) (by rw [hk]; exact (Nat.le_of_ble_eq_true rfl)) (by rw [hk]; exact (Nat.le_of_ble_eq_true rfl)) (by simp only [List.length_cons, List.length_append, List.length_nil, ln_L_0, ln_L_1, ln_L_10, ln_L_2, ln_L_3, ln_L_4, ln_L_5, ln_L_6, ln_L_8, Nat.reduceAdd, Nat.zero_add]) dX11_init_188 ?_
  refine b_dup G dX11_init_191 rfl ?_
  refine l_call (nn := 113) (LX := L_2 cy (BXz x)) G (fun B j => cb_X2 B j) t_255 t_256 t_13 t_257 rfl nm_X2_init (Nat.le_of_ble_eq_true rfl) (Nat.le_of_ble_eq_true rfl) (by rw [hk]; exact (Nat.le_of_ble_eq_true rfl)) (by rw [hk]; exact (Nat.le_of_ble_eq_true rfl)) (by simp only [List.length_cons, List.length_append, List.length_nil, ln_L_0, ln_L_1, ln_L_10, ln_L_2, ln_L_3, ln_L_4, ln_L_5, ln_L_6, ln_L_8, Nat.reduceAdd, Nat.zero_add]) (Nat.le_of_ble_eq_true rfl) dX11_init_192 ?_
  refine l_aastQ (k := 2) (nn := 113) (t0 := 4) (ci := 2) G rfl rfl rfl rfl (by decide) (by simp only [List.length_cons, List.length_append, List.length_nil, ln_L_0, ln_L_1, ln_L_10, ln_L_2, ln_L_3, ln_L_4, ln_L_5, ln_L_6, ln_L_8, Nat.reduceAdd, Nat.zero_add]) dX11_init_195 ?_
  try simp only [List.append_assoc, List.cons_append, List.nil_append, List.append_nil, List.set_cons_succ, List.set_cons_zero]
  refine b_iinc 1 [(1, .int 1), (0, .ref (BXz x + i))] G dX11_init_196 0 rfl (by decide) (Nat.le_of_ble_eq_true rfl) rfl ?_
  refine b_goto 178 G dX11_init_199 rfl ?_
  refine b_iload_n G dX11_init_178 0 rfl ?_
  refine b_iconst (3) G dX11_init_179 (by decide) ?_
  refine b_icmp_ge 202 G dX11_init_180 rfl (fun h => absurd h (by decide)) (fun h => ?_)
  clear h
  refine b_aload_n G dX11_init_183 1 rfl ?_
  refine l_get (ci := 10) (v := .ref (BXz x + (i + 3))) G rfl 2 (by decide) tb_X11 t_459 (Or.inl rfl) rfl dX11_init_184 ?_
  refine b_iload_n G dX11_init_187 0 rfl ?_
  refine l_new (nn := 151) (ci := 2) G tyX2 rfl tb_X2 tyX2_ok t_30 t_254 t_13 [.null, .null, .null, .null, .null, .null, .null, .null, .int 0, .int 0, .int 0, .int 0, .int 0, .int 0, .int 0, .int 0] (by decide +kernel) (by rw [hk]; exact (Nat.le_of_ble_eq_true rfl)) (by rw [hk]; exact (Nat.le_of_ble_eq_true rfl)) (by simp only [List.length_cons, List.length_append, List.length_nil, ln_L_0, ln_L_1, ln_L_10, ln_L_2, ln_L_3, ln_L_4, ln_L_5, ln_L_6, ln_L_8, Nat.reduceAdd, Nat.zero_add]) dX11_init_188 ?_
  refine b_dup G dX11_init_191 rfl ?_
  refine l_call (nn := 151) (LX := L_2 cy (BXz x)) G (fun B j => cb_X2 B j) t_255 t_256 t_13 t_257 rfl nm_X2_init (Nat.le_of_ble_eq_true rfl) (Nat.le_of_ble_eq_true rfl) (by rw [hk]; exact (Nat.le_of_ble_eq_true rfl)) (by rw [hk]; exact (Nat.le_of_ble_eq_true rfl)) (by simp only [List.length_cons, List.length_append, List.length_nil, ln_L_0, ln_L_1, ln_L_10, ln_L_2, ln_L_3, ln_L_4, ln_L_5, ln_L_6, ln_L_8, Nat.reduceAdd, Nat.zero_add]) (Nat.le_of_ble_eq_true rfl) dX11_init_192 ?_
  refine l_aastQ (k := 2) (nn := 151) (t0 := 4) (ci := 2) G rfl rfl rfl rfl (by decide) (by simp only [List.length_cons, List.length_append, List.length_nil, ln_L_0, ln_L_1, ln_L_10, ln_L_2, ln_L_3, ln_L_4, ln_L_5, ln_L_6, ln_L_8, Nat.reduceAdd, Nat.zero_add]) dX11_init_195 ?_
  try simp only [List.append_assoc, List.cons_append, List.nil_append, List.append_nil, List.set_cons_succ, List.set_cons_zero]
  refine b_iinc 2 [(1, .int 2), (0, .ref (BXz x + i))] G dX11_init_196 0 rfl (by decide) (Nat.le_of_ble_eq_true rfl) rfl ?_
  refine b_goto 178 G dX11_init_199 rfl ?_
  refine b_iload_n G dX11_init_178 0 rfl ?_
  refine b_iconst (3) G dX11_init_179 (by decide) ?_
  refine b_icmp_ge 202 G dX11_init_180 rfl (fun h => absurd h (by decide)) (fun h => ?_)
  clear h
  refine b_aload_n G dX11_init_183 1 rfl ?_
  refine l_get (ci := 10) (v := .ref (BXz x + (i + 3))) G rfl 2 (by decide) tb_X11 t_459 (Or.inl rfl) rfl dX11_init_184 ?_
  refine b_iload_n G dX11_init_187 0 rfl ?_
  refine l_new (nn := 189) (ci := 2) G tyX2 rfl tb_X2 tyX2_ok t_30 t_254 t_13 [.null, .null, .null, .null, .null, .null, .null, .null, .int 0, .int 0, .int 0, .int 0, .int 0, .int 0, .int 0, .int 0] (by decide +kernel) (by rw [hk]; exact (Nat.le_of_ble_eq_true rfl)) (by rw [hk]; exact (Nat.le_of_ble_eq_true rfl)) (by simp only [List.length_cons, List.length_append, List.length_nil, ln_L_0, ln_L_1, ln_L_10, ln_L_2, ln_L_3, ln_L_4, ln_L_5, ln_L_6, ln_L_8, Nat.reduceAdd, Nat.zero_add]) dX11_init_188 ?_
  refine b_dup G dX11_init_191 rfl ?_
  refine l_call (nn := 189) (LX := L_2 cy (BXz x)) G (fun B j => cb_X2 B j) t_255 t_256 t_13 t_257 rfl nm_X2_init (Nat.le_of_ble_eq_true rfl) (Nat.le_of_ble_eq_true rfl) (by rw [hk]; exact (Nat.le_of_ble_eq_true rfl)) (by rw [hk]; exact (Nat.le_of_ble_eq_true rfl)) (by simp only [List.length_cons, List.length_append, List.length_nil, ln_L_0, ln_L_1, ln_L_10, ln_L_2, ln_L_3, ln_L_4, ln_L_5, ln_L_6, ln_L_8, Nat.reduceAdd, Nat.zero_add]) (Nat.le_of_ble_eq_true rfl) dX11_init_192 ?_
  refine l_aastQ (k := 2) (nn := 189) (t0 := 4) (ci := 2) G rfl rfl rfl rfl (by decide) (by simp only [List.length_cons, List.length_append, List.length_nil, ln_L_0, ln_L_1, ln_L_10, ln_L_2, ln_L_3, ln_L_4, ln_L_5, ln_L_6, ln_L_8, Nat.reduceAdd, Nat.zero_add]) dX11_init_195 ?_
  try simp only [List.append_assoc, List.cons_append, List.nil_append, List.append_nil, List.set_cons_succ, List.set_cons_zero]
  refine b_iinc 3 [(1, .int 3), (0, .ref (BXz x + i))] G dX11_init_196 0 rfl (by decide) (Nat.le_of_ble_eq_true rfl) rfl ?_
  refine b_goto 178 G dX11_init_199 rfl ?_
  refine b_iload_n G dX11_init_178 0 rfl ?_
  refine b_iconst (3) G dX11_init_179 (by decide) ?_
  refine b_icmp_ge 202 G dX11_init_180 rfl (fun h => ?_) (fun h => absurd (by decide) h)
  clear h
  refine b_aload_n G dX11_init_202 1 rfl ?_
  refine l_get (ci := 10) (v := .ref (BXz x + (i + 4))) G rfl 3 (by decide) tb_X11 t_460 (Or.inl rfl) rfl dX11_init_203 ?_
  refine b_iconst (0) G dX11_init_206 (by decide) ?_
  refine b_iconst (-1) G dX11_init_207 (by decide) ?_
  refine l_iast (k := 4) G rfl (by decide) dX11_init_208 ?_
  try simp only [List.append_assoc, List.cons_append, List.nil_append, List.append_nil, List.set_cons_succ, List.set_cons_zero]
  refine l_fix (k := 1) (t0 := 6) (N := 4) (fun q => some (BXz x + (i + (105 + 2 * q)))) rfl (fun q hq => by rcases (show q = 0 ∨ q = 1 ∨ q = 2 ∨ q = 3 by omega) with rfl | rfl | rfl | rfl <;> rfl) ?_
  try simp only [List.append_assoc, List.cons_append, List.nil_append, List.append_nil, List.set_cons_succ, List.set_cons_zero]
  refine l_fix (k := 3) (t0 := 4) (N := 3) (fun q => some (BXz x + (i + (113 + 38 * q)))) rfl (fun q hq => by rcases (show q = 0 ∨ q = 1 ∨ q = 2 by omega) with rfl | rfl | rfl <;> rfl) ?_
  try simp only [List.append_assoc, List.cons_append, List.nil_append, List.append_nil, List.set_cons_succ, List.set_cons_zero]
  exact b_ret G hk dX11_init_209
