def RJ0 : String := "java/lang/String"
def RJ1 : String := "java/lang/StringLatin1"
def RJ3 : String := "jdk/internal/util/Preconditions"
abbrev cJ0_coder_7d493 : ByteArray := prog_17_method_152_code
def yJ0_coder_7d493 : MethodName := ⟨RJ0, "coder", "()B"⟩
theorem nm_J0_coder_7d493 : (yJ0_coder_7d493).cls ≠ "java/lang/invoke/MethodHandle" ∧ (yJ0_coder_7d493).cls ≠ "java/lang/invoke/VarHandle" ∧ (parseMethodDescriptor (yJ0_coder_7d493).desc).map (fun d => d.parameters.length) = some 0 := ⟨by decide +kernel, by decide +kernel, by decide +kernel⟩
theorem dJ0_coder_7d493_0 : dc cJ0_coder_7d493 0 (.getstatic 38) 3 3 := ⟨by decide +kernel, rfl⟩
theorem dJ0_coder_7d493_3 : dc cJ0_coder_7d493 3 (.ifCond .eq 10) 3 6 := ⟨by decide +kernel, rfl⟩
theorem dJ0_coder_7d493_6 : dc cJ0_coder_7d493 6 (.aload_n 0) 1 7 := ⟨by decide +kernel, rfl⟩
theorem dJ0_coder_7d493_7 : dc cJ0_coder_7d493 7 (.getfield 15) 3 10 := ⟨by decide +kernel, rfl⟩
theorem dJ0_coder_7d493_10 : dc cJ0_coder_7d493 10 (.goto 4) 3 13 := ⟨by decide +kernel, rfl⟩
theorem dJ0_coder_7d493_14 : dc cJ0_coder_7d493 14 (.ireturn) 1 15 := ⟨by decide +kernel, rfl⟩
abbrev cJ0_isLatin1_aae02 : ByteArray := prog_17_method_154_code
def yJ0_isLatin1_aae02 : MethodName := ⟨RJ0, "isLatin1", "()Z"⟩
theorem nm_J0_isLatin1_aae02 : (yJ0_isLatin1_aae02).cls ≠ "java/lang/invoke/MethodHandle" ∧ (yJ0_isLatin1_aae02).cls ≠ "java/lang/invoke/VarHandle" ∧ (parseMethodDescriptor (yJ0_isLatin1_aae02).desc).map (fun d => d.parameters.length) = some 0 := ⟨by decide +kernel, by decide +kernel, by decide +kernel⟩
theorem dJ0_isLatin1_aae02_0 : dc cJ0_isLatin1_aae02 0 (.getstatic 38) 3 3 := ⟨by decide +kernel, rfl⟩
theorem dJ0_isLatin1_aae02_3 : dc cJ0_isLatin1_aae02 3 (.ifCond .eq 14) 3 6 := ⟨by decide +kernel, rfl⟩
theorem dJ0_isLatin1_aae02_6 : dc cJ0_isLatin1_aae02 6 (.aload_n 0) 1 7 := ⟨by decide +kernel, rfl⟩
theorem dJ0_isLatin1_aae02_7 : dc cJ0_isLatin1_aae02 7 (.getfield 15) 3 10 := ⟨by decide +kernel, rfl⟩
theorem dJ0_isLatin1_aae02_10 : dc cJ0_isLatin1_aae02 10 (.ifCond .ne 7) 3 13 := ⟨by decide +kernel, rfl⟩
theorem dJ0_isLatin1_aae02_13 : dc cJ0_isLatin1_aae02 13 (.iconst 1) 1 14 := ⟨by decide +kernel, rfl⟩
theorem dJ0_isLatin1_aae02_14 : dc cJ0_isLatin1_aae02 14 (.goto 4) 3 17 := ⟨by decide +kernel, rfl⟩
theorem dJ0_isLatin1_aae02_18 : dc cJ0_isLatin1_aae02 18 (.ireturn) 1 19 := ⟨by decide +kernel, rfl⟩
abbrev cJ0_length_8abf5 : ByteArray := prog_17_method_54_code
def yJ0_length_8abf5 : MethodName := ⟨RJ0, "length", "()I"⟩
theorem nm_J0_length_8abf5 : (yJ0_length_8abf5).cls ≠ "java/lang/invoke/MethodHandle" ∧ (yJ0_length_8abf5).cls ≠ "java/lang/invoke/VarHandle" ∧ (parseMethodDescriptor (yJ0_length_8abf5).desc).map (fun d => d.parameters.length) = some 0 := ⟨by decide +kernel, by decide +kernel, by decide +kernel⟩
theorem dJ0_length_8abf5_0 : dc cJ0_length_8abf5 0 (.aload_n 0) 1 1 := ⟨by decide +kernel, rfl⟩
theorem dJ0_length_8abf5_1 : dc cJ0_length_8abf5 1 (.getfield 9) 3 4 := ⟨by decide +kernel, rfl⟩
theorem dJ0_length_8abf5_4 : dc cJ0_length_8abf5 4 (.arraylength) 1 5 := ⟨by decide +kernel, rfl⟩
theorem dJ0_length_8abf5_5 : dc cJ0_length_8abf5 5 (.aload_n 0) 1 6 := ⟨by decide +kernel, rfl⟩
theorem dJ0_length_8abf5_6 : dc cJ0_length_8abf5 6 (.invokevirtual 335) 3 9 := ⟨by decide +kernel, rfl⟩
theorem dJ0_length_8abf5_9 : dc cJ0_length_8abf5 9 (.ishr) 1 10 := ⟨by decide +kernel, rfl⟩
theorem dJ0_length_8abf5_10 : dc cJ0_length_8abf5 10 (.ireturn) 1 11 := ⟨by decide +kernel, rfl⟩
abbrev cJ0_charAt_5068e : ByteArray := prog_17_method_56_code
def yJ0_charAt_5068e : MethodName := ⟨RJ0, "charAt", "(I)C"⟩
theorem nm_J0_charAt_5068e : (yJ0_charAt_5068e).cls ≠ "java/lang/invoke/MethodHandle" ∧ (yJ0_charAt_5068e).cls ≠ "java/lang/invoke/VarHandle" ∧ (parseMethodDescriptor (yJ0_charAt_5068e).desc).map (fun d => d.parameters.length) = some 1 := ⟨by decide +kernel, by decide +kernel, by decide +kernel⟩
theorem dJ0_charAt_5068e_0 : dc cJ0_charAt_5068e 0 (.aload_n 0) 1 1 := ⟨by decide +kernel, rfl⟩
theorem dJ0_charAt_5068e_1 : dc cJ0_charAt_5068e 1 (.invokevirtual 492) 3 4 := ⟨by decide +kernel, rfl⟩
theorem dJ0_charAt_5068e_4 : dc cJ0_charAt_5068e 4 (.ifCond .eq 12) 3 7 := ⟨by decide +kernel, rfl⟩
theorem dJ0_charAt_5068e_7 : dc cJ0_charAt_5068e 7 (.aload_n 0) 1 8 := ⟨by decide +kernel, rfl⟩
theorem dJ0_charAt_5068e_8 : dc cJ0_charAt_5068e 8 (.getfield 9) 3 11 := ⟨by decide +kernel, rfl⟩
theorem dJ0_charAt_5068e_11 : dc cJ0_charAt_5068e 11 (.iload_n 1) 1 12 := ⟨by decide +kernel, rfl⟩
theorem dJ0_charAt_5068e_12 : dc cJ0_charAt_5068e 12 (.invokestatic 495) 3 15 := ⟨by decide +kernel, rfl⟩
theorem dJ0_charAt_5068e_15 : dc cJ0_charAt_5068e 15 (.ireturn) 1 16 := ⟨by decide +kernel, rfl⟩
abbrev cJ0_checkIndex_df160 : ByteArray := prog_17_method_155_code
def yJ0_checkIndex_df160 : MethodName := ⟨RJ0, "checkIndex", "(II)V"⟩
theorem nm_J0_checkIndex_df160 : (yJ0_checkIndex_df160).cls ≠ "java/lang/invoke/MethodHandle" ∧ (yJ0_checkIndex_df160).cls ≠ "java/lang/invoke/VarHandle" ∧ (parseMethodDescriptor (yJ0_checkIndex_df160).desc).map (fun d => d.parameters.length) = some 2 := ⟨by decide +kernel, by decide +kernel, by decide +kernel⟩
theorem dJ0_checkIndex_df160_0 : dc cJ0_checkIndex_df160 0 (.iload_n 0) 1 1 := ⟨by decide +kernel, rfl⟩
theorem dJ0_checkIndex_df160_1 : dc cJ0_checkIndex_df160 1 (.iload_n 1) 1 2 := ⟨by decide +kernel, rfl⟩
theorem dJ0_checkIndex_df160_2 : dc cJ0_checkIndex_df160 2 (.getstatic 1053) 3 5 := ⟨by decide +kernel, rfl⟩
theorem dJ0_checkIndex_df160_5 : dc cJ0_checkIndex_df160 5 (.invokestatic 1059) 3 8 := ⟨by decide +kernel, rfl⟩
theorem dJ0_checkIndex_df160_8 : dc cJ0_checkIndex_df160 8 (.pop) 1 9 := ⟨by decide +kernel, rfl⟩
theorem dJ0_checkIndex_df160_9 : dc cJ0_checkIndex_df160 9 (.return_) 1 10 := ⟨by decide +kernel, rfl⟩
abbrev cJ1_charAt_3b067 : ByteArray := prog_18_method_2_code
def yJ1_charAt_3b067 : MethodName := ⟨RJ1, "charAt", "([BI)C"⟩
theorem nm_J1_charAt_3b067 : (yJ1_charAt_3b067).cls ≠ "java/lang/invoke/MethodHandle" ∧ (yJ1_charAt_3b067).cls ≠ "java/lang/invoke/VarHandle" ∧ (parseMethodDescriptor (yJ1_charAt_3b067).desc).map (fun d => d.parameters.length) = some 2 := ⟨by decide +kernel, by decide +kernel, by decide +kernel⟩
theorem dJ1_charAt_3b067_0 : dc cJ1_charAt_3b067 0 (.iload_n 1) 1 1 := ⟨by decide +kernel, rfl⟩
theorem dJ1_charAt_3b067_1 : dc cJ1_charAt_3b067 1 (.aload_n 0) 1 2 := ⟨by decide +kernel, rfl⟩
theorem dJ1_charAt_3b067_2 : dc cJ1_charAt_3b067 2 (.arraylength) 1 3 := ⟨by decide +kernel, rfl⟩
theorem dJ1_charAt_3b067_3 : dc cJ1_charAt_3b067 3 (.invokestatic 9) 3 6 := ⟨by decide +kernel, rfl⟩
theorem dJ1_charAt_3b067_6 : dc cJ1_charAt_3b067 6 (.aload_n 0) 1 7 := ⟨by decide +kernel, rfl⟩
theorem dJ1_charAt_3b067_7 : dc cJ1_charAt_3b067 7 (.iload_n 1) 1 8 := ⟨by decide +kernel, rfl⟩
theorem dJ1_charAt_3b067_8 : dc cJ1_charAt_3b067 8 (.baload) 1 9 := ⟨by decide +kernel, rfl⟩
theorem dJ1_charAt_3b067_9 : dc cJ1_charAt_3b067 9 (.sipush 255) 3 12 := ⟨by decide +kernel, rfl⟩
theorem dJ1_charAt_3b067_12 : dc cJ1_charAt_3b067 12 (.iand) 1 13 := ⟨by decide +kernel, rfl⟩
theorem dJ1_charAt_3b067_13 : dc cJ1_charAt_3b067 13 (.i2c) 1 14 := ⟨by decide +kernel, rfl⟩
theorem dJ1_charAt_3b067_14 : dc cJ1_charAt_3b067 14 (.ireturn) 1 15 := ⟨by decide +kernel, rfl⟩
abbrev cJ3_checkIndex_8e157 : ByteArray := prog_21_method_11_code
def yJ3_checkIndex_8e157 : MethodName := ⟨RJ3, "checkIndex", "(IILjava/util/function/BiFunction;)I"⟩
theorem nm_J3_checkIndex_8e157 : (yJ3_checkIndex_8e157).cls ≠ "java/lang/invoke/MethodHandle" ∧ (yJ3_checkIndex_8e157).cls ≠ "java/lang/invoke/VarHandle" ∧ (parseMethodDescriptor (yJ3_checkIndex_8e157).desc).map (fun d => d.parameters.length) = some 3 := ⟨by decide +kernel, by decide +kernel, by decide +kernel⟩
theorem dJ3_checkIndex_8e157_0 : dc cJ3_checkIndex_8e157 0 (.iload_n 0) 1 1 := ⟨by decide +kernel, rfl⟩
theorem dJ3_checkIndex_8e157_1 : dc cJ3_checkIndex_8e157 1 (.ifCond .lt 8) 3 4 := ⟨by decide +kernel, rfl⟩
theorem dJ3_checkIndex_8e157_4 : dc cJ3_checkIndex_8e157 4 (.iload_n 0) 1 5 := ⟨by decide +kernel, rfl⟩
theorem dJ3_checkIndex_8e157_5 : dc cJ3_checkIndex_8e157 5 (.iload_n 1) 1 6 := ⟨by decide +kernel, rfl⟩
theorem dJ3_checkIndex_8e157_6 : dc cJ3_checkIndex_8e157 6 (.if_icmp .lt 10) 3 9 := ⟨by decide +kernel, rfl⟩
theorem dJ3_checkIndex_8e157_16 : dc cJ3_checkIndex_8e157 16 (.iload_n 0) 1 17 := ⟨by decide +kernel, rfl⟩
theorem dJ3_checkIndex_8e157_17 : dc cJ3_checkIndex_8e157 17 (.ireturn) 1 18 := ⟨by decide +kernel, rfl⟩
theorem kw_len : kwBytes.length = 141 := by decide +kernel
theorem kw_ch : ∀ k, k < 141 → (((kwBytes.getD k 0) &&& 255).toUInt32 % 65536).toInt32 = kwBytes.getD k 0 := by decide +kernel
theorem kw_nar : ∀ k, k < 141 → narrow .char (.int (kwBytes.getD k 0)) = .int (kwBytes.getD k 0) := by decide +kernel
theorem cj_coder {l : Launch} {cy : Nat → ClassId} {w : Nat × Nat} {D : va_G} {z : Nat} {E : KE} : BC l cy w D z yJ0_coder_7d493 cJ0_coder_7d493 1 (some .byte) (some (.int 0)) 1 0 0 [.ref w.1] E E := by
  refine bv_enter false (by decide +kernel) (fun h => by cases h) (Nat.le_of_ble_eq_true rfl) ?_
  intro x hl hD hz hk G
  subst hl hD hz
  refine b_comp G t_50 dJ0_coder_7d493_0 ?_
  refine b_if_eq 13 G dJ0_coder_7d493_3 rfl (fun h => absurd h (by decide)) (fun _ => ?_)
  refine b_aload_n G dJ0_coder_7d493_6 0 rfl ?_
  refine b_strc G t_1291 dJ0_coder_7d493_7 ?_
  refine b_goto 14 G dJ0_coder_7d493_10 rfl ?_
  exact b_iret G rfl hk dJ0_coder_7d493_14
theorem cj_latin {l : Launch} {cy : Nat → ClassId} {w : Nat × Nat} {D : va_G} {z : Nat} {E : KE} : BC l cy w D z yJ0_isLatin1_aae02 cJ0_isLatin1_aae02 1 (some .boolean) (some (.int 1)) 1 0 0 [.ref w.1] E E := by
  refine bv_enter false (by decide +kernel) (fun h => by cases h) (Nat.le_of_ble_eq_true rfl) ?_
  intro x hl hD hz hk G
  subst hl hD hz
  refine b_comp G t_50 dJ0_isLatin1_aae02_0 ?_
  refine b_if_eq 17 G dJ0_isLatin1_aae02_3 rfl (fun h => absurd h (by decide)) (fun _ => ?_)
  refine b_aload_n G dJ0_isLatin1_aae02_6 0 rfl ?_
  refine b_strc G t_1291 dJ0_isLatin1_aae02_7 ?_
  refine b_if_ne 17 G dJ0_isLatin1_aae02_10 rfl (fun h => absurd rfl h) (fun _ => ?_)
  refine b_iconst 1 G dJ0_isLatin1_aae02_13 (by decide) ?_
  refine b_goto 18 G dJ0_isLatin1_aae02_14 rfl ?_
  exact b_iret G rfl hk dJ0_isLatin1_aae02_18
theorem cj_length {l : Launch} {cy : Nat → ClassId} {w : Nat × Nat} {D : va_G} {z : Nat} {E : KE} : BC l cy w D z yJ0_length_8abf5 cJ0_length_8abf5 1 (some .int) (some (.int 141)) 2 0 0 [.ref w.1] E E := by
  refine bv_enter false (by decide +kernel) (fun h => by cases h) (Nat.le_of_ble_eq_true rfl) ?_
  intro x hl hD hz hk G
  subst hl hD hz
  refine b_aload_n G dJ0_length_8abf5_0 0 rfl ?_
  refine b_strv G t_1290 dJ0_length_8abf5_1 ?_
  refine b_strl G dJ0_length_8abf5_4 ?_
  refine b_aload_n G dJ0_length_8abf5_5 0 rfl ?_
  refine b_callT [] G (cj_coder) rfl t_46 t_47 t_48 t_4 t_49 nm_J0_coder_7d493 (Nat.le_of_ble_eq_true rfl) (Nat.le_of_ble_eq_true rfl) rfl rfl (Nat.le_of_ble_eq_true rfl) (by rw [hk]; exact Nat.le_of_ble_eq_true rfl) (by rw [hk]; exact Nat.le_of_ble_eq_true rfl) dJ0_length_8abf5_6 ?_
  show BV x _ 9 _ [.int 0, .int 141] _ _ _
  refine b_ishr G dJ0_length_8abf5_9 ?_
  rw [show (141 : Int32) >>> ((0 : Int32) &&& 31) = 141 from by decide]
  exact b_iret G rfl hk dJ0_length_8abf5_10
theorem cj_pre {l : Launch} {cy : Nat → ClassId} {w : Nat × Nat} {D : va_G} {z : Nat} {E : KE} {k : Nat} {v : Value} (h0 : k < 141) (hv : v = .null ∨ ∃ q, v = .ref q) : BC l cy w D z yJ3_checkIndex_8e157 cJ3_checkIndex_8e157 3 (some .int) (some (.int (nI k))) 1 0 0 [.int (nI k), .int 141, v] E E := by
  have h141 : nI k < (141 : Int32) := nI_lt (b := 141) h0 (by decide)
  refine bv_enter false (by decide +kernel) (fun h => by cases h) (by rcases hv with rfl | ⟨q, rfl⟩ <;> exact Nat.le_of_ble_eq_true rfl) ?_
  intro x hl hD hz hk G
  subst hl hD hz
  refine b_iload_n G dJ3_checkIndex_8e157_0 0 rfl ?_
  refine b_if_lt 9 G dJ3_checkIndex_8e157_1 rfl (fun h => absurd h (nI_pos (by omega))) (fun _ => ?_)
  refine b_iload_n G dJ3_checkIndex_8e157_4 0 rfl ?_
  refine b_iload_n G dJ3_checkIndex_8e157_5 1 rfl ?_
  refine b_icmp_lt 16 G dJ3_checkIndex_8e157_6 rfl (fun _ => ?_) (fun h => absurd h141 h)
  refine b_iload_n G dJ3_checkIndex_8e157_16 0 rfl ?_
  exact b_iret G rfl hk dJ3_checkIndex_8e157_17
theorem cj_check {l : Launch} {cy : Nat → ClassId} {w : Nat × Nat} {D : va_G} {z : Nat} {E : KE} {k : Nat} (h0 : k < 141) : BC l cy w D z yJ0_checkIndex_df160 cJ0_checkIndex_df160 2 none none 2 0 0 [.int (nI k), .int 141] E E := by
  refine bv_enter false (by decide +kernel) (fun h => by cases h) (Nat.le_of_ble_eq_true rfl) ?_
  intro x hl hD hz hk G
  subst hl hD hz
  refine b_iload_n G dJ0_checkIndex_df160_0 0 rfl ?_
  refine b_iload_n G dJ0_checkIndex_df160_1 1 rfl ?_
  refine b_sio G t_66 dJ0_checkIndex_df160_2 (fun v hv => ?_)
  refine b_callS [.int (nI k), .int 141, v] G (cj_pre h0 hv) t_68 t_69 t_6 t_70 nm_J3_checkIndex_8e157 (Nat.le_of_ble_eq_true rfl) (Nat.le_of_ble_eq_true rfl) rfl rfl (Nat.le_of_ble_eq_true rfl) (by rw [hk]; exact Nat.le_of_ble_eq_true rfl) (by rw [hk]; exact Nat.le_of_ble_eq_true rfl) dJ0_checkIndex_df160_5 ?_
  show BV x _ 8 _ [.int (nI k)] _ _ _
  refine b_pop G dJ0_checkIndex_df160_8 rfl ?_
  exact b_ret G hk dJ0_checkIndex_df160_9
theorem cj_lchar {l : Launch} {cy : Nat → ClassId} {w : Nat × Nat} {D : va_G} {z : Nat} {E : KE} {k : Nat} (h0 : k < 141) : BC l cy w D z yJ1_charAt_3b067 cJ1_charAt_3b067 2 (some .char) (some (.int (kwBytes.getD k 0))) 3 0 0 [.ref w.2, .int (nI k)] E E := by
  refine bv_enter false (by decide +kernel) (fun h => by cases h) (Nat.le_of_ble_eq_true rfl) ?_
  intro x hl hD hz hk G
  subst hl hD hz
  refine b_iload_n G dJ1_charAt_3b067_0 1 rfl ?_
  refine b_aload_n G dJ1_charAt_3b067_1 0 rfl ?_
  refine b_strl G dJ1_charAt_3b067_2 ?_
  refine b_callS [.int (nI k), .int 141] G (cj_check h0) t_63 t_64 t_4 t_65 nm_J0_checkIndex_df160 (Nat.le_of_ble_eq_true rfl) (Nat.le_of_ble_eq_true rfl) rfl rfl (Nat.le_of_ble_eq_true rfl) (by rw [hk]; exact Nat.le_of_ble_eq_true rfl) (by rw [hk]; exact Nat.le_of_ble_eq_true rfl) dJ1_charAt_3b067_3 ?_
  show BV x _ 6 _ [] _ _ _
  refine b_aload_n G dJ1_charAt_3b067_6 0 rfl ?_
  refine b_iload_n G dJ1_charAt_3b067_7 1 rfl ?_
  refine b_strb G (vp_in_nI h0 (by decide)) dJ1_charAt_3b067_8 ?_
  rw [nI_clamp (show k < 2 ^ 31 by omega)]
  refine b_sipush 255 G dJ1_charAt_3b067_9 (by decide) ?_
  refine b_iand G dJ1_charAt_3b067_12 ?_
  refine b_i2c G dJ1_charAt_3b067_13 ?_
  rw [kw_ch k h0]
  exact b_iret G (kw_nar k h0) hk dJ1_charAt_3b067_14
theorem cj_char {l : Launch} {cy : Nat → ClassId} {w : Nat × Nat} {D : va_G} {z : Nat} {E : KE} {k : Nat} (h0 : k < 141) : BC l cy w D z yJ0_charAt_5068e cJ0_charAt_5068e 2 (some .char) (some (.int (kwBytes.getD k 0))) 4 0 0 [.ref w.1, .int (nI k)] E E := by
  refine bv_enter false (by decide +kernel) (fun h => by cases h) (Nat.le_of_ble_eq_true rfl) ?_
  intro x hl hD hz hk G
  subst hl hD hz
  refine b_aload_n G dJ0_charAt_5068e_0 0 rfl ?_
  refine b_callT [] G (cj_latin) rfl t_56 t_57 t_58 t_4 t_59 nm_J0_isLatin1_aae02 (Nat.le_of_ble_eq_true rfl) (Nat.le_of_ble_eq_true rfl) rfl rfl (Nat.le_of_ble_eq_true rfl) (by rw [hk]; exact Nat.le_of_ble_eq_true rfl) (by rw [hk]; exact Nat.le_of_ble_eq_true rfl) dJ0_charAt_5068e_1 ?_
  show BV x _ 4 _ [.int 1] _ _ _
  refine b_if_eq 16 G dJ0_charAt_5068e_4 rfl (fun h => absurd h (by decide)) (fun _ => ?_)
  refine b_aload_n G dJ0_charAt_5068e_7 0 rfl ?_
  refine b_strv G t_1290 dJ0_charAt_5068e_8 ?_
  refine b_iload_n G dJ0_charAt_5068e_11 1 rfl ?_
  refine b_callS [.ref w.2, .int (nI k)] G (cj_lchar h0) t_60 t_61 t_5 t_62 nm_J1_charAt_3b067 (Nat.le_of_ble_eq_true rfl) (Nat.le_of_ble_eq_true rfl) rfl rfl (Nat.le_of_ble_eq_true rfl) (by rw [hk]; exact Nat.le_of_ble_eq_true rfl) (by rw [hk]; exact Nat.le_of_ble_eq_true rfl) dJ0_charAt_5068e_12 ?_
  show BV x _ 15 _ [.int (kwBytes.getD k 0)] _ _ _
  exact b_iret G (kw_nar k h0) hk dJ0_charAt_5068e_15
