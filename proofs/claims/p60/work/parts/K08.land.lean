abbrev cX2_clear : ByteArray := prog_4_method_2_code
def yX2_clear : MethodName := ⟨RX2, "clear", "()V"⟩
theorem dX2_clear_0 : dc cX2_clear 0 (.aload_n 0) 1 1 := ⟨by decide +kernel, rfl⟩
theorem dX2_clear_1 : dc cX2_clear 1 (.iconst 0) 1 2 := ⟨by decide +kernel, rfl⟩
theorem dX2_clear_2 : dc cX2_clear 2 (.putfield 63) 3 5 := ⟨by decide +kernel, rfl⟩
theorem dX2_clear_5 : dc cX2_clear 5 (.aload_n 0) 1 6 := ⟨by decide +kernel, rfl⟩
theorem dX2_clear_6 : dc cX2_clear 6 (.iconst 0) 1 7 := ⟨by decide +kernel, rfl⟩
theorem dX2_clear_7 : dc cX2_clear 7 (.putfield 66) 3 10 := ⟨by decide +kernel, rfl⟩
theorem dX2_clear_10 : dc cX2_clear 10 (.aload_n 0) 1 11 := ⟨by decide +kernel, rfl⟩
theorem dX2_clear_11 : dc cX2_clear 11 (.iconst 0) 1 12 := ⟨by decide +kernel, rfl⟩
theorem dX2_clear_12 : dc cX2_clear 12 (.putfield 69) 3 15 := ⟨by decide +kernel, rfl⟩
theorem dX2_clear_15 : dc cX2_clear 15 (.aload_n 0) 1 16 := ⟨by decide +kernel, rfl⟩
theorem dX2_clear_16 : dc cX2_clear 16 (.getfield 38) 3 19 := ⟨by decide +kernel, rfl⟩
theorem dX2_clear_19 : dc cX2_clear 19 (.bipush 10) 2 21 := ⟨by decide +kernel, rfl⟩
theorem dX2_clear_21 : dc cX2_clear 21 (.bipush 16) 2 23 := ⟨by decide +kernel, rfl⟩
theorem dX2_clear_23 : dc cX2_clear 23 (.invokevirtual 72) 3 26 := ⟨by decide +kernel, rfl⟩
theorem dX2_clear_26 : dc cX2_clear 26 (.aload_n 0) 1 27 := ⟨by decide +kernel, rfl⟩
theorem dX2_clear_27 : dc cX2_clear 27 (.sipush 480) 3 30 := ⟨by decide +kernel, rfl⟩
theorem dX2_clear_30 : dc cX2_clear 30 (.putfield 49) 3 33 := ⟨by decide +kernel, rfl⟩
theorem dX2_clear_33 : dc cX2_clear 33 (.aload_n 0) 1 34 := ⟨by decide +kernel, rfl⟩
theorem dX2_clear_34 : dc cX2_clear 34 (.bipush 9) 2 36 := ⟨by decide +kernel, rfl⟩
theorem dX2_clear_36 : dc cX2_clear 36 (.putfield 53) 3 39 := ⟨by decide +kernel, rfl⟩
theorem dX2_clear_39 : dc cX2_clear 39 (.aload_n 0) 1 40 := ⟨by decide +kernel, rfl⟩
theorem dX2_clear_40 : dc cX2_clear 40 (.iconst 3) 1 41 := ⟨by decide +kernel, rfl⟩
theorem dX2_clear_41 : dc cX2_clear 41 (.putfield 56) 3 44 := ⟨by decide +kernel, rfl⟩
theorem dX2_clear_44 : dc cX2_clear 44 (.aload_n 0) 1 45 := ⟨by decide +kernel, rfl⟩
theorem dX2_clear_45 : dc cX2_clear 45 (.iconst 4) 1 46 := ⟨by decide +kernel, rfl⟩
theorem dX2_clear_46 : dc cX2_clear 46 (.putfield 59) 3 49 := ⟨by decide +kernel, rfl⟩
theorem dX2_clear_49 : dc cX2_clear 49 (.aload_n 0) 1 50 := ⟨by decide +kernel, rfl⟩
theorem dX2_clear_50 : dc cX2_clear 50 (.iconst 0) 1 51 := ⟨by decide +kernel, rfl⟩
theorem dX2_clear_51 : dc cX2_clear 51 (.putfield 76) 3 54 := ⟨by decide +kernel, rfl⟩
theorem dX2_clear_54 : dc cX2_clear 54 (.aload_n 0) 1 55 := ⟨by decide +kernel, rfl⟩
theorem dX2_clear_55 : dc cX2_clear 55 (.getfield 45) 3 58 := ⟨by decide +kernel, rfl⟩
theorem dX2_clear_58 : dc cX2_clear 58 (.invokevirtual 80) 3 61 := ⟨by decide +kernel, rfl⟩
theorem dX2_clear_61 : dc cX2_clear 61 (.return_) 1 62 := ⟨by decide +kernel, rfl⟩
theorem nm_X2_clear : (yX2_clear).cls ≠ "java/lang/invoke/MethodHandle" ∧ (yX2_clear).cls ≠ "java/lang/invoke/VarHandle" ∧ (parseMethodDescriptor (yX2_clear).desc).map (fun d => d.parameters.length) = some 0 := ⟨by decide +kernel, by decide +kernel, by decide +kernel⟩
set_option maxRecDepth 100000 in
set_option maxHeartbeats 4000000 in
theorem c_X2_clear {l : Launch} {ad : Nat → Nat} {cy : Nat → ClassId} {D : va_G} {z : Nat} {a0 : Nat} {M : KM} {y : KM} (h0 : kty a0 = 3) (hf : f_X2_clear a0 M = y) : KC l ad cy D z yX2_clear cX2_clear 1 none 2 [.ref (ad a0)] M (none, y) := by
  refine kv_enter (by decide +kernel) (Nat.le_of_ble_eq_true rfl) ?_
  intro x hl hD hz G
  subst hl hD hz
  unfold f_X2_clear at hf
  have G : KG ad cy x cX2_clear "NoonGuides$Land" 1 (some none) 2 := G
  show KV ad cy x (none, y) 0 [(0, .ref (ad a0))] [] M
  refine v_aload_n G dX2_clear_0 0 rfl ?_
  refine v_iconst (0 : Int32) G dX2_clear_1 (by decide) ?_
  refine pf_2_8 G h0 t_381 (Or.inl rfl) dX2_clear_2 ?_
  refine v_nmM (fun M1 eM1 => ?_)
  replace hf := lt_e hf eM1
  refine v_aload_n G dX2_clear_5 0 rfl ?_
  refine v_iconst (0 : Int32) G dX2_clear_6 (by decide) ?_
  refine pf_2_9 G h0 t_385 (Or.inl rfl) dX2_clear_7 ?_
  refine v_nmM (fun M2 eM2 => ?_)
  replace hf := lt_e hf eM2
  refine v_aload_n G dX2_clear_10 0 rfl ?_
  refine v_iconst (0 : Int32) G dX2_clear_11 (by decide) ?_
  refine pf_2_10 G h0 t_389 (Or.inl rfl) dX2_clear_12 ?_
  refine v_nmM (fun M3 eM3 => ?_)
  replace hf := lt_e hf eM3
  refine v_aload_n G dX2_clear_15 0 rfl ?_
  refine gf_2_6 G h0 t_376 (Or.inl rfl) dX2_clear_16 ?_
  refine v_bipush (10 : Int32) G dX2_clear_19 (by decide) ?_
  refine v_bipush (16 : Int32) G dX2_clear_21 (by decide) ?_
  obtain ⟨v4, hcv4⟩ : ∃ q, f_X1_set (a0 + 7) (10 : Int32) (16 : Int32) M3 = q := ⟨_, rfl⟩
  replace hf := lt_e hf hcv4.symm
  refine v_callV [.int (10 : Int32), .int (16 : Int32)] G (c_X1_set (kf_2_7 h0) hcv4) (kf_2_7 h0) (by decide) rfl rfl rfl t_917 t_901 t_902 t_12 t_903 nm_X1_set (by decide) (by decide) rfl rfl (Nat.le_of_ble_eq_true rfl) dX2_clear_23 (kv_rv ?_)
  refine v_aload_n G dX2_clear_26 0 rfl ?_
  refine v_sipush (480 : Int32) G dX2_clear_27 (by decide) ?_
  refine pf_2_11 G h0 t_393 (Or.inl rfl) dX2_clear_30 ?_
  refine v_nmM (fun M5 eM5 => ?_)
  replace hf := lt_e hf eM5
  refine v_aload_n G dX2_clear_33 0 rfl ?_
  refine v_bipush (9 : Int32) G dX2_clear_34 (by decide) ?_
  refine pf_2_12 G h0 t_397 (Or.inl rfl) dX2_clear_36 ?_
  refine v_nmM (fun M6 eM6 => ?_)
  replace hf := lt_e hf eM6
  refine v_aload_n G dX2_clear_39 0 rfl ?_
  refine v_iconst (3 : Int32) G dX2_clear_40 (by decide) ?_
  refine pf_2_13 G h0 t_400 (Or.inl rfl) dX2_clear_41 ?_
  refine v_nmM (fun M7 eM7 => ?_)
  replace hf := lt_e hf eM7
  refine v_aload_n G dX2_clear_44 0 rfl ?_
  refine v_iconst (4 : Int32) G dX2_clear_45 (by decide) ?_
  refine pf_2_14 G h0 t_403 (Or.inl rfl) dX2_clear_46 ?_
  refine v_nmM (fun M8 eM8 => ?_)
  replace hf := lt_e hf eM8
  refine v_aload_n G dX2_clear_49 0 rfl ?_
  refine v_iconst (0 : Int32) G dX2_clear_50 (by decide) ?_
  refine pf_2_15 G h0 (Or.inl rfl) t_406 (Or.inl rfl) dX2_clear_51 ?_
  refine v_nmM (fun M9 eM9 => ?_)
  replace hf := lt_e hf eM9
  refine v_aload_n G dX2_clear_54 0 rfl ?_
  refine gf_2_7 G h0 t_379 (Or.inl rfl) dX2_clear_55 ?_
  refine v_kt (fun hKT => ?_)
  have hk10 := hKT.2.2.2.1 _ h0
  obtain ⟨v11, hcv11⟩ : ∃ q, f_X8_clear (M9.2.2 a0 7) M9 = q := ⟨_, rfl⟩
  replace hf := lt_e hf hcv11.symm
  refine v_callV [] G (c_X8_clear hk10 hcv11) hk10 (by decide) rfl rfl rfl t_995 t_996 t_997 t_14 t_998 nm_X8_clear (by decide) (by decide) rfl rfl (Nat.le_of_ble_eq_true rfl) dX2_clear_58 (kv_rv ?_)
  obtain rfl := hf
  exact v_vret G dX2_clear_61
abbrev cX2_copyFrom : ByteArray := prog_4_method_3_code
def yX2_copyFrom : MethodName := ⟨RX2, "copyFrom", "(LNoonGuides$Land;)V"⟩
theorem dX2_copyFrom_0 : dc cX2_copyFrom 0 (.aload_n 0) 1 1 := ⟨by decide +kernel, rfl⟩
theorem dX2_copyFrom_1 : dc cX2_copyFrom 1 (.aload_n 1) 1 2 := ⟨by decide +kernel, rfl⟩
theorem dX2_copyFrom_2 : dc cX2_copyFrom 2 (.getfield 63) 3 5 := ⟨by decide +kernel, rfl⟩
theorem dX2_copyFrom_5 : dc cX2_copyFrom 5 (.putfield 63) 3 8 := ⟨by decide +kernel, rfl⟩
theorem dX2_copyFrom_8 : dc cX2_copyFrom 8 (.aload_n 0) 1 9 := ⟨by decide +kernel, rfl⟩
theorem dX2_copyFrom_9 : dc cX2_copyFrom 9 (.aload_n 1) 1 10 := ⟨by decide +kernel, rfl⟩
theorem dX2_copyFrom_10 : dc cX2_copyFrom 10 (.getfield 66) 3 13 := ⟨by decide +kernel, rfl⟩
theorem dX2_copyFrom_13 : dc cX2_copyFrom 13 (.putfield 66) 3 16 := ⟨by decide +kernel, rfl⟩
theorem dX2_copyFrom_16 : dc cX2_copyFrom 16 (.aload_n 0) 1 17 := ⟨by decide +kernel, rfl⟩
theorem dX2_copyFrom_17 : dc cX2_copyFrom 17 (.aload_n 1) 1 18 := ⟨by decide +kernel, rfl⟩
theorem dX2_copyFrom_18 : dc cX2_copyFrom 18 (.getfield 69) 3 21 := ⟨by decide +kernel, rfl⟩
theorem dX2_copyFrom_21 : dc cX2_copyFrom 21 (.putfield 69) 3 24 := ⟨by decide +kernel, rfl⟩
theorem dX2_copyFrom_24 : dc cX2_copyFrom 24 (.aload_n 0) 1 25 := ⟨by decide +kernel, rfl⟩
theorem dX2_copyFrom_25 : dc cX2_copyFrom 25 (.getfield 38) 3 28 := ⟨by decide +kernel, rfl⟩
theorem dX2_copyFrom_28 : dc cX2_copyFrom 28 (.aload_n 1) 1 29 := ⟨by decide +kernel, rfl⟩
theorem dX2_copyFrom_29 : dc cX2_copyFrom 29 (.getfield 38) 3 32 := ⟨by decide +kernel, rfl⟩
theorem dX2_copyFrom_32 : dc cX2_copyFrom 32 (.getfield 83) 3 35 := ⟨by decide +kernel, rfl⟩
theorem dX2_copyFrom_35 : dc cX2_copyFrom 35 (.aload_n 1) 1 36 := ⟨by decide +kernel, rfl⟩
theorem dX2_copyFrom_36 : dc cX2_copyFrom 36 (.getfield 38) 3 39 := ⟨by decide +kernel, rfl⟩
theorem dX2_copyFrom_39 : dc cX2_copyFrom 39 (.getfield 86) 3 42 := ⟨by decide +kernel, rfl⟩
theorem dX2_copyFrom_42 : dc cX2_copyFrom 42 (.invokevirtual 72) 3 45 := ⟨by decide +kernel, rfl⟩
theorem dX2_copyFrom_45 : dc cX2_copyFrom 45 (.aload_n 0) 1 46 := ⟨by decide +kernel, rfl⟩
theorem dX2_copyFrom_46 : dc cX2_copyFrom 46 (.aload_n 1) 1 47 := ⟨by decide +kernel, rfl⟩
theorem dX2_copyFrom_47 : dc cX2_copyFrom 47 (.getfield 49) 3 50 := ⟨by decide +kernel, rfl⟩
theorem dX2_copyFrom_50 : dc cX2_copyFrom 50 (.putfield 49) 3 53 := ⟨by decide +kernel, rfl⟩
theorem dX2_copyFrom_53 : dc cX2_copyFrom 53 (.aload_n 0) 1 54 := ⟨by decide +kernel, rfl⟩
theorem dX2_copyFrom_54 : dc cX2_copyFrom 54 (.aload_n 1) 1 55 := ⟨by decide +kernel, rfl⟩
theorem dX2_copyFrom_55 : dc cX2_copyFrom 55 (.getfield 53) 3 58 := ⟨by decide +kernel, rfl⟩
theorem dX2_copyFrom_58 : dc cX2_copyFrom 58 (.putfield 53) 3 61 := ⟨by decide +kernel, rfl⟩
theorem dX2_copyFrom_61 : dc cX2_copyFrom 61 (.aload_n 0) 1 62 := ⟨by decide +kernel, rfl⟩
theorem dX2_copyFrom_62 : dc cX2_copyFrom 62 (.aload_n 1) 1 63 := ⟨by decide +kernel, rfl⟩
theorem dX2_copyFrom_63 : dc cX2_copyFrom 63 (.getfield 56) 3 66 := ⟨by decide +kernel, rfl⟩
theorem dX2_copyFrom_66 : dc cX2_copyFrom 66 (.putfield 56) 3 69 := ⟨by decide +kernel, rfl⟩
theorem dX2_copyFrom_69 : dc cX2_copyFrom 69 (.aload_n 0) 1 70 := ⟨by decide +kernel, rfl⟩
theorem dX2_copyFrom_70 : dc cX2_copyFrom 70 (.aload_n 1) 1 71 := ⟨by decide +kernel, rfl⟩
theorem dX2_copyFrom_71 : dc cX2_copyFrom 71 (.getfield 59) 3 74 := ⟨by decide +kernel, rfl⟩
theorem dX2_copyFrom_74 : dc cX2_copyFrom 74 (.putfield 59) 3 77 := ⟨by decide +kernel, rfl⟩
theorem dX2_copyFrom_77 : dc cX2_copyFrom 77 (.aload_n 0) 1 78 := ⟨by decide +kernel, rfl⟩
theorem dX2_copyFrom_78 : dc cX2_copyFrom 78 (.aload_n 1) 1 79 := ⟨by decide +kernel, rfl⟩
theorem dX2_copyFrom_79 : dc cX2_copyFrom 79 (.getfield 76) 3 82 := ⟨by decide +kernel, rfl⟩
theorem dX2_copyFrom_82 : dc cX2_copyFrom 82 (.putfield 76) 3 85 := ⟨by decide +kernel, rfl⟩
theorem dX2_copyFrom_85 : dc cX2_copyFrom 85 (.aload_n 0) 1 86 := ⟨by decide +kernel, rfl⟩
theorem dX2_copyFrom_86 : dc cX2_copyFrom 86 (.getfield 45) 3 89 := ⟨by decide +kernel, rfl⟩
theorem dX2_copyFrom_89 : dc cX2_copyFrom 89 (.aload_n 1) 1 90 := ⟨by decide +kernel, rfl⟩
theorem dX2_copyFrom_90 : dc cX2_copyFrom 90 (.getfield 45) 3 93 := ⟨by decide +kernel, rfl⟩
theorem dX2_copyFrom_93 : dc cX2_copyFrom 93 (.invokevirtual 89) 3 96 := ⟨by decide +kernel, rfl⟩
theorem dX2_copyFrom_96 : dc cX2_copyFrom 96 (.aload_n 1) 1 97 := ⟨by decide +kernel, rfl⟩
theorem dX2_copyFrom_97 : dc cX2_copyFrom 97 (.getfield 9) 3 100 := ⟨by decide +kernel, rfl⟩
theorem dX2_copyFrom_100 : dc cX2_copyFrom 100 (.iconst 0) 1 101 := ⟨by decide +kernel, rfl⟩
theorem dX2_copyFrom_101 : dc cX2_copyFrom 101 (.aload_n 0) 1 102 := ⟨by decide +kernel, rfl⟩
theorem dX2_copyFrom_102 : dc cX2_copyFrom 102 (.getfield 9) 3 105 := ⟨by decide +kernel, rfl⟩
theorem dX2_copyFrom_105 : dc cX2_copyFrom 105 (.iconst 0) 1 106 := ⟨by decide +kernel, rfl⟩
theorem dX2_copyFrom_106 : dc cX2_copyFrom 106 (.bipush 8) 2 108 := ⟨by decide +kernel, rfl⟩
theorem dX2_copyFrom_108 : dc cX2_copyFrom 108 (.invokestatic 93) 3 111 := ⟨by decide +kernel, rfl⟩
theorem dX2_copyFrom_111 : dc cX2_copyFrom 111 (.aload_n 1) 1 112 := ⟨by decide +kernel, rfl⟩
theorem dX2_copyFrom_112 : dc cX2_copyFrom 112 (.getfield 15) 3 115 := ⟨by decide +kernel, rfl⟩
theorem dX2_copyFrom_115 : dc cX2_copyFrom 115 (.iconst 0) 1 116 := ⟨by decide +kernel, rfl⟩
theorem dX2_copyFrom_116 : dc cX2_copyFrom 116 (.aload_n 0) 1 117 := ⟨by decide +kernel, rfl⟩
theorem dX2_copyFrom_117 : dc cX2_copyFrom 117 (.getfield 15) 3 120 := ⟨by decide +kernel, rfl⟩
theorem dX2_copyFrom_120 : dc cX2_copyFrom 120 (.iconst 0) 1 121 := ⟨by decide +kernel, rfl⟩
theorem dX2_copyFrom_121 : dc cX2_copyFrom 121 (.bipush 12) 2 123 := ⟨by decide +kernel, rfl⟩
theorem dX2_copyFrom_123 : dc cX2_copyFrom 123 (.invokestatic 93) 3 126 := ⟨by decide +kernel, rfl⟩
theorem dX2_copyFrom_126 : dc cX2_copyFrom 126 (.aload_n 1) 1 127 := ⟨by decide +kernel, rfl⟩
theorem dX2_copyFrom_127 : dc cX2_copyFrom 127 (.getfield 19) 3 130 := ⟨by decide +kernel, rfl⟩
theorem dX2_copyFrom_130 : dc cX2_copyFrom 130 (.iconst 0) 1 131 := ⟨by decide +kernel, rfl⟩
theorem dX2_copyFrom_131 : dc cX2_copyFrom 131 (.aload_n 0) 1 132 := ⟨by decide +kernel, rfl⟩
theorem dX2_copyFrom_132 : dc cX2_copyFrom 132 (.getfield 19) 3 135 := ⟨by decide +kernel, rfl⟩
theorem dX2_copyFrom_135 : dc cX2_copyFrom 135 (.iconst 0) 1 136 := ⟨by decide +kernel, rfl⟩
theorem dX2_copyFrom_136 : dc cX2_copyFrom 136 (.bipush 12) 2 138 := ⟨by decide +kernel, rfl⟩
theorem dX2_copyFrom_138 : dc cX2_copyFrom 138 (.invokestatic 93) 3 141 := ⟨by decide +kernel, rfl⟩
theorem dX2_copyFrom_141 : dc cX2_copyFrom 141 (.aload_n 1) 1 142 := ⟨by decide +kernel, rfl⟩
theorem dX2_copyFrom_142 : dc cX2_copyFrom 142 (.getfield 22) 3 145 := ⟨by decide +kernel, rfl⟩
theorem dX2_copyFrom_145 : dc cX2_copyFrom 145 (.iconst 0) 1 146 := ⟨by decide +kernel, rfl⟩
theorem dX2_copyFrom_146 : dc cX2_copyFrom 146 (.aload_n 0) 1 147 := ⟨by decide +kernel, rfl⟩
theorem dX2_copyFrom_147 : dc cX2_copyFrom 147 (.getfield 22) 3 150 := ⟨by decide +kernel, rfl⟩
theorem dX2_copyFrom_150 : dc cX2_copyFrom 150 (.iconst 0) 1 151 := ⟨by decide +kernel, rfl⟩
theorem dX2_copyFrom_151 : dc cX2_copyFrom 151 (.bipush 12) 2 153 := ⟨by decide +kernel, rfl⟩
theorem dX2_copyFrom_153 : dc cX2_copyFrom 153 (.invokestatic 93) 3 156 := ⟨by decide +kernel, rfl⟩
theorem dX2_copyFrom_156 : dc cX2_copyFrom 156 (.iconst 0) 1 157 := ⟨by decide +kernel, rfl⟩
theorem dX2_copyFrom_157 : dc cX2_copyFrom 157 (.istore_n 2) 1 158 := ⟨by decide +kernel, rfl⟩
theorem dX2_copyFrom_158 : dc cX2_copyFrom 158 (.iload_n 2) 1 159 := ⟨by decide +kernel, rfl⟩
theorem dX2_copyFrom_159 : dc cX2_copyFrom 159 (.bipush 12) 2 161 := ⟨by decide +kernel, rfl⟩
theorem dX2_copyFrom_161 : dc cX2_copyFrom 161 (.if_icmp .ge 21) 3 164 := ⟨by decide +kernel, rfl⟩
theorem dX2_copyFrom_164 : dc cX2_copyFrom 164 (.aload_n 0) 1 165 := ⟨by decide +kernel, rfl⟩
theorem dX2_copyFrom_165 : dc cX2_copyFrom 165 (.getfield 25) 3 168 := ⟨by decide +kernel, rfl⟩
theorem dX2_copyFrom_168 : dc cX2_copyFrom 168 (.iload_n 2) 1 169 := ⟨by decide +kernel, rfl⟩
theorem dX2_copyFrom_169 : dc cX2_copyFrom 169 (.aload_n 1) 1 170 := ⟨by decide +kernel, rfl⟩
theorem dX2_copyFrom_170 : dc cX2_copyFrom 170 (.getfield 25) 3 173 := ⟨by decide +kernel, rfl⟩
theorem dX2_copyFrom_173 : dc cX2_copyFrom 173 (.iload_n 2) 1 174 := ⟨by decide +kernel, rfl⟩
theorem dX2_copyFrom_174 : dc cX2_copyFrom 174 (.baload) 1 175 := ⟨by decide +kernel, rfl⟩
theorem dX2_copyFrom_175 : dc cX2_copyFrom 175 (.bastore) 1 176 := ⟨by decide +kernel, rfl⟩
theorem dX2_copyFrom_176 : dc cX2_copyFrom 176 (.iinc 2 1) 3 179 := ⟨by decide +kernel, rfl⟩
theorem dX2_copyFrom_179 : dc cX2_copyFrom 179 (.goto (-21)) 3 182 := ⟨by decide +kernel, rfl⟩
theorem dX2_copyFrom_182 : dc cX2_copyFrom 182 (.iconst 0) 1 183 := ⟨by decide +kernel, rfl⟩
theorem dX2_copyFrom_183 : dc cX2_copyFrom 183 (.istore_n 2) 1 184 := ⟨by decide +kernel, rfl⟩
theorem dX2_copyFrom_184 : dc cX2_copyFrom 184 (.iload_n 2) 1 185 := ⟨by decide +kernel, rfl⟩
theorem dX2_copyFrom_185 : dc cX2_copyFrom 185 (.bipush 8) 2 187 := ⟨by decide +kernel, rfl⟩
theorem dX2_copyFrom_187 : dc cX2_copyFrom 187 (.if_icmp .ge 24) 3 190 := ⟨by decide +kernel, rfl⟩
theorem dX2_copyFrom_190 : dc cX2_copyFrom 190 (.aload_n 0) 1 191 := ⟨by decide +kernel, rfl⟩
theorem dX2_copyFrom_191 : dc cX2_copyFrom 191 (.getfield 31) 3 194 := ⟨by decide +kernel, rfl⟩
theorem dX2_copyFrom_194 : dc cX2_copyFrom 194 (.iload_n 2) 1 195 := ⟨by decide +kernel, rfl⟩
theorem dX2_copyFrom_195 : dc cX2_copyFrom 195 (.aaload) 1 196 := ⟨by decide +kernel, rfl⟩
theorem dX2_copyFrom_196 : dc cX2_copyFrom 196 (.aload_n 1) 1 197 := ⟨by decide +kernel, rfl⟩
theorem dX2_copyFrom_197 : dc cX2_copyFrom 197 (.getfield 31) 3 200 := ⟨by decide +kernel, rfl⟩
theorem dX2_copyFrom_200 : dc cX2_copyFrom 200 (.iload_n 2) 1 201 := ⟨by decide +kernel, rfl⟩
theorem dX2_copyFrom_201 : dc cX2_copyFrom 201 (.aaload) 1 202 := ⟨by decide +kernel, rfl⟩
theorem dX2_copyFrom_202 : dc cX2_copyFrom 202 (.invokevirtual 99) 3 205 := ⟨by decide +kernel, rfl⟩
theorem dX2_copyFrom_205 : dc cX2_copyFrom 205 (.iinc 2 1) 3 208 := ⟨by decide +kernel, rfl⟩
theorem dX2_copyFrom_208 : dc cX2_copyFrom 208 (.goto (-24)) 3 211 := ⟨by decide +kernel, rfl⟩
theorem dX2_copyFrom_211 : dc cX2_copyFrom 211 (.return_) 1 212 := ⟨by decide +kernel, rfl⟩
theorem nm_X2_copyFrom : (yX2_copyFrom).cls ≠ "java/lang/invoke/MethodHandle" ∧ (yX2_copyFrom).cls ≠ "java/lang/invoke/VarHandle" ∧ (parseMethodDescriptor (yX2_copyFrom).desc).map (fun d => d.parameters.length) = some 1 := ⟨by decide +kernel, by decide +kernel, by decide +kernel⟩
set_option maxRecDepth 100000 in
set_option maxHeartbeats 4000000 in
theorem s_X2_copyFrom_158 {ad : Nat → Nat} {cy : Nat → ClassId} {x : KX} (G : KG ad cy x cX2_copyFrom "NoonGuides$Land" 3 (some none) 2) {a0 : Nat} {a1 : Nat} (h0 : kty a0 = 3) (h1 : kty a1 = 3) {k182 : KM → Option KM} {y : KM} (hk182 : ∀ (M : KM), k182 M = some y → KV ad cy x (none, y) 182 [(0, .ref (ad a0)), (1, .ref (ad a1))] [] M) : ∀ (n : Nat) (w2 : Int32) (M : KM), lp_X2_copyFrom_158 n a0 a1 w2 M k182 = some y → KV ad cy x (none, y) 158 [(0, .ref (ad a0)), (1, .ref (ad a1)), (2, .int w2)] [] M := by
  intro n
  induction n with
  | zero =>
    intro w2 M hf
    cases hf
  | succ n ih =>
    intro w2 M hf
    rw [lp_X2_copyFrom_158] at hf
    refine v_iload_n G dX2_copyFrom_158 2 rfl ?_
    refine v_bipush (12 : Int32) G dX2_copyFrom_159 (by decide) ?_
    refine v_icmp_ge 182 G dX2_copyFrom_161 (by decide) (fun h26 => ?_) (fun h26 => ?_)
    · replace hf := (if_pos h26).symm.trans hf
      refine v_sub _ [0, 1] rfl ?_
      exact hk182 M hf
    · replace hf := (if_neg h26).symm.trans hf
      refine v_aload_n G dX2_copyFrom_164 0 rfl ?_
      refine gf_2_4 G h0 t_369 (Or.inl rfl) dX2_copyFrom_165 ?_
      refine v_iload_n G dX2_copyFrom_168 2 rfl ?_
      refine v_aload_n G dX2_copyFrom_169 1 rfl ?_
      refine gf_2_4 G h1 t_369 (Or.inl rfl) dX2_copyFrom_170 ?_
      refine v_iload_n G dX2_copyFrom_173 2 rfl ?_
      obtain ⟨g22, hf⟩ := gd_e hf
      refine al_31 G (kf_2_5 h1) g22 dX2_copyFrom_174 ?_
      obtain ⟨g23, hf⟩ := gd_e hf
      refine as_31 G (kf_2_5 h0) g23 dX2_copyFrom_175 ?_
      refine v_nmM (fun M24 eM24 => ?_)
      replace hf := lt_e hf eM24
      obtain ⟨v25, ev25⟩ : ∃ q : Int32, q = w2 + (1 : Int32) := ⟨_, rfl⟩
      replace hf := lt_e hf ev25
      refine v_iinc v25 [(2, .int v25), (0, .ref (ad a0)), (1, .ref (ad a1))] G dX2_copyFrom_176 2 rfl (by rw [ev25]; rfl) (by decide) rfl ?_
      refine v_goto 158 G dX2_copyFrom_179 (by decide) ?_
      refine v_sub _ [1, 2, 0] rfl ?_
      exact ih v25 M24 hf
set_option maxRecDepth 100000 in
set_option maxHeartbeats 4000000 in
theorem s_X2_copyFrom_184 {ad : Nat → Nat} {cy : Nat → ClassId} {x : KX} (G : KG ad cy x cX2_copyFrom "NoonGuides$Land" 3 (some none) 2) {a0 : Nat} {a1 : Nat} (h0 : kty a0 = 3) (h1 : kty a1 = 3) {y : KM} : ∀ (n : Nat) (w2 : Int32) (M : KM), lp_X2_copyFrom_184 n a0 a1 w2 M = some y → KV ad cy x (none, y) 184 [(0, .ref (ad a0)), (1, .ref (ad a1)), (2, .int w2)] [] M := by
  intro n
  induction n with
  | zero =>
    intro w2 M hf
    cases hf
  | succ n ih =>
    intro w2 M hf
    rw [lp_X2_copyFrom_184] at hf
    refine v_iload_n G dX2_copyFrom_184 2 rfl ?_
    refine v_bipush (8 : Int32) G dX2_copyFrom_185 (by decide) ?_
    refine v_icmp_ge 211 G dX2_copyFrom_187 (by decide) (fun h32 => ?_) (fun h32 => ?_)
    · replace hf := (if_pos h32).symm.trans hf
      obtain rfl := Option.some.inj hf
      exact v_vret G dX2_copyFrom_211
    · replace hf := (if_neg h32).symm.trans hf
      refine v_aload_n G dX2_copyFrom_190 0 rfl ?_
      refine gf_2_5 G h0 t_371 (Or.inl rfl) dX2_copyFrom_191 ?_
      refine v_iload_n G dX2_copyFrom_194 2 rfl ?_
      obtain ⟨g28, hf⟩ := gd_e hf
      refine al_Person G (kf_2_6 h0) g28 dX2_copyFrom_195 ?_
      refine v_aload_n G dX2_copyFrom_196 1 rfl ?_
      refine gf_2_5 G h1 t_371 (Or.inl rfl) dX2_copyFrom_197 ?_
      refine v_iload_n G dX2_copyFrom_200 2 rfl ?_
      obtain ⟨g29, hf⟩ := gd_e hf
      refine al_Person G (kf_2_6 h1) g29 dX2_copyFrom_201 ?_
      obtain ⟨v30, hcv30, hf⟩ := bd_e hf
      refine v_callV [.ref (ad ((a1 + 6) + 8 + 3 * (w2).toNatClampNeg))] G (c_X7_copyFrom n (ke_Person (kf_2_6 h0) (ix_lt g28)) (ke_Person (kf_2_6 h1) (ix_lt g29)) hcv30) (ke_Person (kf_2_6 h0) (ix_lt g28)) (by decide) rfl rfl rfl t_924 t_925 t_926 t_15 t_927 nm_X7_copyFrom (by decide) (by decide) rfl rfl (Nat.le_of_ble_eq_true rfl) dX2_copyFrom_202 (kv_rv ?_)
      obtain ⟨v31, ev31⟩ : ∃ q : Int32, q = w2 + (1 : Int32) := ⟨_, rfl⟩
      replace hf := lt_e hf ev31
      refine v_iinc v31 [(2, .int v31), (0, .ref (ad a0)), (1, .ref (ad a1))] G dX2_copyFrom_205 2 rfl (by rw [ev31]; rfl) (by decide) rfl ?_
      refine v_goto 184 G dX2_copyFrom_208 (by decide) ?_
      refine v_sub _ [1, 2, 0] rfl ?_
      exact ih v31 v30 hf
set_option maxRecDepth 100000 in
set_option maxHeartbeats 4000000 in
theorem c_X2_copyFrom {l : Launch} {ad : Nat → Nat} {cy : Nat → ClassId} {D : va_G} {z : Nat} (n : Nat) {a0 : Nat} {a1 : Nat} {M : KM} {y : KM} (h0 : kty a0 = 3) (h1 : kty a1 = 3) (hf : f_X2_copyFrom n a0 a1 M = some y) : KC l ad cy D z yX2_copyFrom cX2_copyFrom 3 none 2 [.ref (ad a0), .ref (ad a1)] M (none, y) := by
  refine kv_enter (by decide +kernel) (Nat.le_of_ble_eq_true rfl) ?_
  intro x hl hD hz G
  subst hl hD hz
  unfold f_X2_copyFrom at hf
  have G : KG ad cy x cX2_copyFrom "NoonGuides$Land" 3 (some none) 2 := G
  show KV ad cy x (none, y) 0 [(0, .ref (ad a0)), (1, .ref (ad a1))] [] M
  refine v_aload_n G dX2_copyFrom_0 0 rfl ?_
  refine v_aload_n G dX2_copyFrom_1 1 rfl ?_
  refine gf_2_8 G h1 t_381 (Or.inl rfl) dX2_copyFrom_2 ?_
  refine pf_2_8 G h0 t_381 (Or.inl rfl) dX2_copyFrom_5 ?_
  refine v_nmM (fun M1 eM1 => ?_)
  replace hf := lt_e hf eM1
  refine v_aload_n G dX2_copyFrom_8 0 rfl ?_
  refine v_aload_n G dX2_copyFrom_9 1 rfl ?_
  refine gf_2_9 G h1 t_385 (Or.inl rfl) dX2_copyFrom_10 ?_
  refine pf_2_9 G h0 t_385 (Or.inl rfl) dX2_copyFrom_13 ?_
  refine v_nmM (fun M2 eM2 => ?_)
  replace hf := lt_e hf eM2
  refine v_aload_n G dX2_copyFrom_16 0 rfl ?_
  refine v_aload_n G dX2_copyFrom_17 1 rfl ?_
  refine gf_2_10 G h1 t_389 (Or.inl rfl) dX2_copyFrom_18 ?_
  refine pf_2_10 G h0 t_389 (Or.inl rfl) dX2_copyFrom_21 ?_
  refine v_nmM (fun M3 eM3 => ?_)
  replace hf := lt_e hf eM3
  refine v_aload_n G dX2_copyFrom_24 0 rfl ?_
  refine gf_2_6 G h0 t_376 (Or.inl rfl) dX2_copyFrom_25 ?_
  refine v_aload_n G dX2_copyFrom_28 1 rfl ?_
  refine gf_2_6 G h1 t_376 (Or.inl rfl) dX2_copyFrom_29 ?_
  refine gf_1_0 G (kf_2_7 h1) t_241 (Or.inl rfl) dX2_copyFrom_32 ?_
  refine v_aload_n G dX2_copyFrom_35 1 rfl ?_
  refine gf_2_6 G h1 t_376 (Or.inl rfl) dX2_copyFrom_36 ?_
  refine gf_1_1 G (kf_2_7 h1) t_244 (Or.inl rfl) dX2_copyFrom_39 ?_
  obtain ⟨v4, hcv4⟩ : ∃ q, f_X1_set (a0 + 7) (M3.1 (a1 + 7) 0) (M3.1 (a1 + 7) 1) M3 = q := ⟨_, rfl⟩
  replace hf := lt_e hf hcv4.symm
  refine v_callV [.int (M3.1 (a1 + 7) 0), .int (M3.1 (a1 + 7) 1)] G (c_X1_set (kf_2_7 h0) hcv4) (kf_2_7 h0) (by decide) rfl rfl rfl t_917 t_901 t_902 t_12 t_903 nm_X1_set (by decide) (by decide) rfl rfl (Nat.le_of_ble_eq_true rfl) dX2_copyFrom_42 (kv_rv ?_)
  refine v_aload_n G dX2_copyFrom_45 0 rfl ?_
  refine v_aload_n G dX2_copyFrom_46 1 rfl ?_
  refine gf_2_11 G h1 t_393 (Or.inl rfl) dX2_copyFrom_47 ?_
  refine pf_2_11 G h0 t_393 (Or.inl rfl) dX2_copyFrom_50 ?_
  refine v_nmM (fun M5 eM5 => ?_)
  replace hf := lt_e hf eM5
  refine v_aload_n G dX2_copyFrom_53 0 rfl ?_
  refine v_aload_n G dX2_copyFrom_54 1 rfl ?_
  refine gf_2_12 G h1 t_397 (Or.inl rfl) dX2_copyFrom_55 ?_
  refine pf_2_12 G h0 t_397 (Or.inl rfl) dX2_copyFrom_58 ?_
  refine v_nmM (fun M6 eM6 => ?_)
  replace hf := lt_e hf eM6
  refine v_aload_n G dX2_copyFrom_61 0 rfl ?_
  refine v_aload_n G dX2_copyFrom_62 1 rfl ?_
  refine gf_2_13 G h1 t_400 (Or.inl rfl) dX2_copyFrom_63 ?_
  refine pf_2_13 G h0 t_400 (Or.inl rfl) dX2_copyFrom_66 ?_
  refine v_nmM (fun M7 eM7 => ?_)
  replace hf := lt_e hf eM7
  refine v_aload_n G dX2_copyFrom_69 0 rfl ?_
  refine v_aload_n G dX2_copyFrom_70 1 rfl ?_
  refine gf_2_14 G h1 t_403 (Or.inl rfl) dX2_copyFrom_71 ?_
  refine pf_2_14 G h0 t_403 (Or.inl rfl) dX2_copyFrom_74 ?_
  refine v_nmM (fun M8 eM8 => ?_)
  replace hf := lt_e hf eM8
  refine v_aload_n G dX2_copyFrom_77 0 rfl ?_
  refine v_aload_n G dX2_copyFrom_78 1 rfl ?_
  refine gf_2_15 G h1 t_406 (Or.inl rfl) dX2_copyFrom_79 ?_
  obtain ⟨g9, hf⟩ := gd_e hf
  refine pf_2_15 G h0 g9 t_406 (Or.inl rfl) dX2_copyFrom_82 ?_
  refine v_nmM (fun M10 eM10 => ?_)
  replace hf := lt_e hf eM10
  refine v_aload_n G dX2_copyFrom_85 0 rfl ?_
  refine gf_2_7 G h0 t_379 (Or.inl rfl) dX2_copyFrom_86 ?_
  refine v_kt (fun hKT => ?_)
  have hk11 := hKT.2.2.2.1 _ h0
  refine v_aload_n G dX2_copyFrom_89 1 rfl ?_
  refine gf_2_7 G h1 t_379 (Or.inl rfl) dX2_copyFrom_90 ?_
  refine v_kt (fun hKT => ?_)
  have hk12 := hKT.2.2.2.1 _ h1
  obtain ⟨v13, hcv13, hf⟩ := bd_e hf
  refine v_callV [.ref (ad (M10.2.2 a1 7))] G (c_X8_copyFrom n hk11 hk12 hcv13) hk11 (by decide) rfl rfl rfl t_918 t_919 t_920 t_14 t_921 nm_X8_copyFrom (by decide) (by decide) rfl rfl (Nat.le_of_ble_eq_true rfl) dX2_copyFrom_93 (kv_rv ?_)
  refine v_aload_n G dX2_copyFrom_96 1 rfl ?_
  refine gf_2_0 G h1 t_363 (Or.inl rfl) dX2_copyFrom_97 ?_
  refine v_iconst (0 : Int32) G dX2_copyFrom_100 (by decide) ?_
  refine v_aload_n G dX2_copyFrom_101 0 rfl ?_
  refine gf_2_0 G h0 t_363 (Or.inl rfl) dX2_copyFrom_102 ?_
  refine v_iconst (0 : Int32) G dX2_copyFrom_105 (by decide) ?_
  refine v_bipush (8 : Int32) G dX2_copyFrom_106 (by decide) ?_
  obtain ⟨g14, hf⟩ := gd_e hf
  refine v_copyJ G (by decide) (kf_2_1 h1) (kf_2_1 h0) (by decide) (by decide) rfl (fun _ => rfl) t_923 t_832 t_831 t_18 g14 (Nat.le_of_ble_eq_true rfl) dX2_copyFrom_108 ?_
  refine v_nmM (fun M15 eM15 => ?_)
  replace hf := lt_e hf eM15
  refine v_aload_n G dX2_copyFrom_111 1 rfl ?_
  refine gf_2_1 G h1 t_364 (Or.inl rfl) dX2_copyFrom_112 ?_
  refine v_iconst (0 : Int32) G dX2_copyFrom_115 (by decide) ?_
  refine v_aload_n G dX2_copyFrom_116 0 rfl ?_
  refine gf_2_1 G h0 t_364 (Or.inl rfl) dX2_copyFrom_117 ?_
  refine v_iconst (0 : Int32) G dX2_copyFrom_120 (by decide) ?_
  refine v_bipush (12 : Int32) G dX2_copyFrom_121 (by decide) ?_
  obtain ⟨g16, hf⟩ := gd_e hf
  refine v_copyI G (by decide) (kf_2_2 h1) (kf_2_2 h0) (by decide) (by decide) rfl (fun _ => rfl) t_923 t_832 t_831 t_18 g16 (Nat.le_of_ble_eq_true rfl) dX2_copyFrom_123 ?_
  refine v_nmM (fun M17 eM17 => ?_)
  replace hf := lt_e hf eM17
  refine v_aload_n G dX2_copyFrom_126 1 rfl ?_
  refine gf_2_2 G h1 t_366 (Or.inl rfl) dX2_copyFrom_127 ?_
  refine v_iconst (0 : Int32) G dX2_copyFrom_130 (by decide) ?_
  refine v_aload_n G dX2_copyFrom_131 0 rfl ?_
  refine gf_2_2 G h0 t_366 (Or.inl rfl) dX2_copyFrom_132 ?_
  refine v_iconst (0 : Int32) G dX2_copyFrom_135 (by decide) ?_
  refine v_bipush (12 : Int32) G dX2_copyFrom_136 (by decide) ?_
  obtain ⟨g18, hf⟩ := gd_e hf
  refine v_copyI G (by decide) (kf_2_3 h1) (kf_2_3 h0) (by decide) (by decide) rfl (fun _ => rfl) t_923 t_832 t_831 t_18 g18 (Nat.le_of_ble_eq_true rfl) dX2_copyFrom_138 ?_
  refine v_nmM (fun M19 eM19 => ?_)
  replace hf := lt_e hf eM19
  refine v_aload_n G dX2_copyFrom_141 1 rfl ?_
  refine gf_2_3 G h1 t_368 (Or.inl rfl) dX2_copyFrom_142 ?_
  refine v_iconst (0 : Int32) G dX2_copyFrom_145 (by decide) ?_
  refine v_aload_n G dX2_copyFrom_146 0 rfl ?_
  refine gf_2_3 G h0 t_368 (Or.inl rfl) dX2_copyFrom_147 ?_
  refine v_iconst (0 : Int32) G dX2_copyFrom_150 (by decide) ?_
  refine v_bipush (12 : Int32) G dX2_copyFrom_151 (by decide) ?_
  obtain ⟨g20, hf⟩ := gd_e hf
  refine v_copyI G (by decide) (kf_2_4 h1) (kf_2_4 h0) (by decide) (by decide) rfl (fun _ => rfl) t_923 t_832 t_831 t_18 g20 (Nat.le_of_ble_eq_true rfl) dX2_copyFrom_153 ?_
  refine v_nmM (fun M21 eM21 => ?_)
  replace hf := lt_e hf eM21
  refine v_iconst (0 : Int32) G dX2_copyFrom_156 (by decide) ?_
  refine v_istore_n [(2, .int (0 : Int32)), (0, .ref (ad a0)), (1, .ref (ad a1))] G dX2_copyFrom_157 (by decide) rfl ?_
  refine v_sub _ [1, 2, 0] rfl ?_
  refine s_X2_copyFrom_158 G h0 h1 (fun M27 hf => ?_) n (0 : Int32) M21 hf
  · refine v_iconst (0 : Int32) G dX2_copyFrom_182 (by decide) ?_
    refine v_istore_n [(2, .int (0 : Int32)), (0, .ref (ad a0)), (1, .ref (ad a1))] G dX2_copyFrom_183 (by decide) rfl ?_
    refine v_sub _ [1, 2, 0] rfl ?_
    refine s_X2_copyFrom_184 G h0 h1 n (0 : Int32) M27 hf
abbrev cX2_addPlace : ByteArray := prog_4_method_4_code
def yX2_addPlace : MethodName := ⟨RX2, "addPlace", "(J)V"⟩
theorem dX2_addPlace_0 : dc cX2_addPlace 0 (.aload_n 0) 1 1 := ⟨by decide +kernel, rfl⟩
theorem dX2_addPlace_1 : dc cX2_addPlace 1 (.getfield 63) 3 4 := ⟨by decide +kernel, rfl⟩
theorem dX2_addPlace_4 : dc cX2_addPlace 4 (.bipush 8) 2 6 := ⟨by decide +kernel, rfl⟩
theorem dX2_addPlace_6 : dc cX2_addPlace 6 (.if_icmp .ge 23) 3 9 := ⟨by decide +kernel, rfl⟩
theorem dX2_addPlace_9 : dc cX2_addPlace 9 (.aload_n 0) 1 10 := ⟨by decide +kernel, rfl⟩
theorem dX2_addPlace_10 : dc cX2_addPlace 10 (.getfield 9) 3 13 := ⟨by decide +kernel, rfl⟩
theorem dX2_addPlace_13 : dc cX2_addPlace 13 (.aload_n 0) 1 14 := ⟨by decide +kernel, rfl⟩
theorem dX2_addPlace_14 : dc cX2_addPlace 14 (.getfield 63) 3 17 := ⟨by decide +kernel, rfl⟩
theorem dX2_addPlace_17 : dc cX2_addPlace 17 (.lload_n 1) 1 18 := ⟨by decide +kernel, rfl⟩
theorem dX2_addPlace_18 : dc cX2_addPlace 18 (.lastore) 1 19 := ⟨by decide +kernel, rfl⟩
theorem dX2_addPlace_19 : dc cX2_addPlace 19 (.aload_n 0) 1 20 := ⟨by decide +kernel, rfl⟩
theorem dX2_addPlace_20 : dc cX2_addPlace 20 (.dup) 1 21 := ⟨by decide +kernel, rfl⟩
theorem dX2_addPlace_21 : dc cX2_addPlace 21 (.getfield 63) 3 24 := ⟨by decide +kernel, rfl⟩
theorem dX2_addPlace_24 : dc cX2_addPlace 24 (.iconst 1) 1 25 := ⟨by decide +kernel, rfl⟩
theorem dX2_addPlace_25 : dc cX2_addPlace 25 (.iadd) 1 26 := ⟨by decide +kernel, rfl⟩
theorem dX2_addPlace_26 : dc cX2_addPlace 26 (.putfield 63) 3 29 := ⟨by decide +kernel, rfl⟩
theorem dX2_addPlace_29 : dc cX2_addPlace 29 (.return_) 1 30 := ⟨by decide +kernel, rfl⟩
theorem nm_X2_addPlace : (yX2_addPlace).cls ≠ "java/lang/invoke/MethodHandle" ∧ (yX2_addPlace).cls ≠ "java/lang/invoke/VarHandle" ∧ (parseMethodDescriptor (yX2_addPlace).desc).map (fun d => d.parameters.length) = some 1 := ⟨by decide +kernel, by decide +kernel, by decide +kernel⟩
set_option maxRecDepth 100000 in
set_option maxHeartbeats 4000000 in
theorem c_X2_addPlace {l : Launch} {ad : Nat → Nat} {cy : Nat → ClassId} {D : va_G} {z : Nat} (n : Nat) {a0 : Nat} {p1 : Int64} {M : KM} {y : KM} (h0 : kty a0 = 3) (hf : f_X2_addPlace n a0 p1 M = some y) : KC l ad cy D z yX2_addPlace cX2_addPlace 3 none 1 [.ref (ad a0), .long p1] M (none, y) := by
  refine kv_enter (by decide +kernel) (Nat.le_of_ble_eq_true rfl) ?_
  intro x hl hD hz G
  subst hl hD hz
  unfold f_X2_addPlace at hf
  have G : KG ad cy x cX2_addPlace "NoonGuides$Land" 3 (some none) 1 := G
  show KV ad cy x (none, y) 0 [(0, .ref (ad a0)), (1, .long p1)] [] M
  refine v_aload_n G dX2_addPlace_0 0 rfl ?_
  refine gf_2_8 G h0 t_381 (Or.inl rfl) dX2_addPlace_1 ?_
  refine v_bipush (8 : Int32) G dX2_addPlace_4 (by decide) ?_
  refine v_icmp_ge 29 G dX2_addPlace_6 (by decide) (fun h4 => ?_) (fun h4 => ?_)
  · replace hf := (if_pos h4).symm.trans hf
    obtain rfl := Option.some.inj hf
    exact v_vret G dX2_addPlace_29
  · replace hf := (if_neg h4).symm.trans hf
    refine v_aload_n G dX2_addPlace_9 0 rfl ?_
    refine gf_2_0 G h0 t_363 (Or.inl rfl) dX2_addPlace_10 ?_
    refine v_aload_n G dX2_addPlace_13 0 rfl ?_
    refine gf_2_8 G h0 t_381 (Or.inl rfl) dX2_addPlace_14 ?_
    refine v_lload_n G dX2_addPlace_17 1 rfl ?_
    obtain ⟨g1, hf⟩ := gd_e hf
    refine as_29 G (kf_2_1 h0) g1 dX2_addPlace_18 ?_
    refine v_nmM (fun M2 eM2 => ?_)
    replace hf := lt_e hf eM2
    refine v_aload_n G dX2_addPlace_19 0 rfl ?_
    refine v_dup G dX2_addPlace_20 rfl ?_
    refine gf_2_8 G h0 t_381 (Or.inl rfl) dX2_addPlace_21 ?_
    refine v_iconst (1 : Int32) G dX2_addPlace_24 (by decide) ?_
    refine v_iadd G dX2_addPlace_25 ?_
    refine pf_2_8 G h0 t_381 (Or.inl rfl) dX2_addPlace_26 ?_
    refine v_nmM (fun M3 eM3 => ?_)
    replace hf := lt_e hf eM3
    obtain rfl := Option.some.inj hf
    exact v_vret G dX2_addPlace_29
abbrev cX2_addRoad : ByteArray := prog_4_method_5_code
def yX2_addRoad : MethodName := ⟨RX2, "addRoad", "(IIIZ)V"⟩
theorem dX2_addRoad_0 : dc cX2_addRoad 0 (.aload_n 0) 1 1 := ⟨by decide +kernel, rfl⟩
theorem dX2_addRoad_1 : dc cX2_addRoad 1 (.getfield 66) 3 4 := ⟨by decide +kernel, rfl⟩
theorem dX2_addRoad_4 : dc cX2_addRoad 4 (.bipush 12) 2 6 := ⟨by decide +kernel, rfl⟩
theorem dX2_addRoad_6 : dc cX2_addRoad 6 (.if_icmp .ge 54) 3 9 := ⟨by decide +kernel, rfl⟩
theorem dX2_addRoad_9 : dc cX2_addRoad 9 (.aload_n 0) 1 10 := ⟨by decide +kernel, rfl⟩
theorem dX2_addRoad_10 : dc cX2_addRoad 10 (.getfield 15) 3 13 := ⟨by decide +kernel, rfl⟩
theorem dX2_addRoad_13 : dc cX2_addRoad 13 (.aload_n 0) 1 14 := ⟨by decide +kernel, rfl⟩
theorem dX2_addRoad_14 : dc cX2_addRoad 14 (.getfield 66) 3 17 := ⟨by decide +kernel, rfl⟩
theorem dX2_addRoad_17 : dc cX2_addRoad 17 (.iload_n 1) 1 18 := ⟨by decide +kernel, rfl⟩
theorem dX2_addRoad_18 : dc cX2_addRoad 18 (.iastore) 1 19 := ⟨by decide +kernel, rfl⟩
theorem dX2_addRoad_19 : dc cX2_addRoad 19 (.aload_n 0) 1 20 := ⟨by decide +kernel, rfl⟩
theorem dX2_addRoad_20 : dc cX2_addRoad 20 (.getfield 19) 3 23 := ⟨by decide +kernel, rfl⟩
theorem dX2_addRoad_23 : dc cX2_addRoad 23 (.aload_n 0) 1 24 := ⟨by decide +kernel, rfl⟩
theorem dX2_addRoad_24 : dc cX2_addRoad 24 (.getfield 66) 3 27 := ⟨by decide +kernel, rfl⟩
theorem dX2_addRoad_27 : dc cX2_addRoad 27 (.iload_n 2) 1 28 := ⟨by decide +kernel, rfl⟩
theorem dX2_addRoad_28 : dc cX2_addRoad 28 (.iastore) 1 29 := ⟨by decide +kernel, rfl⟩
theorem dX2_addRoad_29 : dc cX2_addRoad 29 (.aload_n 0) 1 30 := ⟨by decide +kernel, rfl⟩
theorem dX2_addRoad_30 : dc cX2_addRoad 30 (.getfield 22) 3 33 := ⟨by decide +kernel, rfl⟩
theorem dX2_addRoad_33 : dc cX2_addRoad 33 (.aload_n 0) 1 34 := ⟨by decide +kernel, rfl⟩
theorem dX2_addRoad_34 : dc cX2_addRoad 34 (.getfield 66) 3 37 := ⟨by decide +kernel, rfl⟩
theorem dX2_addRoad_37 : dc cX2_addRoad 37 (.iload_n 3) 1 38 := ⟨by decide +kernel, rfl⟩
theorem dX2_addRoad_38 : dc cX2_addRoad 38 (.iastore) 1 39 := ⟨by decide +kernel, rfl⟩
theorem dX2_addRoad_39 : dc cX2_addRoad 39 (.aload_n 0) 1 40 := ⟨by decide +kernel, rfl⟩
theorem dX2_addRoad_40 : dc cX2_addRoad 40 (.getfield 25) 3 43 := ⟨by decide +kernel, rfl⟩
theorem dX2_addRoad_43 : dc cX2_addRoad 43 (.aload_n 0) 1 44 := ⟨by decide +kernel, rfl⟩
theorem dX2_addRoad_44 : dc cX2_addRoad 44 (.getfield 66) 3 47 := ⟨by decide +kernel, rfl⟩
theorem dX2_addRoad_47 : dc cX2_addRoad 47 (.iload 4) 2 49 := ⟨by decide +kernel, rfl⟩
theorem dX2_addRoad_49 : dc cX2_addRoad 49 (.bastore) 1 50 := ⟨by decide +kernel, rfl⟩
theorem dX2_addRoad_50 : dc cX2_addRoad 50 (.aload_n 0) 1 51 := ⟨by decide +kernel, rfl⟩
theorem dX2_addRoad_51 : dc cX2_addRoad 51 (.dup) 1 52 := ⟨by decide +kernel, rfl⟩
theorem dX2_addRoad_52 : dc cX2_addRoad 52 (.getfield 66) 3 55 := ⟨by decide +kernel, rfl⟩
theorem dX2_addRoad_55 : dc cX2_addRoad 55 (.iconst 1) 1 56 := ⟨by decide +kernel, rfl⟩
theorem dX2_addRoad_56 : dc cX2_addRoad 56 (.iadd) 1 57 := ⟨by decide +kernel, rfl⟩
theorem dX2_addRoad_57 : dc cX2_addRoad 57 (.putfield 66) 3 60 := ⟨by decide +kernel, rfl⟩
theorem dX2_addRoad_60 : dc cX2_addRoad 60 (.return_) 1 61 := ⟨by decide +kernel, rfl⟩
theorem nm_X2_addRoad : (yX2_addRoad).cls ≠ "java/lang/invoke/MethodHandle" ∧ (yX2_addRoad).cls ≠ "java/lang/invoke/VarHandle" ∧ (parseMethodDescriptor (yX2_addRoad).desc).map (fun d => d.parameters.length) = some 4 := ⟨by decide +kernel, by decide +kernel, by decide +kernel⟩
set_option maxRecDepth 100000 in
set_option maxHeartbeats 4000000 in
theorem c_X2_addRoad {l : Launch} {ad : Nat → Nat} {cy : Nat → ClassId} {D : va_G} {z : Nat} (n : Nat) {a0 : Nat} {p1 : Int32} {p2 : Int32} {p3 : Int32} {p4 : Int32} {M : KM} {y : KM} (h0 : kty a0 = 3) (hf : f_X2_addRoad n a0 p1 p2 p3 p4 M = some y) : KC l ad cy D z yX2_addRoad cX2_addRoad 5 none 1 [.ref (ad a0), .int p1, .int p2, .int p3, .int p4] M (none, y) := by
  refine kv_enter (by decide +kernel) (Nat.le_of_ble_eq_true rfl) ?_
  intro x hl hD hz G
  subst hl hD hz
  unfold f_X2_addRoad at hf
  have G : KG ad cy x cX2_addRoad "NoonGuides$Land" 5 (some none) 1 := G
  show KV ad cy x (none, y) 0 [(0, .ref (ad a0)), (1, .int p1), (2, .int p2), (3, .int p3), (4, .int p4)] [] M
  refine v_aload_n G dX2_addRoad_0 0 rfl ?_
  refine gf_2_9 G h0 t_385 (Or.inl rfl) dX2_addRoad_1 ?_
  refine v_bipush (12 : Int32) G dX2_addRoad_4 (by decide) ?_
  refine v_icmp_ge 60 G dX2_addRoad_6 (by decide) (fun h10 => ?_) (fun h10 => ?_)
  · replace hf := (if_pos h10).symm.trans hf
    obtain rfl := Option.some.inj hf
    exact v_vret G dX2_addRoad_60
  · replace hf := (if_neg h10).symm.trans hf
    refine v_aload_n G dX2_addRoad_9 0 rfl ?_
    refine gf_2_1 G h0 t_364 (Or.inl rfl) dX2_addRoad_10 ?_
    refine v_aload_n G dX2_addRoad_13 0 rfl ?_
    refine gf_2_9 G h0 t_385 (Or.inl rfl) dX2_addRoad_14 ?_
    refine v_iload_n G dX2_addRoad_17 1 rfl ?_
    obtain ⟨g1, hf⟩ := gd_e hf
    refine as_30 G (kf_2_2 h0) g1 dX2_addRoad_18 ?_
    refine v_nmM (fun M2 eM2 => ?_)
    replace hf := lt_e hf eM2
    refine v_aload_n G dX2_addRoad_19 0 rfl ?_
    refine gf_2_2 G h0 t_366 (Or.inl rfl) dX2_addRoad_20 ?_
    refine v_aload_n G dX2_addRoad_23 0 rfl ?_
    refine gf_2_9 G h0 t_385 (Or.inl rfl) dX2_addRoad_24 ?_
    refine v_iload_n G dX2_addRoad_27 2 rfl ?_
    obtain ⟨g3, hf⟩ := gd_e hf
    refine as_30 G (kf_2_3 h0) g3 dX2_addRoad_28 ?_
    refine v_nmM (fun M4 eM4 => ?_)
    replace hf := lt_e hf eM4
    refine v_aload_n G dX2_addRoad_29 0 rfl ?_
    refine gf_2_3 G h0 t_368 (Or.inl rfl) dX2_addRoad_30 ?_
    refine v_aload_n G dX2_addRoad_33 0 rfl ?_
    refine gf_2_9 G h0 t_385 (Or.inl rfl) dX2_addRoad_34 ?_
    refine v_iload_n G dX2_addRoad_37 3 rfl ?_
    obtain ⟨g5, hf⟩ := gd_e hf
    refine as_30 G (kf_2_4 h0) g5 dX2_addRoad_38 ?_
    refine v_nmM (fun M6 eM6 => ?_)
    replace hf := lt_e hf eM6
    refine v_aload_n G dX2_addRoad_39 0 rfl ?_
    refine gf_2_4 G h0 t_369 (Or.inl rfl) dX2_addRoad_40 ?_
    refine v_aload_n G dX2_addRoad_43 0 rfl ?_
    refine gf_2_9 G h0 t_385 (Or.inl rfl) dX2_addRoad_44 ?_
    refine v_iload G dX2_addRoad_47 4 rfl ?_
    obtain ⟨g7, hf⟩ := gd_e hf
    refine as_31 G (kf_2_5 h0) g7 dX2_addRoad_49 ?_
    refine v_nmM (fun M8 eM8 => ?_)
    replace hf := lt_e hf eM8
    refine v_aload_n G dX2_addRoad_50 0 rfl ?_
    refine v_dup G dX2_addRoad_51 rfl ?_
    refine gf_2_9 G h0 t_385 (Or.inl rfl) dX2_addRoad_52 ?_
    refine v_iconst (1 : Int32) G dX2_addRoad_55 (by decide) ?_
    refine v_iadd G dX2_addRoad_56 ?_
    refine pf_2_9 G h0 t_385 (Or.inl rfl) dX2_addRoad_57 ?_
    refine v_nmM (fun M9 eM9 => ?_)
    replace hf := lt_e hf eM9
    obtain rfl := Option.some.inj hf
    exact v_vret G dX2_addRoad_60
abbrev cX2_addPerson : ByteArray := prog_4_method_6_code
def yX2_addPerson : MethodName := ⟨RX2, "addPerson", "(JZZI)V"⟩
theorem dX2_addPerson_0 : dc cX2_addPerson 0 (.aload_n 0) 1 1 := ⟨by decide +kernel, rfl⟩
theorem dX2_addPerson_1 : dc cX2_addPerson 1 (.getfield 69) 3 4 := ⟨by decide +kernel, rfl⟩
theorem dX2_addPerson_4 : dc cX2_addPerson 4 (.bipush 8) 2 6 := ⟨by decide +kernel, rfl⟩
theorem dX2_addPerson_6 : dc cX2_addPerson 6 (.if_icmp .ge 31) 3 9 := ⟨by decide +kernel, rfl⟩
theorem dX2_addPerson_9 : dc cX2_addPerson 9 (.aload_n 0) 1 10 := ⟨by decide +kernel, rfl⟩
theorem dX2_addPerson_10 : dc cX2_addPerson 10 (.getfield 31) 3 13 := ⟨by decide +kernel, rfl⟩
theorem dX2_addPerson_13 : dc cX2_addPerson 13 (.aload_n 0) 1 14 := ⟨by decide +kernel, rfl⟩
theorem dX2_addPerson_14 : dc cX2_addPerson 14 (.getfield 69) 3 17 := ⟨by decide +kernel, rfl⟩
theorem dX2_addPerson_17 : dc cX2_addPerson 17 (.aaload) 1 18 := ⟨by decide +kernel, rfl⟩
theorem dX2_addPerson_18 : dc cX2_addPerson 18 (.lload_n 1) 1 19 := ⟨by decide +kernel, rfl⟩
theorem dX2_addPerson_19 : dc cX2_addPerson 19 (.iload_n 3) 1 20 := ⟨by decide +kernel, rfl⟩
theorem dX2_addPerson_20 : dc cX2_addPerson 20 (.iload 4) 2 22 := ⟨by decide +kernel, rfl⟩
theorem dX2_addPerson_22 : dc cX2_addPerson 22 (.iload 5) 2 24 := ⟨by decide +kernel, rfl⟩
theorem dX2_addPerson_24 : dc cX2_addPerson 24 (.invokevirtual 102) 3 27 := ⟨by decide +kernel, rfl⟩
theorem dX2_addPerson_27 : dc cX2_addPerson 27 (.aload_n 0) 1 28 := ⟨by decide +kernel, rfl⟩
theorem dX2_addPerson_28 : dc cX2_addPerson 28 (.dup) 1 29 := ⟨by decide +kernel, rfl⟩
theorem dX2_addPerson_29 : dc cX2_addPerson 29 (.getfield 69) 3 32 := ⟨by decide +kernel, rfl⟩
theorem dX2_addPerson_32 : dc cX2_addPerson 32 (.iconst 1) 1 33 := ⟨by decide +kernel, rfl⟩
theorem dX2_addPerson_33 : dc cX2_addPerson 33 (.iadd) 1 34 := ⟨by decide +kernel, rfl⟩
theorem dX2_addPerson_34 : dc cX2_addPerson 34 (.putfield 69) 3 37 := ⟨by decide +kernel, rfl⟩
theorem dX2_addPerson_37 : dc cX2_addPerson 37 (.return_) 1 38 := ⟨by decide +kernel, rfl⟩
theorem nm_X2_addPerson : (yX2_addPerson).cls ≠ "java/lang/invoke/MethodHandle" ∧ (yX2_addPerson).cls ≠ "java/lang/invoke/VarHandle" ∧ (parseMethodDescriptor (yX2_addPerson).desc).map (fun d => d.parameters.length) = some 4 := ⟨by decide +kernel, by decide +kernel, by decide +kernel⟩
set_option maxRecDepth 100000 in
set_option maxHeartbeats 4000000 in
theorem c_X2_addPerson {l : Launch} {ad : Nat → Nat} {cy : Nat → ClassId} {D : va_G} {z : Nat} (n : Nat) {a0 : Nat} {p1 : Int64} {p3 : Int32} {p4 : Int32} {p5 : Int32} {M : KM} {y : KM} (h0 : kty a0 = 3) (hf : f_X2_addPerson n a0 p1 p3 p4 p5 M = some y) : KC l ad cy D z yX2_addPerson cX2_addPerson 6 none 3 [.ref (ad a0), .long p1, .int p3, .int p4, .int p5] M (none, y) := by
  refine kv_enter (by decide +kernel) (Nat.le_of_ble_eq_true rfl) ?_
  intro x hl hD hz G
  subst hl hD hz
  unfold f_X2_addPerson at hf
  have G : KG ad cy x cX2_addPerson "NoonGuides$Land" 6 (some none) 3 := G
  show KV ad cy x (none, y) 0 [(0, .ref (ad a0)), (1, .long p1), (3, .int p3), (4, .int p4), (5, .int p5)] [] M
  refine v_aload_n G dX2_addPerson_0 0 rfl ?_
  refine gf_2_10 G h0 t_389 (Or.inl rfl) dX2_addPerson_1 ?_
  refine v_bipush (8 : Int32) G dX2_addPerson_4 (by decide) ?_
  refine v_icmp_ge 37 G dX2_addPerson_6 (by decide) (fun h4 => ?_) (fun h4 => ?_)
  · replace hf := (if_pos h4).symm.trans hf
    obtain rfl := Option.some.inj hf
    exact v_vret G dX2_addPerson_37
  · replace hf := (if_neg h4).symm.trans hf
    refine v_aload_n G dX2_addPerson_9 0 rfl ?_
    refine gf_2_5 G h0 t_371 (Or.inl rfl) dX2_addPerson_10 ?_
    refine v_aload_n G dX2_addPerson_13 0 rfl ?_
    refine gf_2_10 G h0 t_389 (Or.inl rfl) dX2_addPerson_14 ?_
    obtain ⟨g1, hf⟩ := gd_e hf
    refine al_Person G (kf_2_6 h0) g1 dX2_addPerson_17 ?_
    refine v_lload_n G dX2_addPerson_18 1 rfl ?_
    refine v_iload_n G dX2_addPerson_19 2 rfl ?_
    refine v_iload G dX2_addPerson_20 3 rfl ?_
    refine v_iload G dX2_addPerson_22 4 rfl ?_
    obtain ⟨v2, hcv2, hf⟩ := bd_e hf
    refine v_callV [.long p1, .int p3, .int p4, .int p5] G (c_X7_begin n (ke_Person (kf_2_6 h0) (ix_lt g1)) hcv2) (ke_Person (kf_2_6 h0) (ix_lt g1)) (by decide) rfl rfl rfl t_1159 t_1160 t_1161 t_15 t_1162 nm_X7_begin (by decide) (by decide) rfl rfl (Nat.le_of_ble_eq_true rfl) dX2_addPerson_24 (kv_rv ?_)
    refine v_aload_n G dX2_addPerson_27 0 rfl ?_
    refine v_dup G dX2_addPerson_28 rfl ?_
    refine gf_2_10 G h0 t_389 (Or.inl rfl) dX2_addPerson_29 ?_
    refine v_iconst (1 : Int32) G dX2_addPerson_32 (by decide) ?_
    refine v_iadd G dX2_addPerson_33 ?_
    refine pf_2_10 G h0 t_389 (Or.inl rfl) dX2_addPerson_34 ?_
    refine v_nmM (fun M3 eM3 => ?_)
    replace hf := lt_e hf eM3
    obtain rfl := Option.some.inj hf
    exact v_vret G dX2_addPerson_37
abbrev cX2_hasPlace : ByteArray := prog_4_method_7_code
def yX2_hasPlace : MethodName := ⟨RX2, "hasPlace", "(I)Z"⟩
theorem dX2_hasPlace_0 : dc cX2_hasPlace 0 (.iload_n 1) 1 1 := ⟨by decide +kernel, rfl⟩
theorem dX2_hasPlace_1 : dc cX2_hasPlace 1 (.ifCond .lt 15) 3 4 := ⟨by decide +kernel, rfl⟩
theorem dX2_hasPlace_4 : dc cX2_hasPlace 4 (.iload_n 1) 1 5 := ⟨by decide +kernel, rfl⟩
theorem dX2_hasPlace_5 : dc cX2_hasPlace 5 (.aload_n 0) 1 6 := ⟨by decide +kernel, rfl⟩
theorem dX2_hasPlace_6 : dc cX2_hasPlace 6 (.getfield 63) 3 9 := ⟨by decide +kernel, rfl⟩
theorem dX2_hasPlace_9 : dc cX2_hasPlace 9 (.if_icmp .ge 7) 3 12 := ⟨by decide +kernel, rfl⟩
theorem dX2_hasPlace_12 : dc cX2_hasPlace 12 (.iconst 1) 1 13 := ⟨by decide +kernel, rfl⟩
theorem dX2_hasPlace_13 : dc cX2_hasPlace 13 (.goto 4) 3 16 := ⟨by decide +kernel, rfl⟩
theorem dX2_hasPlace_16 : dc cX2_hasPlace 16 (.iconst 0) 1 17 := ⟨by decide +kernel, rfl⟩
theorem dX2_hasPlace_17 : dc cX2_hasPlace 17 (.ireturn) 1 18 := ⟨by decide +kernel, rfl⟩
theorem nm_X2_hasPlace : (yX2_hasPlace).cls ≠ "java/lang/invoke/MethodHandle" ∧ (yX2_hasPlace).cls ≠ "java/lang/invoke/VarHandle" ∧ (parseMethodDescriptor (yX2_hasPlace).desc).map (fun d => d.parameters.length) = some 1 := ⟨by decide +kernel, by decide +kernel, by decide +kernel⟩
set_option maxRecDepth 100000 in
theorem z_X2_hasPlace {a0 : Nat} {p1 : Int32} {M : KM} {y : Int32} (hf : f_X2_hasPlace a0 p1 M = y) : (y = 0 ∨ y = 1) := by
  unfold f_X2_hasPlace at hf
  by_cases h2 : p1 < 0
  · replace hf := (if_pos h2).symm.trans hf
    obtain rfl := hf
    exact (Or.inl rfl)
  · replace hf := (if_neg h2).symm.trans hf
    by_cases h1 : (M.1 a0 8) ≤ p1
    · replace hf := (if_pos h1).symm.trans hf
      obtain rfl := hf
      exact (Or.inl rfl)
    · replace hf := (if_neg h1).symm.trans hf
      obtain rfl := hf
      exact (Or.inr rfl)
set_option maxRecDepth 100000 in
set_option maxHeartbeats 4000000 in
theorem c_X2_hasPlace {l : Launch} {ad : Nat → Nat} {cy : Nat → ClassId} {D : va_G} {z : Nat} {a0 : Nat} {p1 : Int32} {M : KM} {y : Int32} (h0 : kty a0 = 3) (hf : f_X2_hasPlace a0 p1 M = y) : KC l ad cy D z yX2_hasPlace cX2_hasPlace 2 (some .boolean) 1 [.ref (ad a0), .int p1] M (some (.int y), M) := by
  refine kv_enter (by decide +kernel) (Nat.le_of_ble_eq_true rfl) ?_
  intro x hl hD hz G
  subst hl hD hz
  unfold f_X2_hasPlace at hf
  have G : KG ad cy x cX2_hasPlace "NoonGuides$Land" 2 (some (some .boolean)) 1 := G
  show KV ad cy x (some (.int y), M) 0 [(0, .ref (ad a0)), (1, .int p1)] [] M
  refine v_iload_n G dX2_hasPlace_0 1 rfl ?_
  refine v_if_lt 16 G dX2_hasPlace_1 (by decide) (fun h2 => ?_) (fun h2 => ?_)
  · replace hf := (if_pos h2).symm.trans hf
    refine v_iconst (0 : Int32) G dX2_hasPlace_16 (by decide) ?_
    obtain rfl := hf
    exact v_zret G (Or.inl rfl) dX2_hasPlace_17
  · replace hf := (if_neg h2).symm.trans hf
    refine v_iload_n G dX2_hasPlace_4 1 rfl ?_
    refine v_aload_n G dX2_hasPlace_5 0 rfl ?_
    refine gf_2_8 G h0 t_381 (Or.inl rfl) dX2_hasPlace_6 ?_
    refine v_icmp_ge 16 G dX2_hasPlace_9 (by decide) (fun h1 => ?_) (fun h1 => ?_)
    · replace hf := (if_pos h1).symm.trans hf
      refine v_iconst (0 : Int32) G dX2_hasPlace_16 (by decide) ?_
      obtain rfl := hf
      exact v_zret G (Or.inl rfl) dX2_hasPlace_17
    · replace hf := (if_neg h1).symm.trans hf
      refine v_iconst (1 : Int32) G dX2_hasPlace_12 (by decide) ?_
      refine v_goto 17 G dX2_hasPlace_13 (by decide) ?_
      obtain rfl := hf
      exact v_zret G (Or.inr rfl) dX2_hasPlace_17
abbrev cX2_hasRoad : ByteArray := prog_4_method_8_code
def yX2_hasRoad : MethodName := ⟨RX2, "hasRoad", "(I)Z"⟩
theorem dX2_hasRoad_0 : dc cX2_hasRoad 0 (.iload_n 1) 1 1 := ⟨by decide +kernel, rfl⟩
theorem dX2_hasRoad_1 : dc cX2_hasRoad 1 (.ifCond .lt 15) 3 4 := ⟨by decide +kernel, rfl⟩
theorem dX2_hasRoad_4 : dc cX2_hasRoad 4 (.iload_n 1) 1 5 := ⟨by decide +kernel, rfl⟩
theorem dX2_hasRoad_5 : dc cX2_hasRoad 5 (.aload_n 0) 1 6 := ⟨by decide +kernel, rfl⟩
theorem dX2_hasRoad_6 : dc cX2_hasRoad 6 (.getfield 66) 3 9 := ⟨by decide +kernel, rfl⟩
theorem dX2_hasRoad_9 : dc cX2_hasRoad 9 (.if_icmp .ge 7) 3 12 := ⟨by decide +kernel, rfl⟩
theorem dX2_hasRoad_12 : dc cX2_hasRoad 12 (.iconst 1) 1 13 := ⟨by decide +kernel, rfl⟩
theorem dX2_hasRoad_13 : dc cX2_hasRoad 13 (.goto 4) 3 16 := ⟨by decide +kernel, rfl⟩
theorem dX2_hasRoad_16 : dc cX2_hasRoad 16 (.iconst 0) 1 17 := ⟨by decide +kernel, rfl⟩
theorem dX2_hasRoad_17 : dc cX2_hasRoad 17 (.ireturn) 1 18 := ⟨by decide +kernel, rfl⟩
theorem nm_X2_hasRoad : (yX2_hasRoad).cls ≠ "java/lang/invoke/MethodHandle" ∧ (yX2_hasRoad).cls ≠ "java/lang/invoke/VarHandle" ∧ (parseMethodDescriptor (yX2_hasRoad).desc).map (fun d => d.parameters.length) = some 1 := ⟨by decide +kernel, by decide +kernel, by decide +kernel⟩
set_option maxRecDepth 100000 in
theorem z_X2_hasRoad {a0 : Nat} {p1 : Int32} {M : KM} {y : Int32} (hf : f_X2_hasRoad a0 p1 M = y) : (y = 0 ∨ y = 1) := by
  unfold f_X2_hasRoad at hf
  by_cases h2 : p1 < 0
  · replace hf := (if_pos h2).symm.trans hf
    obtain rfl := hf
    exact (Or.inl rfl)
  · replace hf := (if_neg h2).symm.trans hf
    by_cases h1 : (M.1 a0 9) ≤ p1
    · replace hf := (if_pos h1).symm.trans hf
      obtain rfl := hf
      exact (Or.inl rfl)
    · replace hf := (if_neg h1).symm.trans hf
      obtain rfl := hf
      exact (Or.inr rfl)
set_option maxRecDepth 100000 in
set_option maxHeartbeats 4000000 in
theorem c_X2_hasRoad {l : Launch} {ad : Nat → Nat} {cy : Nat → ClassId} {D : va_G} {z : Nat} {a0 : Nat} {p1 : Int32} {M : KM} {y : Int32} (h0 : kty a0 = 3) (hf : f_X2_hasRoad a0 p1 M = y) : KC l ad cy D z yX2_hasRoad cX2_hasRoad 2 (some .boolean) 1 [.ref (ad a0), .int p1] M (some (.int y), M) := by
  refine kv_enter (by decide +kernel) (Nat.le_of_ble_eq_true rfl) ?_
  intro x hl hD hz G
  subst hl hD hz
  unfold f_X2_hasRoad at hf
  have G : KG ad cy x cX2_hasRoad "NoonGuides$Land" 2 (some (some .boolean)) 1 := G
  show KV ad cy x (some (.int y), M) 0 [(0, .ref (ad a0)), (1, .int p1)] [] M
  refine v_iload_n G dX2_hasRoad_0 1 rfl ?_
  refine v_if_lt 16 G dX2_hasRoad_1 (by decide) (fun h2 => ?_) (fun h2 => ?_)
  · replace hf := (if_pos h2).symm.trans hf
    refine v_iconst (0 : Int32) G dX2_hasRoad_16 (by decide) ?_
    obtain rfl := hf
    exact v_zret G (Or.inl rfl) dX2_hasRoad_17
  · replace hf := (if_neg h2).symm.trans hf
    refine v_iload_n G dX2_hasRoad_4 1 rfl ?_
    refine v_aload_n G dX2_hasRoad_5 0 rfl ?_
    refine gf_2_9 G h0 t_385 (Or.inl rfl) dX2_hasRoad_6 ?_
    refine v_icmp_ge 16 G dX2_hasRoad_9 (by decide) (fun h1 => ?_) (fun h1 => ?_)
    · replace hf := (if_pos h1).symm.trans hf
      refine v_iconst (0 : Int32) G dX2_hasRoad_16 (by decide) ?_
      obtain rfl := hf
      exact v_zret G (Or.inl rfl) dX2_hasRoad_17
    · replace hf := (if_neg h1).symm.trans hf
      refine v_iconst (1 : Int32) G dX2_hasRoad_12 (by decide) ?_
      refine v_goto 17 G dX2_hasRoad_13 (by decide) ?_
      obtain rfl := hf
      exact v_zret G (Or.inr rfl) dX2_hasRoad_17
abbrev cX2_hasPerson : ByteArray := prog_4_method_9_code
def yX2_hasPerson : MethodName := ⟨RX2, "hasPerson", "(I)Z"⟩
theorem dX2_hasPerson_0 : dc cX2_hasPerson 0 (.iload_n 1) 1 1 := ⟨by decide +kernel, rfl⟩
theorem dX2_hasPerson_1 : dc cX2_hasPerson 1 (.ifCond .lt 15) 3 4 := ⟨by decide +kernel, rfl⟩
theorem dX2_hasPerson_4 : dc cX2_hasPerson 4 (.iload_n 1) 1 5 := ⟨by decide +kernel, rfl⟩
theorem dX2_hasPerson_5 : dc cX2_hasPerson 5 (.aload_n 0) 1 6 := ⟨by decide +kernel, rfl⟩
theorem dX2_hasPerson_6 : dc cX2_hasPerson 6 (.getfield 69) 3 9 := ⟨by decide +kernel, rfl⟩
theorem dX2_hasPerson_9 : dc cX2_hasPerson 9 (.if_icmp .ge 7) 3 12 := ⟨by decide +kernel, rfl⟩
theorem dX2_hasPerson_12 : dc cX2_hasPerson 12 (.iconst 1) 1 13 := ⟨by decide +kernel, rfl⟩
theorem dX2_hasPerson_13 : dc cX2_hasPerson 13 (.goto 4) 3 16 := ⟨by decide +kernel, rfl⟩
theorem dX2_hasPerson_16 : dc cX2_hasPerson 16 (.iconst 0) 1 17 := ⟨by decide +kernel, rfl⟩
theorem dX2_hasPerson_17 : dc cX2_hasPerson 17 (.ireturn) 1 18 := ⟨by decide +kernel, rfl⟩
theorem nm_X2_hasPerson : (yX2_hasPerson).cls ≠ "java/lang/invoke/MethodHandle" ∧ (yX2_hasPerson).cls ≠ "java/lang/invoke/VarHandle" ∧ (parseMethodDescriptor (yX2_hasPerson).desc).map (fun d => d.parameters.length) = some 1 := ⟨by decide +kernel, by decide +kernel, by decide +kernel⟩
set_option maxRecDepth 100000 in
theorem z_X2_hasPerson {a0 : Nat} {p1 : Int32} {M : KM} {y : Int32} (hf : f_X2_hasPerson a0 p1 M = y) : (y = 0 ∨ y = 1) := by
  unfold f_X2_hasPerson at hf
  by_cases h2 : p1 < 0
  · replace hf := (if_pos h2).symm.trans hf
    obtain rfl := hf
    exact (Or.inl rfl)
  · replace hf := (if_neg h2).symm.trans hf
    by_cases h1 : (M.1 a0 10) ≤ p1
    · replace hf := (if_pos h1).symm.trans hf
      obtain rfl := hf
      exact (Or.inl rfl)
    · replace hf := (if_neg h1).symm.trans hf
      obtain rfl := hf
      exact (Or.inr rfl)
set_option maxRecDepth 100000 in
set_option maxHeartbeats 4000000 in
theorem c_X2_hasPerson {l : Launch} {ad : Nat → Nat} {cy : Nat → ClassId} {D : va_G} {z : Nat} {a0 : Nat} {p1 : Int32} {M : KM} {y : Int32} (h0 : kty a0 = 3) (hf : f_X2_hasPerson a0 p1 M = y) : KC l ad cy D z yX2_hasPerson cX2_hasPerson 2 (some .boolean) 1 [.ref (ad a0), .int p1] M (some (.int y), M) := by
  refine kv_enter (by decide +kernel) (Nat.le_of_ble_eq_true rfl) ?_
  intro x hl hD hz G
  subst hl hD hz
  unfold f_X2_hasPerson at hf
  have G : KG ad cy x cX2_hasPerson "NoonGuides$Land" 2 (some (some .boolean)) 1 := G
  show KV ad cy x (some (.int y), M) 0 [(0, .ref (ad a0)), (1, .int p1)] [] M
  refine v_iload_n G dX2_hasPerson_0 1 rfl ?_
  refine v_if_lt 16 G dX2_hasPerson_1 (by decide) (fun h2 => ?_) (fun h2 => ?_)
  · replace hf := (if_pos h2).symm.trans hf
    refine v_iconst (0 : Int32) G dX2_hasPerson_16 (by decide) ?_
    obtain rfl := hf
    exact v_zret G (Or.inl rfl) dX2_hasPerson_17
  · replace hf := (if_neg h2).symm.trans hf
    refine v_iload_n G dX2_hasPerson_4 1 rfl ?_
    refine v_aload_n G dX2_hasPerson_5 0 rfl ?_
    refine gf_2_10 G h0 t_389 (Or.inl rfl) dX2_hasPerson_6 ?_
    refine v_icmp_ge 16 G dX2_hasPerson_9 (by decide) (fun h1 => ?_) (fun h1 => ?_)
    · replace hf := (if_pos h1).symm.trans hf
      refine v_iconst (0 : Int32) G dX2_hasPerson_16 (by decide) ?_
      obtain rfl := hf
      exact v_zret G (Or.inl rfl) dX2_hasPerson_17
    · replace hf := (if_neg h1).symm.trans hf
      refine v_iconst (1 : Int32) G dX2_hasPerson_12 (by decide) ?_
      refine v_goto 17 G dX2_hasPerson_13 (by decide) ?_
      obtain rfl := hf
      exact v_zret G (Or.inr rfl) dX2_hasPerson_17
abbrev cX2_placeNamed : ByteArray := prog_4_method_10_code
def yX2_placeNamed : MethodName := ⟨RX2, "placeNamed", "(J)I"⟩
theorem dX2_placeNamed_0 : dc cX2_placeNamed 0 (.iconst 0) 1 1 := ⟨by decide +kernel, rfl⟩
theorem dX2_placeNamed_1 : dc cX2_placeNamed 1 (.istore_n 3) 1 2 := ⟨by decide +kernel, rfl⟩
theorem dX2_placeNamed_2 : dc cX2_placeNamed 2 (.iload_n 3) 1 3 := ⟨by decide +kernel, rfl⟩
theorem dX2_placeNamed_3 : dc cX2_placeNamed 3 (.aload_n 0) 1 4 := ⟨by decide +kernel, rfl⟩
theorem dX2_placeNamed_4 : dc cX2_placeNamed 4 (.getfield 63) 3 7 := ⟨by decide +kernel, rfl⟩
theorem dX2_placeNamed_7 : dc cX2_placeNamed 7 (.if_icmp .ge 22) 3 10 := ⟨by decide +kernel, rfl⟩
theorem dX2_placeNamed_10 : dc cX2_placeNamed 10 (.aload_n 0) 1 11 := ⟨by decide +kernel, rfl⟩
theorem dX2_placeNamed_11 : dc cX2_placeNamed 11 (.getfield 9) 3 14 := ⟨by decide +kernel, rfl⟩
theorem dX2_placeNamed_14 : dc cX2_placeNamed 14 (.iload_n 3) 1 15 := ⟨by decide +kernel, rfl⟩
theorem dX2_placeNamed_15 : dc cX2_placeNamed 15 (.laload) 1 16 := ⟨by decide +kernel, rfl⟩
theorem dX2_placeNamed_16 : dc cX2_placeNamed 16 (.lload_n 1) 1 17 := ⟨by decide +kernel, rfl⟩
theorem dX2_placeNamed_17 : dc cX2_placeNamed 17 (.lcmp) 1 18 := ⟨by decide +kernel, rfl⟩
theorem dX2_placeNamed_18 : dc cX2_placeNamed 18 (.ifCond .ne 5) 3 21 := ⟨by decide +kernel, rfl⟩
theorem dX2_placeNamed_21 : dc cX2_placeNamed 21 (.iload_n 3) 1 22 := ⟨by decide +kernel, rfl⟩
theorem dX2_placeNamed_22 : dc cX2_placeNamed 22 (.ireturn) 1 23 := ⟨by decide +kernel, rfl⟩
theorem dX2_placeNamed_23 : dc cX2_placeNamed 23 (.iinc 3 1) 3 26 := ⟨by decide +kernel, rfl⟩
theorem dX2_placeNamed_26 : dc cX2_placeNamed 26 (.goto (-24)) 3 29 := ⟨by decide +kernel, rfl⟩
theorem dX2_placeNamed_29 : dc cX2_placeNamed 29 (.iconst (-1)) 1 30 := ⟨by decide +kernel, rfl⟩
theorem dX2_placeNamed_30 : dc cX2_placeNamed 30 (.ireturn) 1 31 := ⟨by decide +kernel, rfl⟩
theorem nm_X2_placeNamed : (yX2_placeNamed).cls ≠ "java/lang/invoke/MethodHandle" ∧ (yX2_placeNamed).cls ≠ "java/lang/invoke/VarHandle" ∧ (parseMethodDescriptor (yX2_placeNamed).desc).map (fun d => d.parameters.length) = some 1 := ⟨by decide +kernel, by decide +kernel, by decide +kernel⟩
set_option maxRecDepth 100000 in
set_option maxHeartbeats 4000000 in
theorem s_X2_placeNamed_2 {ad : Nat → Nat} {cy : Nat → ClassId} {x : KX} (G : KG ad cy x cX2_placeNamed "NoonGuides$Land" 4 (some (some .int)) 1) {a0 : Nat} {c1 : Int64} {M : KM} (h0 : kty a0 = 3) {y : Int32} : ∀ (n : Nat) (w3 : Int32), lp_X2_placeNamed_2 n a0 c1 M w3 = some y → KV ad cy x (some (.int y), M) 2 [(0, .ref (ad a0)), (1, .long c1), (3, .int w3)] [] M := by
  intro n
  induction n with
  | zero =>
    intro w3 hf
    cases hf
  | succ n ih =>
    intro w3 hf
    rw [lp_X2_placeNamed_2] at hf
    refine v_iload_n G dX2_placeNamed_2 2 rfl ?_
    refine v_aload_n G dX2_placeNamed_3 0 rfl ?_
    refine gf_2_8 G h0 t_381 (Or.inl rfl) dX2_placeNamed_4 ?_
    refine v_icmp_ge 29 G dX2_placeNamed_7 (by decide) (fun h4 => ?_) (fun h4 => ?_)
    · replace hf := (if_pos h4).symm.trans hf
      refine v_iconst (-1 : Int32) G dX2_placeNamed_29 (by decide) ?_
      obtain rfl := Option.some.inj hf
      exact v_iret G dX2_placeNamed_30
    · replace hf := (if_neg h4).symm.trans hf
      refine v_aload_n G dX2_placeNamed_10 0 rfl ?_
      refine gf_2_0 G h0 t_363 (Or.inl rfl) dX2_placeNamed_11 ?_
      refine v_iload_n G dX2_placeNamed_14 2 rfl ?_
      obtain ⟨g1, hf⟩ := gd_e hf
      refine al_29 G (kf_2_1 h0) g1 dX2_placeNamed_15 ?_
      refine v_lload_n G dX2_placeNamed_16 1 rfl ?_
      refine v_lcmp G dX2_placeNamed_17 ?_
      refine v_if_ne 23 G dX2_placeNamed_18 (by decide) (fun h3 => ?_) (fun h3 => ?_)
      · replace hf := (if_neg h3).symm.trans hf
        obtain ⟨v2, ev2⟩ : ∃ q : Int32, q = w3 + (1 : Int32) := ⟨_, rfl⟩
        replace hf := lt_e hf ev2
        refine v_iinc v2 [(3, .int v2), (0, .ref (ad a0)), (1, .long c1)] G dX2_placeNamed_23 2 rfl (by rw [ev2]; rfl) (by decide) rfl ?_
        refine v_goto 2 G dX2_placeNamed_26 (by decide) ?_
        refine v_sub _ [1, 2, 0] rfl ?_
        exact ih v2 hf
      · replace hf := (if_pos h3).symm.trans hf
        refine v_iload_n G dX2_placeNamed_21 2 rfl ?_
        obtain rfl := Option.some.inj hf
        exact v_iret G dX2_placeNamed_22
set_option maxRecDepth 100000 in
set_option maxHeartbeats 4000000 in
theorem c_X2_placeNamed {l : Launch} {ad : Nat → Nat} {cy : Nat → ClassId} {D : va_G} {z : Nat} (n : Nat) {a0 : Nat} {p1 : Int64} {M : KM} {y : Int32} (h0 : kty a0 = 3) (hf : f_X2_placeNamed n a0 p1 M = some y) : KC l ad cy D z yX2_placeNamed cX2_placeNamed 4 (some .int) 1 [.ref (ad a0), .long p1] M (some (.int y), M) := by
  refine kv_enter (by decide +kernel) (Nat.le_of_ble_eq_true rfl) ?_
  intro x hl hD hz G
  subst hl hD hz
  unfold f_X2_placeNamed at hf
  have G : KG ad cy x cX2_placeNamed "NoonGuides$Land" 4 (some (some .int)) 1 := G
  show KV ad cy x (some (.int y), M) 0 [(0, .ref (ad a0)), (1, .long p1)] [] M
  refine v_iconst (0 : Int32) G dX2_placeNamed_0 (by decide) ?_
  refine v_istore_n [(3, .int (0 : Int32)), (0, .ref (ad a0)), (1, .long p1)] G dX2_placeNamed_1 (by decide) rfl ?_
  refine v_sub _ [1, 2, 0] rfl ?_
  refine s_X2_placeNamed_2 G h0 n (0 : Int32) hf
abbrev cX2_personNamed : ByteArray := prog_4_method_11_code
def yX2_personNamed : MethodName := ⟨RX2, "personNamed", "(J)I"⟩
theorem dX2_personNamed_0 : dc cX2_personNamed 0 (.iconst 0) 1 1 := ⟨by decide +kernel, rfl⟩
theorem dX2_personNamed_1 : dc cX2_personNamed 1 (.istore_n 3) 1 2 := ⟨by decide +kernel, rfl⟩
theorem dX2_personNamed_2 : dc cX2_personNamed 2 (.iload_n 3) 1 3 := ⟨by decide +kernel, rfl⟩
theorem dX2_personNamed_3 : dc cX2_personNamed 3 (.aload_n 0) 1 4 := ⟨by decide +kernel, rfl⟩
theorem dX2_personNamed_4 : dc cX2_personNamed 4 (.getfield 69) 3 7 := ⟨by decide +kernel, rfl⟩
theorem dX2_personNamed_7 : dc cX2_personNamed 7 (.if_icmp .ge 25) 3 10 := ⟨by decide +kernel, rfl⟩
theorem dX2_personNamed_10 : dc cX2_personNamed 10 (.aload_n 0) 1 11 := ⟨by decide +kernel, rfl⟩
theorem dX2_personNamed_11 : dc cX2_personNamed 11 (.getfield 31) 3 14 := ⟨by decide +kernel, rfl⟩
theorem dX2_personNamed_14 : dc cX2_personNamed 14 (.iload_n 3) 1 15 := ⟨by decide +kernel, rfl⟩
theorem dX2_personNamed_15 : dc cX2_personNamed 15 (.aaload) 1 16 := ⟨by decide +kernel, rfl⟩
theorem dX2_personNamed_16 : dc cX2_personNamed 16 (.getfield 106) 3 19 := ⟨by decide +kernel, rfl⟩
theorem dX2_personNamed_19 : dc cX2_personNamed 19 (.lload_n 1) 1 20 := ⟨by decide +kernel, rfl⟩
theorem dX2_personNamed_20 : dc cX2_personNamed 20 (.lcmp) 1 21 := ⟨by decide +kernel, rfl⟩
theorem dX2_personNamed_21 : dc cX2_personNamed 21 (.ifCond .ne 5) 3 24 := ⟨by decide +kernel, rfl⟩
theorem dX2_personNamed_24 : dc cX2_personNamed 24 (.iload_n 3) 1 25 := ⟨by decide +kernel, rfl⟩
theorem dX2_personNamed_25 : dc cX2_personNamed 25 (.ireturn) 1 26 := ⟨by decide +kernel, rfl⟩
theorem dX2_personNamed_26 : dc cX2_personNamed 26 (.iinc 3 1) 3 29 := ⟨by decide +kernel, rfl⟩
theorem dX2_personNamed_29 : dc cX2_personNamed 29 (.goto (-27)) 3 32 := ⟨by decide +kernel, rfl⟩
theorem dX2_personNamed_32 : dc cX2_personNamed 32 (.iconst (-1)) 1 33 := ⟨by decide +kernel, rfl⟩
theorem dX2_personNamed_33 : dc cX2_personNamed 33 (.ireturn) 1 34 := ⟨by decide +kernel, rfl⟩
theorem nm_X2_personNamed : (yX2_personNamed).cls ≠ "java/lang/invoke/MethodHandle" ∧ (yX2_personNamed).cls ≠ "java/lang/invoke/VarHandle" ∧ (parseMethodDescriptor (yX2_personNamed).desc).map (fun d => d.parameters.length) = some 1 := ⟨by decide +kernel, by decide +kernel, by decide +kernel⟩
set_option maxRecDepth 100000 in
set_option maxHeartbeats 4000000 in
theorem s_X2_personNamed_2 {ad : Nat → Nat} {cy : Nat → ClassId} {x : KX} (G : KG ad cy x cX2_personNamed "NoonGuides$Land" 4 (some (some .int)) 1) {a0 : Nat} {c1 : Int64} {M : KM} (h0 : kty a0 = 3) {y : Int32} : ∀ (n : Nat) (w3 : Int32), lp_X2_personNamed_2 n a0 c1 M w3 = some y → KV ad cy x (some (.int y), M) 2 [(0, .ref (ad a0)), (1, .long c1), (3, .int w3)] [] M := by
  intro n
  induction n with
  | zero =>
    intro w3 hf
    cases hf
  | succ n ih =>
    intro w3 hf
    rw [lp_X2_personNamed_2] at hf
    refine v_iload_n G dX2_personNamed_2 2 rfl ?_
    refine v_aload_n G dX2_personNamed_3 0 rfl ?_
    refine gf_2_10 G h0 t_389 (Or.inl rfl) dX2_personNamed_4 ?_
    refine v_icmp_ge 32 G dX2_personNamed_7 (by decide) (fun h4 => ?_) (fun h4 => ?_)
    · replace hf := (if_pos h4).symm.trans hf
      refine v_iconst (-1 : Int32) G dX2_personNamed_32 (by decide) ?_
      obtain rfl := Option.some.inj hf
      exact v_iret G dX2_personNamed_33
    · replace hf := (if_neg h4).symm.trans hf
      refine v_aload_n G dX2_personNamed_10 0 rfl ?_
      refine gf_2_5 G h0 t_371 (Or.inl rfl) dX2_personNamed_11 ?_
      refine v_iload_n G dX2_personNamed_14 2 rfl ?_
      obtain ⟨g1, hf⟩ := gd_e hf
      refine al_Person G (kf_2_6 h0) g1 dX2_personNamed_15 ?_
      refine gf_7_2 G (ke_Person (kf_2_6 h0) (ix_lt g1)) t_312 (Or.inl rfl) dX2_personNamed_16 ?_
      refine v_lload_n G dX2_personNamed_19 1 rfl ?_
      refine v_lcmp G dX2_personNamed_20 ?_
      refine v_if_ne 26 G dX2_personNamed_21 (by decide) (fun h3 => ?_) (fun h3 => ?_)
      · replace hf := (if_neg h3).symm.trans hf
        obtain ⟨v2, ev2⟩ : ∃ q : Int32, q = w3 + (1 : Int32) := ⟨_, rfl⟩
        replace hf := lt_e hf ev2
        refine v_iinc v2 [(3, .int v2), (0, .ref (ad a0)), (1, .long c1)] G dX2_personNamed_26 2 rfl (by rw [ev2]; rfl) (by decide) rfl ?_
        refine v_goto 2 G dX2_personNamed_29 (by decide) ?_
        refine v_sub _ [1, 2, 0] rfl ?_
        exact ih v2 hf
      · replace hf := (if_pos h3).symm.trans hf
        refine v_iload_n G dX2_personNamed_24 2 rfl ?_
        obtain rfl := Option.some.inj hf
        exact v_iret G dX2_personNamed_25
set_option maxRecDepth 100000 in
set_option maxHeartbeats 4000000 in
theorem c_X2_personNamed {l : Launch} {ad : Nat → Nat} {cy : Nat → ClassId} {D : va_G} {z : Nat} (n : Nat) {a0 : Nat} {p1 : Int64} {M : KM} {y : Int32} (h0 : kty a0 = 3) (hf : f_X2_personNamed n a0 p1 M = some y) : KC l ad cy D z yX2_personNamed cX2_personNamed 4 (some .int) 1 [.ref (ad a0), .long p1] M (some (.int y), M) := by
  refine kv_enter (by decide +kernel) (Nat.le_of_ble_eq_true rfl) ?_
  intro x hl hD hz G
  subst hl hD hz
  unfold f_X2_personNamed at hf
  have G : KG ad cy x cX2_personNamed "NoonGuides$Land" 4 (some (some .int)) 1 := G
  show KV ad cy x (some (.int y), M) 0 [(0, .ref (ad a0)), (1, .long p1)] [] M
  refine v_iconst (0 : Int32) G dX2_personNamed_0 (by decide) ?_
  refine v_istore_n [(3, .int (0 : Int32)), (0, .ref (ad a0)), (1, .long p1)] G dX2_personNamed_1 (by decide) rfl ?_
  refine v_sub _ [1, 2, 0] rfl ?_
  refine s_X2_personNamed_2 G h0 n (0 : Int32) hf
abbrev cX2_otherEnd : ByteArray := prog_4_method_12_code
def yX2_otherEnd : MethodName := ⟨RX2, "otherEnd", "(II)I"⟩
theorem dX2_otherEnd_0 : dc cX2_otherEnd 0 (.aload_n 0) 1 1 := ⟨by decide +kernel, rfl⟩
theorem dX2_otherEnd_1 : dc cX2_otherEnd 1 (.getfield 15) 3 4 := ⟨by decide +kernel, rfl⟩
theorem dX2_otherEnd_4 : dc cX2_otherEnd 4 (.iload_n 1) 1 5 := ⟨by decide +kernel, rfl⟩
theorem dX2_otherEnd_5 : dc cX2_otherEnd 5 (.iaload) 1 6 := ⟨by decide +kernel, rfl⟩
theorem dX2_otherEnd_6 : dc cX2_otherEnd 6 (.iload_n 2) 1 7 := ⟨by decide +kernel, rfl⟩
theorem dX2_otherEnd_7 : dc cX2_otherEnd 7 (.if_icmp .ne 10) 3 10 := ⟨by decide +kernel, rfl⟩
theorem dX2_otherEnd_10 : dc cX2_otherEnd 10 (.aload_n 0) 1 11 := ⟨by decide +kernel, rfl⟩
theorem dX2_otherEnd_11 : dc cX2_otherEnd 11 (.getfield 19) 3 14 := ⟨by decide +kernel, rfl⟩
theorem dX2_otherEnd_14 : dc cX2_otherEnd 14 (.iload_n 1) 1 15 := ⟨by decide +kernel, rfl⟩
theorem dX2_otherEnd_15 : dc cX2_otherEnd 15 (.iaload) 1 16 := ⟨by decide +kernel, rfl⟩
theorem dX2_otherEnd_16 : dc cX2_otherEnd 16 (.ireturn) 1 17 := ⟨by decide +kernel, rfl⟩
theorem dX2_otherEnd_17 : dc cX2_otherEnd 17 (.aload_n 0) 1 18 := ⟨by decide +kernel, rfl⟩
theorem dX2_otherEnd_18 : dc cX2_otherEnd 18 (.getfield 19) 3 21 := ⟨by decide +kernel, rfl⟩
theorem dX2_otherEnd_21 : dc cX2_otherEnd 21 (.iload_n 1) 1 22 := ⟨by decide +kernel, rfl⟩
theorem dX2_otherEnd_22 : dc cX2_otherEnd 22 (.iaload) 1 23 := ⟨by decide +kernel, rfl⟩
theorem dX2_otherEnd_23 : dc cX2_otherEnd 23 (.iload_n 2) 1 24 := ⟨by decide +kernel, rfl⟩
theorem dX2_otherEnd_24 : dc cX2_otherEnd 24 (.if_icmp .ne 12) 3 27 := ⟨by decide +kernel, rfl⟩
theorem dX2_otherEnd_27 : dc cX2_otherEnd 27 (.aload_n 0) 1 28 := ⟨by decide +kernel, rfl⟩
theorem dX2_otherEnd_28 : dc cX2_otherEnd 28 (.getfield 15) 3 31 := ⟨by decide +kernel, rfl⟩
theorem dX2_otherEnd_31 : dc cX2_otherEnd 31 (.iload_n 1) 1 32 := ⟨by decide +kernel, rfl⟩
theorem dX2_otherEnd_32 : dc cX2_otherEnd 32 (.iaload) 1 33 := ⟨by decide +kernel, rfl⟩
theorem dX2_otherEnd_33 : dc cX2_otherEnd 33 (.goto 4) 3 36 := ⟨by decide +kernel, rfl⟩
theorem dX2_otherEnd_36 : dc cX2_otherEnd 36 (.iconst (-1)) 1 37 := ⟨by decide +kernel, rfl⟩
theorem dX2_otherEnd_37 : dc cX2_otherEnd 37 (.ireturn) 1 38 := ⟨by decide +kernel, rfl⟩
theorem nm_X2_otherEnd : (yX2_otherEnd).cls ≠ "java/lang/invoke/MethodHandle" ∧ (yX2_otherEnd).cls ≠ "java/lang/invoke/VarHandle" ∧ (parseMethodDescriptor (yX2_otherEnd).desc).map (fun d => d.parameters.length) = some 2 := ⟨by decide +kernel, by decide +kernel, by decide +kernel⟩
set_option maxRecDepth 100000 in
set_option maxHeartbeats 4000000 in
theorem c_X2_otherEnd {l : Launch} {ad : Nat → Nat} {cy : Nat → ClassId} {D : va_G} {z : Nat} (n : Nat) {a0 : Nat} {p1 : Int32} {p2 : Int32} {M : KM} {y : Int32} (h0 : kty a0 = 3) (hf : f_X2_otherEnd n a0 p1 p2 M = some y) : KC l ad cy D z yX2_otherEnd cX2_otherEnd 3 (some .int) 1 [.ref (ad a0), .int p1, .int p2] M (some (.int y), M) := by
  refine kv_enter (by decide +kernel) (Nat.le_of_ble_eq_true rfl) ?_
  intro x hl hD hz G
  subst hl hD hz
  unfold f_X2_otherEnd at hf
  have G : KG ad cy x cX2_otherEnd "NoonGuides$Land" 3 (some (some .int)) 1 := G
  show KV ad cy x (some (.int y), M) 0 [(0, .ref (ad a0)), (1, .int p1), (2, .int p2)] [] M
  refine v_aload_n G dX2_otherEnd_0 0 rfl ?_
  refine gf_2_1 G h0 t_364 (Or.inl rfl) dX2_otherEnd_1 ?_
  refine v_iload_n G dX2_otherEnd_4 1 rfl ?_
  obtain ⟨g1, hf⟩ := gd_e hf
  refine al_30 G (kf_2_2 h0) g1 dX2_otherEnd_5 ?_
  refine v_iload_n G dX2_otherEnd_6 2 rfl ?_
  refine v_icmp_ne 17 G dX2_otherEnd_7 (by decide) (fun h6 => ?_) (fun h6 => ?_)
  · replace hf := (if_neg h6).symm.trans hf
    refine v_aload_n G dX2_otherEnd_17 0 rfl ?_
    refine gf_2_2 G h0 t_366 (Or.inl rfl) dX2_otherEnd_18 ?_
    refine v_iload_n G dX2_otherEnd_21 1 rfl ?_
    obtain ⟨g2, hf⟩ := gd_e hf
    refine al_30 G (kf_2_3 h0) g2 dX2_otherEnd_22 ?_
    refine v_iload_n G dX2_otherEnd_23 2 rfl ?_
    refine v_icmp_ne 36 G dX2_otherEnd_24 (by decide) (fun h4 => ?_) (fun h4 => ?_)
    · replace hf := (if_neg h4).symm.trans hf
      refine v_iconst (-1 : Int32) G dX2_otherEnd_36 (by decide) ?_
      obtain rfl := Option.some.inj hf
      exact v_iret G dX2_otherEnd_37
    · replace hf := (if_pos h4).symm.trans hf
      refine v_aload_n G dX2_otherEnd_27 0 rfl ?_
      refine gf_2_1 G h0 t_364 (Or.inl rfl) dX2_otherEnd_28 ?_
      refine v_iload_n G dX2_otherEnd_31 1 rfl ?_
      obtain ⟨g3, hf⟩ := gd_e hf
      refine al_30 G (kf_2_2 h0) g3 dX2_otherEnd_32 ?_
      refine v_goto 37 G dX2_otherEnd_33 (by decide) ?_
      obtain rfl := Option.some.inj hf
      exact v_iret G dX2_otherEnd_37
  · replace hf := (if_pos h6).symm.trans hf
    refine v_aload_n G dX2_otherEnd_10 0 rfl ?_
    refine gf_2_2 G h0 t_366 (Or.inl rfl) dX2_otherEnd_11 ?_
    refine v_iload_n G dX2_otherEnd_14 1 rfl ?_
    obtain ⟨g5, hf⟩ := gd_e hf
    refine al_30 G (kf_2_3 h0) g5 dX2_otherEnd_15 ?_
    obtain rfl := Option.some.inj hf
    exact v_iret G dX2_otherEnd_16
abbrev cX2_roadBetween : ByteArray := prog_4_method_13_code
def yX2_roadBetween : MethodName := ⟨RX2, "roadBetween", "(II)I"⟩
theorem dX2_roadBetween_0 : dc cX2_roadBetween 0 (.iconst 0) 1 1 := ⟨by decide +kernel, rfl⟩
theorem dX2_roadBetween_1 : dc cX2_roadBetween 1 (.istore_n 3) 1 2 := ⟨by decide +kernel, rfl⟩
theorem dX2_roadBetween_2 : dc cX2_roadBetween 2 (.iload_n 3) 1 3 := ⟨by decide +kernel, rfl⟩
theorem dX2_roadBetween_3 : dc cX2_roadBetween 3 (.aload_n 0) 1 4 := ⟨by decide +kernel, rfl⟩
theorem dX2_roadBetween_4 : dc cX2_roadBetween 4 (.getfield 66) 3 7 := ⟨by decide +kernel, rfl⟩
theorem dX2_roadBetween_7 : dc cX2_roadBetween 7 (.if_icmp .ge 21) 3 10 := ⟨by decide +kernel, rfl⟩
theorem dX2_roadBetween_10 : dc cX2_roadBetween 10 (.aload_n 0) 1 11 := ⟨by decide +kernel, rfl⟩
theorem dX2_roadBetween_11 : dc cX2_roadBetween 11 (.iload_n 3) 1 12 := ⟨by decide +kernel, rfl⟩
theorem dX2_roadBetween_12 : dc cX2_roadBetween 12 (.iload_n 1) 1 13 := ⟨by decide +kernel, rfl⟩
theorem dX2_roadBetween_13 : dc cX2_roadBetween 13 (.invokevirtual 110) 3 16 := ⟨by decide +kernel, rfl⟩
theorem dX2_roadBetween_16 : dc cX2_roadBetween 16 (.iload_n 2) 1 17 := ⟨by decide +kernel, rfl⟩
theorem dX2_roadBetween_17 : dc cX2_roadBetween 17 (.if_icmp .ne 5) 3 20 := ⟨by decide +kernel, rfl⟩
theorem dX2_roadBetween_20 : dc cX2_roadBetween 20 (.iload_n 3) 1 21 := ⟨by decide +kernel, rfl⟩
theorem dX2_roadBetween_21 : dc cX2_roadBetween 21 (.ireturn) 1 22 := ⟨by decide +kernel, rfl⟩
theorem dX2_roadBetween_22 : dc cX2_roadBetween 22 (.iinc 3 1) 3 25 := ⟨by decide +kernel, rfl⟩
theorem dX2_roadBetween_25 : dc cX2_roadBetween 25 (.goto (-23)) 3 28 := ⟨by decide +kernel, rfl⟩
theorem dX2_roadBetween_28 : dc cX2_roadBetween 28 (.iconst (-1)) 1 29 := ⟨by decide +kernel, rfl⟩
theorem dX2_roadBetween_29 : dc cX2_roadBetween 29 (.ireturn) 1 30 := ⟨by decide +kernel, rfl⟩
theorem nm_X2_roadBetween : (yX2_roadBetween).cls ≠ "java/lang/invoke/MethodHandle" ∧ (yX2_roadBetween).cls ≠ "java/lang/invoke/VarHandle" ∧ (parseMethodDescriptor (yX2_roadBetween).desc).map (fun d => d.parameters.length) = some 2 := ⟨by decide +kernel, by decide +kernel, by decide +kernel⟩
set_option maxRecDepth 100000 in
set_option maxHeartbeats 4000000 in
theorem s_X2_roadBetween_2 {ad : Nat → Nat} {cy : Nat → ClassId} {x : KX} (G : KG ad cy x cX2_roadBetween "NoonGuides$Land" 4 (some (some .int)) 2) {a0 : Nat} {c1 : Int32} {c2 : Int32} {M : KM} (h0 : kty a0 = 3) {y : Int32} : ∀ (n : Nat) (w3 : Int32), lp_X2_roadBetween_2 n a0 c1 c2 M w3 = some y → KV ad cy x (some (.int y), M) 2 [(0, .ref (ad a0)), (1, .int c1), (2, .int c2), (3, .int w3)] [] M := by
  intro n
  induction n with
  | zero =>
    intro w3 hf
    cases hf
  | succ n ih =>
    intro w3 hf
    rw [lp_X2_roadBetween_2] at hf
    refine v_iload_n G dX2_roadBetween_2 3 rfl ?_
    refine v_aload_n G dX2_roadBetween_3 0 rfl ?_
    refine gf_2_9 G h0 t_385 (Or.inl rfl) dX2_roadBetween_4 ?_
    refine v_icmp_ge 28 G dX2_roadBetween_7 (by decide) (fun h4 => ?_) (fun h4 => ?_)
    · replace hf := (if_pos h4).symm.trans hf
      refine v_iconst (-1 : Int32) G dX2_roadBetween_28 (by decide) ?_
      obtain rfl := Option.some.inj hf
      exact v_iret G dX2_roadBetween_29
    · replace hf := (if_neg h4).symm.trans hf
      refine v_aload_n G dX2_roadBetween_10 0 rfl ?_
      refine v_iload_n G dX2_roadBetween_11 3 rfl ?_
      refine v_iload_n G dX2_roadBetween_12 1 rfl ?_
      obtain ⟨v1, hcv1, hf⟩ := bd_e hf
      refine v_callV [.int w3, .int c1] G (c_X2_otherEnd n h0 hcv1) h0 (by decide) rfl rfl rfl t_573 t_574 t_575 t_13 t_576 nm_X2_otherEnd (by decide) (by decide) rfl rfl (Nat.le_of_ble_eq_true rfl) dX2_roadBetween_13 (kv_ri ?_)
      refine v_iload_n G dX2_roadBetween_16 2 rfl ?_
      refine v_icmp_ne 22 G dX2_roadBetween_17 (by decide) (fun h3 => ?_) (fun h3 => ?_)
      · replace hf := (if_neg h3).symm.trans hf
        obtain ⟨v2, ev2⟩ : ∃ q : Int32, q = w3 + (1 : Int32) := ⟨_, rfl⟩
        replace hf := lt_e hf ev2
        refine v_iinc v2 [(3, .int v2), (0, .ref (ad a0)), (1, .int c1), (2, .int c2)] G dX2_roadBetween_22 3 rfl (by rw [ev2]; rfl) (by decide) rfl ?_
        refine v_goto 2 G dX2_roadBetween_25 (by decide) ?_
        refine v_sub _ [1, 2, 3, 0] rfl ?_
        exact ih v2 hf
      · replace hf := (if_pos h3).symm.trans hf
        refine v_iload_n G dX2_roadBetween_20 3 rfl ?_
        obtain rfl := Option.some.inj hf
        exact v_iret G dX2_roadBetween_21
set_option maxRecDepth 100000 in
set_option maxHeartbeats 4000000 in
theorem c_X2_roadBetween {l : Launch} {ad : Nat → Nat} {cy : Nat → ClassId} {D : va_G} {z : Nat} (n : Nat) {a0 : Nat} {p1 : Int32} {p2 : Int32} {M : KM} {y : Int32} (h0 : kty a0 = 3) (hf : f_X2_roadBetween n a0 p1 p2 M = some y) : KC l ad cy D z yX2_roadBetween cX2_roadBetween 4 (some .int) 2 [.ref (ad a0), .int p1, .int p2] M (some (.int y), M) := by
  refine kv_enter (by decide +kernel) (Nat.le_of_ble_eq_true rfl) ?_
  intro x hl hD hz G
  subst hl hD hz
  unfold f_X2_roadBetween at hf
  have G : KG ad cy x cX2_roadBetween "NoonGuides$Land" 4 (some (some .int)) 2 := G
  show KV ad cy x (some (.int y), M) 0 [(0, .ref (ad a0)), (1, .int p1), (2, .int p2)] [] M
  refine v_iconst (0 : Int32) G dX2_roadBetween_0 (by decide) ?_
  refine v_istore_n [(3, .int (0 : Int32)), (0, .ref (ad a0)), (1, .int p1), (2, .int p2)] G dX2_roadBetween_1 (by decide) rfl ?_
  refine v_sub _ [1, 2, 3, 0] rfl ?_
  refine s_X2_roadBetween_2 G h0 n (0 : Int32) hf
abbrev cX2_placeOf : ByteArray := prog_4_method_14_code
def yX2_placeOf : MethodName := ⟨RX2, "placeOf", "(I)I"⟩
theorem dX2_placeOf_0 : dc cX2_placeOf 0 (.aload_n 0) 1 1 := ⟨by decide +kernel, rfl⟩
theorem dX2_placeOf_1 : dc cX2_placeOf 1 (.iload_n 1) 1 2 := ⟨by decide +kernel, rfl⟩
theorem dX2_placeOf_2 : dc cX2_placeOf 2 (.invokevirtual 114) 3 5 := ⟨by decide +kernel, rfl⟩
theorem dX2_placeOf_5 : dc cX2_placeOf 5 (.ifCond .eq 15) 3 8 := ⟨by decide +kernel, rfl⟩
theorem dX2_placeOf_8 : dc cX2_placeOf 8 (.aload_n 0) 1 9 := ⟨by decide +kernel, rfl⟩
theorem dX2_placeOf_9 : dc cX2_placeOf 9 (.getfield 31) 3 12 := ⟨by decide +kernel, rfl⟩
theorem dX2_placeOf_12 : dc cX2_placeOf 12 (.iload_n 1) 1 13 := ⟨by decide +kernel, rfl⟩
theorem dX2_placeOf_13 : dc cX2_placeOf 13 (.aaload) 1 14 := ⟨by decide +kernel, rfl⟩
theorem dX2_placeOf_14 : dc cX2_placeOf 14 (.getfield 118) 3 17 := ⟨by decide +kernel, rfl⟩
theorem dX2_placeOf_17 : dc cX2_placeOf 17 (.goto 4) 3 20 := ⟨by decide +kernel, rfl⟩
theorem dX2_placeOf_20 : dc cX2_placeOf 20 (.iconst (-1)) 1 21 := ⟨by decide +kernel, rfl⟩
theorem dX2_placeOf_21 : dc cX2_placeOf 21 (.ireturn) 1 22 := ⟨by decide +kernel, rfl⟩
theorem nm_X2_placeOf : (yX2_placeOf).cls ≠ "java/lang/invoke/MethodHandle" ∧ (yX2_placeOf).cls ≠ "java/lang/invoke/VarHandle" ∧ (parseMethodDescriptor (yX2_placeOf).desc).map (fun d => d.parameters.length) = some 1 := ⟨by decide +kernel, by decide +kernel, by decide +kernel⟩
set_option maxRecDepth 100000 in
set_option maxHeartbeats 4000000 in
theorem c_X2_placeOf {l : Launch} {ad : Nat → Nat} {cy : Nat → ClassId} {D : va_G} {z : Nat} (n : Nat) {a0 : Nat} {p1 : Int32} {M : KM} {y : Int32} (h0 : kty a0 = 3) (hf : f_X2_placeOf n a0 p1 M = some y) : KC l ad cy D z yX2_placeOf cX2_placeOf 2 (some .int) 2 [.ref (ad a0), .int p1] M (some (.int y), M) := by
  refine kv_enter (by decide +kernel) (Nat.le_of_ble_eq_true rfl) ?_
  intro x hl hD hz G
  subst hl hD hz
  unfold f_X2_placeOf at hf
  have G : KG ad cy x cX2_placeOf "NoonGuides$Land" 2 (some (some .int)) 2 := G
  show KV ad cy x (some (.int y), M) 0 [(0, .ref (ad a0)), (1, .int p1)] [] M
  refine v_aload_n G dX2_placeOf_0 0 rfl ?_
  refine v_iload_n G dX2_placeOf_1 1 rfl ?_
  obtain ⟨v1, hcv1⟩ : ∃ q, f_X2_hasPerson a0 p1 M = q := ⟨_, rfl⟩
  replace hf := lt_e hf hcv1.symm
  refine v_callV [.int p1] G (c_X2_hasPerson h0 hcv1) h0 (by decide) rfl rfl rfl t_593 t_586 t_587 t_13 t_588 nm_X2_hasPerson (by decide) (by decide) rfl rfl (Nat.le_of_ble_eq_true rfl) dX2_placeOf_2 (kv_ri ?_)
  refine v_if_eq 20 G dX2_placeOf_5 (by decide) (fun h3 => ?_) (fun h3 => ?_)
  · replace hf := (if_pos h3).symm.trans hf
    refine v_iconst (-1 : Int32) G dX2_placeOf_20 (by decide) ?_
    obtain rfl := Option.some.inj hf
    exact v_iret G dX2_placeOf_21
  · replace hf := (if_neg h3).symm.trans hf
    refine v_aload_n G dX2_placeOf_8 0 rfl ?_
    refine gf_2_5 G h0 t_371 (Or.inl rfl) dX2_placeOf_9 ?_
    refine v_iload_n G dX2_placeOf_12 1 rfl ?_
    obtain ⟨g2, hf⟩ := gd_e hf
    refine al_Person G (kf_2_6 h0) g2 dX2_placeOf_13 ?_
    refine gf_7_5 G (ke_Person (kf_2_6 h0) (ix_lt g2)) t_322 (Or.inl rfl) dX2_placeOf_14 ?_
    refine v_goto 21 G dX2_placeOf_17 (by decide) ?_
    obtain rfl := Option.some.inj hf
    exact v_iret G dX2_placeOf_21
abbrev cX2_isGlaring : ByteArray := prog_4_method_16_code
def yX2_isGlaring : MethodName := ⟨RX2, "isGlaring", "(I)Z"⟩
theorem dX2_isGlaring_0 : dc cX2_isGlaring 0 (.aload_n 0) 1 1 := ⟨by decide +kernel, rfl⟩
theorem dX2_isGlaring_1 : dc cX2_isGlaring 1 (.getfield 76) 3 4 := ⟨by decide +kernel, rfl⟩
theorem dX2_isGlaring_4 : dc cX2_isGlaring 4 (.ifCond .ne 18) 3 7 := ⟨by decide +kernel, rfl⟩
theorem dX2_isGlaring_7 : dc cX2_isGlaring 7 (.aload_n 0) 1 8 := ⟨by decide +kernel, rfl⟩
theorem dX2_isGlaring_8 : dc cX2_isGlaring 8 (.getfield 38) 3 11 := ⟨by decide +kernel, rfl⟩
theorem dX2_isGlaring_11 : dc cX2_isGlaring 11 (.iload_n 1) 1 12 := ⟨by decide +kernel, rfl⟩
theorem dX2_isGlaring_12 : dc cX2_isGlaring 12 (.invokevirtual 124) 3 15 := ⟨by decide +kernel, rfl⟩
theorem dX2_isGlaring_15 : dc cX2_isGlaring 15 (.ifCond .eq 7) 3 18 := ⟨by decide +kernel, rfl⟩
theorem dX2_isGlaring_18 : dc cX2_isGlaring 18 (.iconst 1) 1 19 := ⟨by decide +kernel, rfl⟩
theorem dX2_isGlaring_19 : dc cX2_isGlaring 19 (.goto 4) 3 22 := ⟨by decide +kernel, rfl⟩
theorem dX2_isGlaring_22 : dc cX2_isGlaring 22 (.iconst 0) 1 23 := ⟨by decide +kernel, rfl⟩
theorem dX2_isGlaring_23 : dc cX2_isGlaring 23 (.ireturn) 1 24 := ⟨by decide +kernel, rfl⟩
theorem nm_X2_isGlaring : (yX2_isGlaring).cls ≠ "java/lang/invoke/MethodHandle" ∧ (yX2_isGlaring).cls ≠ "java/lang/invoke/VarHandle" ∧ (parseMethodDescriptor (yX2_isGlaring).desc).map (fun d => d.parameters.length) = some 1 := ⟨by decide +kernel, by decide +kernel, by decide +kernel⟩
set_option maxRecDepth 100000 in
theorem z_X2_isGlaring (n : Nat) {a0 : Nat} {p1 : Int32} {M : KM} {y : Int32} (hf : f_X2_isGlaring n a0 p1 M = some y) : (y = 0 ∨ y = 1) := by
  unfold f_X2_isGlaring at hf
  by_cases h3 : (M.1 a0 15) = 0
  · replace hf := (if_pos h3).symm.trans hf
    obtain ⟨v1, hcv1, hf⟩ := bd_e hf
    by_cases h2 : v1 = 0
    · replace hf := (if_pos h2).symm.trans hf
      obtain rfl := Option.some.inj hf
      exact (Or.inl rfl)
    · replace hf := (if_neg h2).symm.trans hf
      obtain rfl := Option.some.inj hf
      exact (Or.inr rfl)
  · replace hf := (if_neg h3).symm.trans hf
    obtain rfl := Option.some.inj hf
    exact (Or.inl rfl)
set_option maxRecDepth 100000 in
set_option maxHeartbeats 4000000 in
theorem c_X2_isGlaring {l : Launch} {ad : Nat → Nat} {cy : Nat → ClassId} {D : va_G} {z : Nat} (n : Nat) {a0 : Nat} {p1 : Int32} {M : KM} {y : Int32} (h0 : kty a0 = 3) (hf : f_X2_isGlaring n a0 p1 M = some y) : KC l ad cy D z yX2_isGlaring cX2_isGlaring 2 (some .boolean) 2 [.ref (ad a0), .int p1] M (some (.int y), M) := by
  refine kv_enter (by decide +kernel) (Nat.le_of_ble_eq_true rfl) ?_
  intro x hl hD hz G
  subst hl hD hz
  unfold f_X2_isGlaring at hf
  have G : KG ad cy x cX2_isGlaring "NoonGuides$Land" 2 (some (some .boolean)) 2 := G
  show KV ad cy x (some (.int y), M) 0 [(0, .ref (ad a0)), (1, .int p1)] [] M
  refine v_aload_n G dX2_isGlaring_0 0 rfl ?_
  refine gf_2_15 G h0 t_406 (Or.inl rfl) dX2_isGlaring_1 ?_
  refine v_if_ne 22 G dX2_isGlaring_4 (by decide) (fun h3 => ?_) (fun h3 => ?_)
  · replace hf := (if_neg h3).symm.trans hf
    refine v_iconst (0 : Int32) G dX2_isGlaring_22 (by decide) ?_
    obtain rfl := Option.some.inj hf
    exact v_zret G (Or.inl rfl) dX2_isGlaring_23
  · replace hf := (if_pos h3).symm.trans hf
    refine v_aload_n G dX2_isGlaring_7 0 rfl ?_
    refine gf_2_6 G h0 t_376 (Or.inl rfl) dX2_isGlaring_8 ?_
    refine v_iload_n G dX2_isGlaring_11 1 rfl ?_
    obtain ⟨v1, hcv1, hf⟩ := bd_e hf
    refine v_callV [.int p1] G (c_X1_areGlaring n (kf_2_7 h0) hcv1) (kf_2_7 h0) (by decide) rfl rfl rfl t_529 t_530 t_531 t_12 t_532 nm_X1_areGlaring (by decide) (by decide) rfl rfl (Nat.le_of_ble_eq_true rfl) dX2_isGlaring_12 (kv_ri ?_)
    refine v_if_eq 22 G dX2_isGlaring_15 (by decide) (fun h2 => ?_) (fun h2 => ?_)
    · replace hf := (if_pos h2).symm.trans hf
      refine v_iconst (0 : Int32) G dX2_isGlaring_22 (by decide) ?_
      obtain rfl := Option.some.inj hf
      exact v_zret G (Or.inl rfl) dX2_isGlaring_23
    · replace hf := (if_neg h2).symm.trans hf
      refine v_iconst (1 : Int32) G dX2_isGlaring_18 (by decide) ?_
      refine v_goto 23 G dX2_isGlaring_19 (by decide) ?_
      obtain rfl := Option.some.inj hf
      exact v_zret G (Or.inr rfl) dX2_isGlaring_23
abbrev cX2_paceOf : ByteArray := prog_4_method_17_code
def yX2_paceOf : MethodName := ⟨RX2, "paceOf", "(II)I"⟩
theorem dX2_paceOf_0 : dc cX2_paceOf 0 (.aload_n 0) 1 1 := ⟨by decide +kernel, rfl⟩
theorem dX2_paceOf_1 : dc cX2_paceOf 1 (.getfield 31) 3 4 := ⟨by decide +kernel, rfl⟩
theorem dX2_paceOf_4 : dc cX2_paceOf 4 (.iload_n 1) 1 5 := ⟨by decide +kernel, rfl⟩
theorem dX2_paceOf_5 : dc cX2_paceOf 5 (.aaload) 1 6 := ⟨by decide +kernel, rfl⟩
theorem dX2_paceOf_6 : dc cX2_paceOf 6 (.astore_n 3) 1 7 := ⟨by decide +kernel, rfl⟩
theorem dX2_paceOf_7 : dc cX2_paceOf 7 (.aload_n 3) 1 8 := ⟨by decide +kernel, rfl⟩
theorem dX2_paceOf_8 : dc cX2_paceOf 8 (.getfield 127) 3 11 := ⟨by decide +kernel, rfl⟩
theorem dX2_paceOf_11 : dc cX2_paceOf 11 (.ifCond .eq 23) 3 14 := ⟨by decide +kernel, rfl⟩
theorem dX2_paceOf_14 : dc cX2_paceOf 14 (.aload_n 3) 1 15 := ⟨by decide +kernel, rfl⟩
theorem dX2_paceOf_15 : dc cX2_paceOf 15 (.getfield 130) 3 18 := ⟨by decide +kernel, rfl⟩
theorem dX2_paceOf_18 : dc cX2_paceOf 18 (.ifCond .ne 10) 3 21 := ⟨by decide +kernel, rfl⟩
theorem dX2_paceOf_21 : dc cX2_paceOf 21 (.aload_n 0) 1 22 := ⟨by decide +kernel, rfl⟩
theorem dX2_paceOf_22 : dc cX2_paceOf 22 (.getfield 76) 3 25 := ⟨by decide +kernel, rfl⟩
theorem dX2_paceOf_25 : dc cX2_paceOf 25 (.ifCond .eq 7) 3 28 := ⟨by decide +kernel, rfl⟩
theorem dX2_paceOf_28 : dc cX2_paceOf 28 (.iconst 0) 1 29 := ⟨by decide +kernel, rfl⟩
theorem dX2_paceOf_29 : dc cX2_paceOf 29 (.goto 4) 3 32 := ⟨by decide +kernel, rfl⟩
theorem dX2_paceOf_32 : dc cX2_paceOf 32 (.iconst 1) 1 33 := ⟨by decide +kernel, rfl⟩
theorem dX2_paceOf_33 : dc cX2_paceOf 33 (.ireturn) 1 34 := ⟨by decide +kernel, rfl⟩
theorem dX2_paceOf_34 : dc cX2_paceOf 34 (.aload_n 0) 1 35 := ⟨by decide +kernel, rfl⟩
theorem dX2_paceOf_35 : dc cX2_paceOf 35 (.getfield 25) 3 38 := ⟨by decide +kernel, rfl⟩
theorem dX2_paceOf_38 : dc cX2_paceOf 38 (.iload_n 2) 1 39 := ⟨by decide +kernel, rfl⟩
theorem dX2_paceOf_39 : dc cX2_paceOf 39 (.baload) 1 40 := ⟨by decide +kernel, rfl⟩
theorem dX2_paceOf_40 : dc cX2_paceOf 40 (.ifCond .ne 16) 3 43 := ⟨by decide +kernel, rfl⟩
theorem dX2_paceOf_43 : dc cX2_paceOf 43 (.aload_n 3) 1 44 := ⟨by decide +kernel, rfl⟩
theorem dX2_paceOf_44 : dc cX2_paceOf 44 (.getfield 133) 3 47 := ⟨by decide +kernel, rfl⟩
theorem dX2_paceOf_47 : dc cX2_paceOf 47 (.iload_n 2) 1 48 := ⟨by decide +kernel, rfl⟩
theorem dX2_paceOf_48 : dc cX2_paceOf 48 (.iaload) 1 49 := ⟨by decide +kernel, rfl⟩
theorem dX2_paceOf_49 : dc cX2_paceOf 49 (.aload_n 0) 1 50 := ⟨by decide +kernel, rfl⟩
theorem dX2_paceOf_50 : dc cX2_paceOf 50 (.getfield 56) 3 53 := ⟨by decide +kernel, rfl⟩
theorem dX2_paceOf_53 : dc cX2_paceOf 53 (.if_icmp .lt 7) 3 56 := ⟨by decide +kernel, rfl⟩
theorem dX2_paceOf_56 : dc cX2_paceOf 56 (.iconst 0) 1 57 := ⟨by decide +kernel, rfl⟩
theorem dX2_paceOf_57 : dc cX2_paceOf 57 (.goto 4) 3 60 := ⟨by decide +kernel, rfl⟩
theorem dX2_paceOf_60 : dc cX2_paceOf 60 (.iconst 2) 1 61 := ⟨by decide +kernel, rfl⟩
theorem dX2_paceOf_61 : dc cX2_paceOf 61 (.ireturn) 1 62 := ⟨by decide +kernel, rfl⟩
theorem nm_X2_paceOf : (yX2_paceOf).cls ≠ "java/lang/invoke/MethodHandle" ∧ (yX2_paceOf).cls ≠ "java/lang/invoke/VarHandle" ∧ (parseMethodDescriptor (yX2_paceOf).desc).map (fun d => d.parameters.length) = some 2 := ⟨by decide +kernel, by decide +kernel, by decide +kernel⟩
set_option maxRecDepth 100000 in
set_option maxHeartbeats 4000000 in
theorem c_X2_paceOf {l : Launch} {ad : Nat → Nat} {cy : Nat → ClassId} {D : va_G} {z : Nat} (n : Nat) {a0 : Nat} {p1 : Int32} {p2 : Int32} {M : KM} {y : Int32} (h0 : kty a0 = 3) (hf : f_X2_paceOf n a0 p1 p2 M = some y) : KC l ad cy D z yX2_paceOf cX2_paceOf 4 (some .int) 1 [.ref (ad a0), .int p1, .int p2] M (some (.int y), M) := by
  refine kv_enter (by decide +kernel) (Nat.le_of_ble_eq_true rfl) ?_
  intro x hl hD hz G
  subst hl hD hz
  unfold f_X2_paceOf at hf
  have G : KG ad cy x cX2_paceOf "NoonGuides$Land" 4 (some (some .int)) 1 := G
  show KV ad cy x (some (.int y), M) 0 [(0, .ref (ad a0)), (1, .int p1), (2, .int p2)] [] M
  refine v_aload_n G dX2_paceOf_0 0 rfl ?_
  refine gf_2_5 G h0 t_371 (Or.inl rfl) dX2_paceOf_1 ?_
  refine v_iload_n G dX2_paceOf_4 1 rfl ?_
  obtain ⟨g1, hf⟩ := gd_e hf
  refine al_Person G (kf_2_6 h0) g1 dX2_paceOf_5 ?_
  refine v_nma (fun v2 ev2 => ?_)
  have hv2 : kty v2 = 8 := by rw [ev2]; exact (ke_Person (kf_2_6 h0) (ix_lt g1))
  replace hf := lt_e hf ev2
  refine v_astore_n [(3, .ref (ad v2)), (0, .ref (ad a0)), (1, .int p1), (2, .int p2)] G dX2_paceOf_6 (by decide) rfl ?_
  refine v_aload_n G dX2_paceOf_7 0 rfl ?_
  refine gf_7_3 G hv2 t_315 (Or.inl rfl) dX2_paceOf_8 ?_
  refine v_if_eq 34 G dX2_paceOf_11 (by decide) (fun h9 => ?_) (fun h9 => ?_)
  · replace hf := (if_pos h9).symm.trans hf
    refine v_aload_n G dX2_paceOf_34 1 rfl ?_
    refine gf_2_4 G h0 t_369 (Or.inl rfl) dX2_paceOf_35 ?_
    refine v_iload_n G dX2_paceOf_38 3 rfl ?_
    obtain ⟨g3, hf⟩ := gd_e hf
    refine al_31 G (kf_2_5 h0) g3 dX2_paceOf_39 ?_
    obtain ⟨j56, ej56, hf⟩ := lt_j hf
    have hj56 : j56 = some y → KV ad cy x (some (.int y), M) 56 [] [] M := by
      intro hf
      rw [ej56] at hf
      refine v_iconst (0 : Int32) G dX2_paceOf_56 (by decide) ?_
      refine v_goto 61 G dX2_paceOf_57 (by decide) ?_
      obtain rfl := Option.some.inj hf
      exact v_iret G dX2_paceOf_61
    refine v_if_ne 56 G dX2_paceOf_40 (by decide) (fun h6 => ?_) (fun h6 => ?_)
    · replace hf := (if_neg h6).symm.trans hf
      refine v_sub _ [] rfl ?_
      exact hj56 hf
    · replace hf := (if_pos h6).symm.trans hf
      refine v_aload_n G dX2_paceOf_43 0 rfl ?_
      refine gf_7_0 G hv2 t_306 (Or.inl rfl) dX2_paceOf_44 ?_
      refine v_iload_n G dX2_paceOf_47 3 rfl ?_
      obtain ⟨g4, hf⟩ := gd_e hf
      refine al_30 G (kf_7_1 hv2) g4 dX2_paceOf_48 ?_
      refine v_aload_n G dX2_paceOf_49 1 rfl ?_
      refine gf_2_13 G h0 t_400 (Or.inl rfl) dX2_paceOf_50 ?_
      refine v_icmp_lt 60 G dX2_paceOf_53 (by decide) (fun h5 => ?_) (fun h5 => ?_)
      · replace hf := (if_pos h5).symm.trans hf
        refine v_iconst (2 : Int32) G dX2_paceOf_60 (by decide) ?_
        obtain rfl := Option.some.inj hf
        exact v_iret G dX2_paceOf_61
      · replace hf := (if_neg h5).symm.trans hf
        refine v_sub _ [] rfl ?_
        exact hj56 hf
  · replace hf := (if_neg h9).symm.trans hf
    refine v_aload_n G dX2_paceOf_14 0 rfl ?_
    refine gf_7_4 G hv2 t_318 (Or.inl rfl) dX2_paceOf_15 ?_
    obtain ⟨j28, ej28, hf⟩ := lt_j hf
    have hj28 : j28 = some y → KV ad cy x (some (.int y), M) 28 [] [] M := by
      intro hf
      rw [ej28] at hf
      refine v_iconst (0 : Int32) G dX2_paceOf_28 (by decide) ?_
      refine v_goto 33 G dX2_paceOf_29 (by decide) ?_
      obtain rfl := Option.some.inj hf
      exact v_iret G dX2_paceOf_33
    refine v_if_ne 28 G dX2_paceOf_18 (by decide) (fun h8 => ?_) (fun h8 => ?_)
    · replace hf := (if_neg h8).symm.trans hf
      refine v_sub _ [] rfl ?_
      exact hj28 hf
    · replace hf := (if_pos h8).symm.trans hf
      refine v_aload_n G dX2_paceOf_21 1 rfl ?_
      refine gf_2_15 G h0 t_406 (Or.inl rfl) dX2_paceOf_22 ?_
      refine v_if_eq 32 G dX2_paceOf_25 (by decide) (fun h7 => ?_) (fun h7 => ?_)
      · replace hf := (if_pos h7).symm.trans hf
        refine v_iconst (1 : Int32) G dX2_paceOf_32 (by decide) ?_
        obtain rfl := Option.some.inj hf
        exact v_iret G dX2_paceOf_33
      · replace hf := (if_neg h7).symm.trans hf
        refine v_sub _ [] rfl ?_
        exact hj28 hf
abbrev cX2_isAble : ByteArray := prog_4_method_18_code
def yX2_isAble : MethodName := ⟨RX2, "isAble", "(II)Z"⟩
theorem dX2_isAble_0 : dc cX2_isAble 0 (.aload_n 0) 1 1 := ⟨by decide +kernel, rfl⟩
theorem dX2_isAble_1 : dc cX2_isAble 1 (.iload_n 1) 1 2 := ⟨by decide +kernel, rfl⟩
theorem dX2_isAble_2 : dc cX2_isAble 2 (.iload_n 2) 1 3 := ⟨by decide +kernel, rfl⟩
theorem dX2_isAble_3 : dc cX2_isAble 3 (.invokevirtual 136) 3 6 := ⟨by decide +kernel, rfl⟩
theorem dX2_isAble_6 : dc cX2_isAble 6 (.istore_n 3) 1 7 := ⟨by decide +kernel, rfl⟩
theorem dX2_isAble_7 : dc cX2_isAble 7 (.iload_n 3) 1 8 := ⟨by decide +kernel, rfl⟩
theorem dX2_isAble_8 : dc cX2_isAble 8 (.ifCond .eq 22) 3 11 := ⟨by decide +kernel, rfl⟩
theorem dX2_isAble_11 : dc cX2_isAble 11 (.iload_n 3) 1 12 := ⟨by decide +kernel, rfl⟩
theorem dX2_isAble_12 : dc cX2_isAble 12 (.iconst 1) 1 13 := ⟨by decide +kernel, rfl⟩
theorem dX2_isAble_13 : dc cX2_isAble 13 (.if_icmp .ne 21) 3 16 := ⟨by decide +kernel, rfl⟩
theorem dX2_isAble_16 : dc cX2_isAble 16 (.aload_n 0) 1 17 := ⟨by decide +kernel, rfl⟩
theorem dX2_isAble_17 : dc cX2_isAble 17 (.getfield 38) 3 20 := ⟨by decide +kernel, rfl⟩
theorem dX2_isAble_20 : dc cX2_isAble 20 (.aload_n 0) 1 21 := ⟨by decide +kernel, rfl⟩
theorem dX2_isAble_21 : dc cX2_isAble 21 (.getfield 49) 3 24 := ⟨by decide +kernel, rfl⟩
theorem dX2_isAble_24 : dc cX2_isAble 24 (.invokevirtual 124) 3 27 := ⟨by decide +kernel, rfl⟩
theorem dX2_isAble_27 : dc cX2_isAble 27 (.ifCond .ne 7) 3 30 := ⟨by decide +kernel, rfl⟩
theorem dX2_isAble_30 : dc cX2_isAble 30 (.iconst 1) 1 31 := ⟨by decide +kernel, rfl⟩
theorem dX2_isAble_31 : dc cX2_isAble 31 (.goto 4) 3 34 := ⟨by decide +kernel, rfl⟩
theorem dX2_isAble_34 : dc cX2_isAble 34 (.iconst 0) 1 35 := ⟨by decide +kernel, rfl⟩
theorem dX2_isAble_35 : dc cX2_isAble 35 (.ireturn) 1 36 := ⟨by decide +kernel, rfl⟩
theorem nm_X2_isAble : (yX2_isAble).cls ≠ "java/lang/invoke/MethodHandle" ∧ (yX2_isAble).cls ≠ "java/lang/invoke/VarHandle" ∧ (parseMethodDescriptor (yX2_isAble).desc).map (fun d => d.parameters.length) = some 2 := ⟨by decide +kernel, by decide +kernel, by decide +kernel⟩
set_option maxRecDepth 100000 in
theorem z_X2_isAble (n : Nat) {a0 : Nat} {p1 : Int32} {p2 : Int32} {M : KM} {y : Int32} (hf : f_X2_isAble n a0 p1 p2 M = some y) : (y = 0 ∨ y = 1) := by
  unfold f_X2_isAble at hf
  obtain ⟨v1, hcv1, hf⟩ := bd_e hf
  obtain ⟨j30, ej30, hf⟩ := lt_j hf
  have hj30 : j30 = some y → (y = 0 ∨ y = 1) := by
    intro hf
    rw [ej30] at hf
    obtain rfl := Option.some.inj hf
    exact (Or.inr rfl)
  by_cases h5 : v1 = 0
  · replace hf := (if_pos h5).symm.trans hf
    exact hj30 hf
  · replace hf := (if_neg h5).symm.trans hf
    by_cases h4 : v1 = (1 : Int32)
    · replace hf := (if_pos h4).symm.trans hf
      obtain ⟨v2, hcv2, hf⟩ := bd_e hf
      by_cases h3 : v2 = 0
      · replace hf := (if_pos h3).symm.trans hf
        exact hj30 hf
      · replace hf := (if_neg h3).symm.trans hf
        obtain rfl := Option.some.inj hf
        exact (Or.inl rfl)
    · replace hf := (if_neg h4).symm.trans hf
      obtain rfl := Option.some.inj hf
      exact (Or.inl rfl)
set_option maxRecDepth 100000 in
set_option maxHeartbeats 4000000 in
theorem c_X2_isAble {l : Launch} {ad : Nat → Nat} {cy : Nat → ClassId} {D : va_G} {z : Nat} (n : Nat) {a0 : Nat} {p1 : Int32} {p2 : Int32} {M : KM} {y : Int32} (h0 : kty a0 = 3) (hf : f_X2_isAble n a0 p1 p2 M = some y) : KC l ad cy D z yX2_isAble cX2_isAble 4 (some .boolean) 2 [.ref (ad a0), .int p1, .int p2] M (some (.int y), M) := by
  refine kv_enter (by decide +kernel) (Nat.le_of_ble_eq_true rfl) ?_
  intro x hl hD hz G
  subst hl hD hz
  unfold f_X2_isAble at hf
  have G : KG ad cy x cX2_isAble "NoonGuides$Land" 4 (some (some .boolean)) 2 := G
  show KV ad cy x (some (.int y), M) 0 [(0, .ref (ad a0)), (1, .int p1), (2, .int p2)] [] M
  refine v_aload_n G dX2_isAble_0 0 rfl ?_
  refine v_iload_n G dX2_isAble_1 1 rfl ?_
  refine v_iload_n G dX2_isAble_2 2 rfl ?_
  obtain ⟨v1, hcv1, hf⟩ := bd_e hf
  refine v_callV [.int p1, .int p2] G (c_X2_paceOf n h0 hcv1) h0 (by decide) rfl rfl rfl t_635 t_636 t_637 t_13 t_638 nm_X2_paceOf (by decide) (by decide) rfl rfl (Nat.le_of_ble_eq_true rfl) dX2_isAble_3 (kv_ri ?_)
  refine v_istore_n [(3, .int v1), (0, .ref (ad a0)), (1, .int p1), (2, .int p2)] G dX2_isAble_6 (by decide) rfl ?_
  refine v_iload_n G dX2_isAble_7 0 rfl ?_
  obtain ⟨j30, ej30, hf⟩ := lt_j hf
  have hj30 : j30 = some y → KV ad cy x (some (.int y), M) 30 [] [] M := by
    intro hf
    rw [ej30] at hf
    refine v_iconst (1 : Int32) G dX2_isAble_30 (by decide) ?_
    refine v_goto 35 G dX2_isAble_31 (by decide) ?_
    obtain rfl := Option.some.inj hf
    exact v_zret G (Or.inr rfl) dX2_isAble_35
  refine v_if_eq 30 G dX2_isAble_8 (by decide) (fun h5 => ?_) (fun h5 => ?_)
  · replace hf := (if_pos h5).symm.trans hf
    refine v_sub _ [] rfl ?_
    exact hj30 hf
  · replace hf := (if_neg h5).symm.trans hf
    refine v_iload_n G dX2_isAble_11 0 rfl ?_
    refine v_iconst (1 : Int32) G dX2_isAble_12 (by decide) ?_
    refine v_icmp_ne 34 G dX2_isAble_13 (by decide) (fun h4 => ?_) (fun h4 => ?_)
    · replace hf := (if_neg h4).symm.trans hf
      refine v_iconst (0 : Int32) G dX2_isAble_34 (by decide) ?_
      obtain rfl := Option.some.inj hf
      exact v_zret G (Or.inl rfl) dX2_isAble_35
    · replace hf := (if_pos h4).symm.trans hf
      refine v_aload_n G dX2_isAble_16 1 rfl ?_
      refine gf_2_6 G h0 t_376 (Or.inl rfl) dX2_isAble_17 ?_
      refine v_aload_n G dX2_isAble_20 1 rfl ?_
      refine gf_2_11 G h0 t_393 (Or.inl rfl) dX2_isAble_21 ?_
      obtain ⟨v2, hcv2, hf⟩ := bd_e hf
      refine v_callV [.int (M.1 a0 11)] G (c_X1_areGlaring n (kf_2_7 h0) hcv2) (kf_2_7 h0) (by decide) rfl rfl rfl t_529 t_530 t_531 t_12 t_532 nm_X1_areGlaring (by decide) (by decide) rfl rfl (Nat.le_of_ble_eq_true rfl) dX2_isAble_24 (kv_ri ?_)
      refine v_if_ne 34 G dX2_isAble_27 (by decide) (fun h3 => ?_) (fun h3 => ?_)
      · replace hf := (if_neg h3).symm.trans hf
        refine v_iconst (0 : Int32) G dX2_isAble_34 (by decide) ?_
        obtain rfl := Option.some.inj hf
        exact v_zret G (Or.inl rfl) dX2_isAble_35
      · replace hf := (if_pos h3).symm.trans hf
        refine v_sub _ [] rfl ?_
        exact hj30 hf
abbrev cX2_arrivalBy : ByteArray := prog_4_method_19_code
def yX2_arrivalBy : MethodName := ⟨RX2, "arrivalBy", "(III)I"⟩
theorem dX2_arrivalBy_0 : dc cX2_arrivalBy 0 (.aload_n 0) 1 1 := ⟨by decide +kernel, rfl⟩
theorem dX2_arrivalBy_1 : dc cX2_arrivalBy 1 (.getfield 38) 3 4 := ⟨by decide +kernel, rfl⟩
theorem dX2_arrivalBy_4 : dc cX2_arrivalBy 4 (.aload_n 0) 1 5 := ⟨by decide +kernel, rfl⟩
theorem dX2_arrivalBy_5 : dc cX2_arrivalBy 5 (.iload_n 1) 1 6 := ⟨by decide +kernel, rfl⟩
theorem dX2_arrivalBy_6 : dc cX2_arrivalBy 6 (.iload_n 2) 1 7 := ⟨by decide +kernel, rfl⟩
theorem dX2_arrivalBy_7 : dc cX2_arrivalBy 7 (.invokevirtual 136) 3 10 := ⟨by decide +kernel, rfl⟩
theorem dX2_arrivalBy_10 : dc cX2_arrivalBy 10 (.iload_n 3) 1 11 := ⟨by decide +kernel, rfl⟩
theorem dX2_arrivalBy_11 : dc cX2_arrivalBy 11 (.aload_n 0) 1 12 := ⟨by decide +kernel, rfl⟩
theorem dX2_arrivalBy_12 : dc cX2_arrivalBy 12 (.getfield 22) 3 15 := ⟨by decide +kernel, rfl⟩
theorem dX2_arrivalBy_15 : dc cX2_arrivalBy 15 (.iload_n 2) 1 16 := ⟨by decide +kernel, rfl⟩
theorem dX2_arrivalBy_16 : dc cX2_arrivalBy 16 (.iaload) 1 17 := ⟨by decide +kernel, rfl⟩
theorem dX2_arrivalBy_17 : dc cX2_arrivalBy 17 (.invokevirtual 139) 3 20 := ⟨by decide +kernel, rfl⟩
theorem dX2_arrivalBy_20 : dc cX2_arrivalBy 20 (.ireturn) 1 21 := ⟨by decide +kernel, rfl⟩
theorem nm_X2_arrivalBy : (yX2_arrivalBy).cls ≠ "java/lang/invoke/MethodHandle" ∧ (yX2_arrivalBy).cls ≠ "java/lang/invoke/VarHandle" ∧ (parseMethodDescriptor (yX2_arrivalBy).desc).map (fun d => d.parameters.length) = some 3 := ⟨by decide +kernel, by decide +kernel, by decide +kernel⟩
set_option maxRecDepth 100000 in
set_option maxHeartbeats 4000000 in
theorem c_X2_arrivalBy {l : Launch} {ad : Nat → Nat} {cy : Nat → ClassId} {D : va_G} {z : Nat} (n : Nat) {a0 : Nat} {p1 : Int32} {p2 : Int32} {p3 : Int32} {M : KM} {y : Int32} (h0 : kty a0 = 3) (hf : f_X2_arrivalBy n a0 p1 p2 p3 M = some y) : KC l ad cy D z yX2_arrivalBy cX2_arrivalBy 4 (some .int) 3 [.ref (ad a0), .int p1, .int p2, .int p3] M (some (.int y), M) := by
  refine kv_enter (by decide +kernel) (Nat.le_of_ble_eq_true rfl) ?_
  intro x hl hD hz G
  subst hl hD hz
  unfold f_X2_arrivalBy at hf
  have G : KG ad cy x cX2_arrivalBy "NoonGuides$Land" 4 (some (some .int)) 3 := G
  show KV ad cy x (some (.int y), M) 0 [(0, .ref (ad a0)), (1, .int p1), (2, .int p2), (3, .int p3)] [] M
  refine v_aload_n G dX2_arrivalBy_0 0 rfl ?_
  refine gf_2_6 G h0 t_376 (Or.inl rfl) dX2_arrivalBy_1 ?_
  refine v_aload_n G dX2_arrivalBy_4 0 rfl ?_
  refine v_iload_n G dX2_arrivalBy_5 1 rfl ?_
  refine v_iload_n G dX2_arrivalBy_6 2 rfl ?_
  obtain ⟨v1, hcv1, hf⟩ := bd_e hf
  refine v_callV [.int p1, .int p2] G (c_X2_paceOf n h0 hcv1) h0 (by decide) rfl rfl rfl t_635 t_636 t_637 t_13 t_638 nm_X2_paceOf (by decide) (by decide) rfl rfl (Nat.le_of_ble_eq_true rfl) dX2_arrivalBy_7 (kv_ri ?_)
  refine v_iload_n G dX2_arrivalBy_10 3 rfl ?_
  refine v_aload_n G dX2_arrivalBy_11 0 rfl ?_
  refine gf_2_3 G h0 t_368 (Or.inl rfl) dX2_arrivalBy_12 ?_
  refine v_iload_n G dX2_arrivalBy_15 2 rfl ?_
  obtain ⟨g2, hf⟩ := gd_e hf
  refine al_30 G (kf_2_4 h0) g2 dX2_arrivalBy_16 ?_
  obtain ⟨v3, hcv3, hf⟩ := bd_e hf
  refine v_callV [.int v1, .int p3, .int (M.1 (a0 + 4) (p2).toNatClampNeg)] G (c_X1_doneAt n (kf_2_7 h0) hcv3) (kf_2_7 h0) (by decide) rfl rfl rfl t_639 t_640 t_641 t_12 t_642 nm_X1_doneAt (by decide) (by decide) rfl rfl (Nat.le_of_ble_eq_true rfl) dX2_arrivalBy_17 (kv_ri ?_)
  obtain rfl := Option.some.inj hf
  exact v_iret G dX2_arrivalBy_20
abbrev cX2_isTeam : ByteArray := prog_4_method_20_code
def yX2_isTeam : MethodName := ⟨RX2, "isTeam", "(II)Z"⟩
theorem dX2_isTeam_0 : dc cX2_isTeam 0 (.iload_n 2) 1 1 := ⟨by decide +kernel, rfl⟩
theorem dX2_isTeam_1 : dc cX2_isTeam 1 (.ifCond .le 36) 3 4 := ⟨by decide +kernel, rfl⟩
theorem dX2_isTeam_4 : dc cX2_isTeam 4 (.iload_n 2) 1 5 := ⟨by decide +kernel, rfl⟩
theorem dX2_isTeam_5 : dc cX2_isTeam 5 (.iconst 1) 1 6 := ⟨by decide +kernel, rfl⟩
theorem dX2_isTeam_6 : dc cX2_isTeam 6 (.aload_n 0) 1 7 := ⟨by decide +kernel, rfl⟩
theorem dX2_isTeam_7 : dc cX2_isTeam 7 (.getfield 69) 3 10 := ⟨by decide +kernel, rfl⟩
theorem dX2_isTeam_10 : dc cX2_isTeam 10 (.ishl) 1 11 := ⟨by decide +kernel, rfl⟩
theorem dX2_isTeam_11 : dc cX2_isTeam 11 (.if_icmp .ge 26) 3 14 := ⟨by decide +kernel, rfl⟩
theorem dX2_isTeam_14 : dc cX2_isTeam 14 (.iload_n 2) 1 15 := ⟨by decide +kernel, rfl⟩
theorem dX2_isTeam_15 : dc cX2_isTeam 15 (.iconst 1) 1 16 := ⟨by decide +kernel, rfl⟩
theorem dX2_isTeam_16 : dc cX2_isTeam 16 (.iload_n 1) 1 17 := ⟨by decide +kernel, rfl⟩
theorem dX2_isTeam_17 : dc cX2_isTeam 17 (.ishl) 1 18 := ⟨by decide +kernel, rfl⟩
theorem dX2_isTeam_18 : dc cX2_isTeam 18 (.iand) 1 19 := ⟨by decide +kernel, rfl⟩
theorem dX2_isTeam_19 : dc cX2_isTeam 19 (.ifCond .ne 18) 3 22 := ⟨by decide +kernel, rfl⟩
theorem dX2_isTeam_22 : dc cX2_isTeam 22 (.iload_n 2) 1 23 := ⟨by decide +kernel, rfl⟩
theorem dX2_isTeam_23 : dc cX2_isTeam 23 (.invokestatic 143) 3 26 := ⟨by decide +kernel, rfl⟩
theorem dX2_isTeam_26 : dc cX2_isTeam 26 (.aload_n 0) 1 27 := ⟨by decide +kernel, rfl⟩
theorem dX2_isTeam_27 : dc cX2_isTeam 27 (.getfield 53) 3 30 := ⟨by decide +kernel, rfl⟩
theorem dX2_isTeam_30 : dc cX2_isTeam 30 (.if_icmp .gt 7) 3 33 := ⟨by decide +kernel, rfl⟩
theorem dX2_isTeam_33 : dc cX2_isTeam 33 (.iconst 1) 1 34 := ⟨by decide +kernel, rfl⟩
theorem dX2_isTeam_34 : dc cX2_isTeam 34 (.goto 4) 3 37 := ⟨by decide +kernel, rfl⟩
theorem dX2_isTeam_37 : dc cX2_isTeam 37 (.iconst 0) 1 38 := ⟨by decide +kernel, rfl⟩
theorem dX2_isTeam_38 : dc cX2_isTeam 38 (.ireturn) 1 39 := ⟨by decide +kernel, rfl⟩
theorem nm_X2_isTeam : (yX2_isTeam).cls ≠ "java/lang/invoke/MethodHandle" ∧ (yX2_isTeam).cls ≠ "java/lang/invoke/VarHandle" ∧ (parseMethodDescriptor (yX2_isTeam).desc).map (fun d => d.parameters.length) = some 2 := ⟨by decide +kernel, by decide +kernel, by decide +kernel⟩
set_option maxRecDepth 100000 in
theorem z_X2_isTeam {a0 : Nat} {p1 : Int32} {p2 : Int32} {M : KM} {y : Int32} (hf : f_X2_isTeam a0 p1 p2 M = y) : (y = 0 ∨ y = 1) := by
  unfold f_X2_isTeam at hf
  by_cases h5 : p2 ≤ 0
  · replace hf := (if_pos h5).symm.trans hf
    obtain rfl := hf
    exact (Or.inl rfl)
  · replace hf := (if_neg h5).symm.trans hf
    by_cases h4 : ((1 : Int32) <<< ((M.1 a0 10) &&& 31)) ≤ p2
    · replace hf := (if_pos h4).symm.trans hf
      obtain rfl := hf
      exact (Or.inl rfl)
    · replace hf := (if_neg h4).symm.trans hf
      by_cases h3 : (p2 &&& ((1 : Int32) <<< (p1 &&& 31))) = 0
      · replace hf := (if_pos h3).symm.trans hf
        obtain ⟨v1, hcv1⟩ : ∃ q, f_J6_bitCount_0f7a4 p2 M = q := ⟨_, rfl⟩
        replace hf := lt_e hf hcv1.symm
        by_cases h2 : (M.1 a0 12) < v1
        · replace hf := (if_pos h2).symm.trans hf
          obtain rfl := hf
          exact (Or.inl rfl)
        · replace hf := (if_neg h2).symm.trans hf
          obtain rfl := hf
          exact (Or.inr rfl)
      · replace hf := (if_neg h3).symm.trans hf
        obtain rfl := hf
        exact (Or.inl rfl)
set_option maxRecDepth 100000 in
set_option maxHeartbeats 4000000 in
theorem c_X2_isTeam {l : Launch} {ad : Nat → Nat} {cy : Nat → ClassId} {D : va_G} {z : Nat} {a0 : Nat} {p1 : Int32} {p2 : Int32} {M : KM} {y : Int32} (h0 : kty a0 = 3) (hf : f_X2_isTeam a0 p1 p2 M = y) : KC l ad cy D z yX2_isTeam cX2_isTeam 3 (some .boolean) 2 [.ref (ad a0), .int p1, .int p2] M (some (.int y), M) := by
  refine kv_enter (by decide +kernel) (Nat.le_of_ble_eq_true rfl) ?_
  intro x hl hD hz G
  subst hl hD hz
  unfold f_X2_isTeam at hf
  have G : KG ad cy x cX2_isTeam "NoonGuides$Land" 3 (some (some .boolean)) 2 := G
  show KV ad cy x (some (.int y), M) 0 [(0, .ref (ad a0)), (1, .int p1), (2, .int p2)] [] M
  refine v_iload_n G dX2_isTeam_0 2 rfl ?_
  refine v_if_le 37 G dX2_isTeam_1 (by decide) (fun h5 => ?_) (fun h5 => ?_)
  · replace hf := (if_pos h5).symm.trans hf
    refine v_iconst (0 : Int32) G dX2_isTeam_37 (by decide) ?_
    obtain rfl := hf
    exact v_zret G (Or.inl rfl) dX2_isTeam_38
  · replace hf := (if_neg h5).symm.trans hf
    refine v_iload_n G dX2_isTeam_4 2 rfl ?_
    refine v_iconst (1 : Int32) G dX2_isTeam_5 (by decide) ?_
    refine v_aload_n G dX2_isTeam_6 0 rfl ?_
    refine gf_2_10 G h0 t_389 (Or.inl rfl) dX2_isTeam_7 ?_
    refine v_ishl G dX2_isTeam_10 ?_
    refine v_icmp_ge 37 G dX2_isTeam_11 (by decide) (fun h4 => ?_) (fun h4 => ?_)
    · replace hf := (if_pos h4).symm.trans hf
      refine v_iconst (0 : Int32) G dX2_isTeam_37 (by decide) ?_
      obtain rfl := hf
      exact v_zret G (Or.inl rfl) dX2_isTeam_38
    · replace hf := (if_neg h4).symm.trans hf
      refine v_iload_n G dX2_isTeam_14 2 rfl ?_
      refine v_iconst (1 : Int32) G dX2_isTeam_15 (by decide) ?_
      refine v_iload_n G dX2_isTeam_16 1 rfl ?_
      refine v_ishl G dX2_isTeam_17 ?_
      refine v_iand G dX2_isTeam_18 ?_
      refine v_if_ne 37 G dX2_isTeam_19 (by decide) (fun h3 => ?_) (fun h3 => ?_)
      · replace hf := (if_neg h3).symm.trans hf
        refine v_iconst (0 : Int32) G dX2_isTeam_37 (by decide) ?_
        obtain rfl := hf
        exact v_zret G (Or.inl rfl) dX2_isTeam_38
      · replace hf := (if_pos h3).symm.trans hf
        refine v_iload_n G dX2_isTeam_22 2 rfl ?_
        obtain ⟨v1, hcv1⟩ : ∃ q, f_J6_bitCount_0f7a4 p2 M = q := ⟨_, rfl⟩
        replace hf := lt_e hf hcv1.symm
        refine v_callS [.int p2] G (c_J6_bitCount_0f7a4 hcv1) t_710 t_711 t_19 t_712 nm_J6_bitCount_0f7a4 (by decide) (by decide) rfl rfl (Nat.le_of_ble_eq_true rfl) dX2_isTeam_23 (kv_ri ?_)
        refine v_aload_n G dX2_isTeam_26 0 rfl ?_
        refine gf_2_12 G h0 t_397 (Or.inl rfl) dX2_isTeam_27 ?_
        refine v_icmp_gt 37 G dX2_isTeam_30 (by decide) (fun h2 => ?_) (fun h2 => ?_)
        · replace hf := (if_pos h2).symm.trans hf
          refine v_iconst (0 : Int32) G dX2_isTeam_37 (by decide) ?_
          obtain rfl := hf
          exact v_zret G (Or.inl rfl) dX2_isTeam_38
        · replace hf := (if_neg h2).symm.trans hf
          refine v_iconst (1 : Int32) G dX2_isTeam_33 (by decide) ?_
          refine v_goto 38 G dX2_isTeam_34 (by decide) ?_
          obtain rfl := hf
          exact v_zret G (Or.inr rfl) dX2_isTeam_38
abbrev cX2_areAllAt : ByteArray := prog_4_method_22_code
def yX2_areAllAt : MethodName := ⟨RX2, "areAllAt", "(II)Z"⟩
theorem dX2_areAllAt_0 : dc cX2_areAllAt 0 (.iconst 0) 1 1 := ⟨by decide +kernel, rfl⟩
theorem dX2_areAllAt_1 : dc cX2_areAllAt 1 (.istore_n 3) 1 2 := ⟨by decide +kernel, rfl⟩
theorem dX2_areAllAt_2 : dc cX2_areAllAt 2 (.iload_n 3) 1 3 := ⟨by decide +kernel, rfl⟩
theorem dX2_areAllAt_3 : dc cX2_areAllAt 3 (.aload_n 0) 1 4 := ⟨by decide +kernel, rfl⟩
theorem dX2_areAllAt_4 : dc cX2_areAllAt 4 (.getfield 69) 3 7 := ⟨by decide +kernel, rfl⟩
theorem dX2_areAllAt_7 : dc cX2_areAllAt 7 (.if_icmp .ge 32) 3 10 := ⟨by decide +kernel, rfl⟩
theorem dX2_areAllAt_10 : dc cX2_areAllAt 10 (.iload_n 1) 1 11 := ⟨by decide +kernel, rfl⟩
theorem dX2_areAllAt_11 : dc cX2_areAllAt 11 (.iconst 1) 1 12 := ⟨by decide +kernel, rfl⟩
theorem dX2_areAllAt_12 : dc cX2_areAllAt 12 (.iload_n 3) 1 13 := ⟨by decide +kernel, rfl⟩
theorem dX2_areAllAt_13 : dc cX2_areAllAt 13 (.ishl) 1 14 := ⟨by decide +kernel, rfl⟩
theorem dX2_areAllAt_14 : dc cX2_areAllAt 14 (.iand) 1 15 := ⟨by decide +kernel, rfl⟩
theorem dX2_areAllAt_15 : dc cX2_areAllAt 15 (.ifCond .eq 18) 3 18 := ⟨by decide +kernel, rfl⟩
theorem dX2_areAllAt_18 : dc cX2_areAllAt 18 (.aload_n 0) 1 19 := ⟨by decide +kernel, rfl⟩
theorem dX2_areAllAt_19 : dc cX2_areAllAt 19 (.getfield 31) 3 22 := ⟨by decide +kernel, rfl⟩
theorem dX2_areAllAt_22 : dc cX2_areAllAt 22 (.iload_n 3) 1 23 := ⟨by decide +kernel, rfl⟩
theorem dX2_areAllAt_23 : dc cX2_areAllAt 23 (.aaload) 1 24 := ⟨by decide +kernel, rfl⟩
theorem dX2_areAllAt_24 : dc cX2_areAllAt 24 (.getfield 118) 3 27 := ⟨by decide +kernel, rfl⟩
theorem dX2_areAllAt_27 : dc cX2_areAllAt 27 (.iload_n 2) 1 28 := ⟨by decide +kernel, rfl⟩
theorem dX2_areAllAt_28 : dc cX2_areAllAt 28 (.if_icmp .eq 5) 3 31 := ⟨by decide +kernel, rfl⟩
theorem dX2_areAllAt_31 : dc cX2_areAllAt 31 (.iconst 0) 1 32 := ⟨by decide +kernel, rfl⟩
theorem dX2_areAllAt_32 : dc cX2_areAllAt 32 (.ireturn) 1 33 := ⟨by decide +kernel, rfl⟩
theorem dX2_areAllAt_33 : dc cX2_areAllAt 33 (.iinc 3 1) 3 36 := ⟨by decide +kernel, rfl⟩
theorem dX2_areAllAt_36 : dc cX2_areAllAt 36 (.goto (-34)) 3 39 := ⟨by decide +kernel, rfl⟩
theorem dX2_areAllAt_39 : dc cX2_areAllAt 39 (.iconst 1) 1 40 := ⟨by decide +kernel, rfl⟩
theorem dX2_areAllAt_40 : dc cX2_areAllAt 40 (.ireturn) 1 41 := ⟨by decide +kernel, rfl⟩
theorem nm_X2_areAllAt : (yX2_areAllAt).cls ≠ "java/lang/invoke/MethodHandle" ∧ (yX2_areAllAt).cls ≠ "java/lang/invoke/VarHandle" ∧ (parseMethodDescriptor (yX2_areAllAt).desc).map (fun d => d.parameters.length) = some 2 := ⟨by decide +kernel, by decide +kernel, by decide +kernel⟩
theorem zs_X2_areAllAt_2 {a0 : Nat} {c1 : Int32} {c2 : Int32} {M : KM} {y : Int32} : ∀ (n : Nat) (w3 : Int32), lp_X2_areAllAt_2 n a0 c1 c2 M w3 = some y → (y = 0 ∨ y = 1) := by
  intro n
  induction n with
  | zero =>
    intro w3 hf
    cases hf
  | succ n ih =>
    intro w3 hf
    rw [lp_X2_areAllAt_2] at hf
    by_cases h5 : (M.1 a0 10) ≤ w3
    · replace hf := (if_pos h5).symm.trans hf
      obtain rfl := Option.some.inj hf
      exact (Or.inr rfl)
    · replace hf := (if_neg h5).symm.trans hf
      obtain ⟨j33, ej33, hf⟩ := lt_j hf
      have hj33 : j33 = some y → (y = 0 ∨ y = 1) := by
        intro hf
        rw [ej33] at hf
        obtain ⟨v1, ev1⟩ : ∃ q : Int32, q = w3 + (1 : Int32) := ⟨_, rfl⟩
        replace hf := lt_e hf ev1
        exact ih v1 hf
      by_cases h4 : (c1 &&& ((1 : Int32) <<< (w3 &&& 31))) = 0
      · replace hf := (if_pos h4).symm.trans hf
        exact hj33 hf
      · replace hf := (if_neg h4).symm.trans hf
        obtain ⟨g2, hf⟩ := gd_e hf
        by_cases h3 : (M.1 ((a0 + 6) + 8 + 3 * (w3).toNatClampNeg) 5) = c2
        · replace hf := (if_pos h3).symm.trans hf
          exact hj33 hf
        · replace hf := (if_neg h3).symm.trans hf
          obtain rfl := Option.some.inj hf
          exact (Or.inl rfl)
set_option maxRecDepth 100000 in
theorem z_X2_areAllAt (n : Nat) {a0 : Nat} {p1 : Int32} {p2 : Int32} {M : KM} {y : Int32} (hf : f_X2_areAllAt n a0 p1 p2 M = some y) : (y = 0 ∨ y = 1) := by
  unfold f_X2_areAllAt at hf
  refine zs_X2_areAllAt_2 n (0 : Int32) hf
set_option maxRecDepth 100000 in
set_option maxHeartbeats 4000000 in
theorem s_X2_areAllAt_2 {ad : Nat → Nat} {cy : Nat → ClassId} {x : KX} (G : KG ad cy x cX2_areAllAt "NoonGuides$Land" 4 (some (some .boolean)) 1) {a0 : Nat} {c1 : Int32} {c2 : Int32} {M : KM} (h0 : kty a0 = 3) {y : Int32} : ∀ (n : Nat) (w3 : Int32), lp_X2_areAllAt_2 n a0 c1 c2 M w3 = some y → KV ad cy x (some (.int y), M) 2 [(0, .ref (ad a0)), (1, .int c1), (2, .int c2), (3, .int w3)] [] M := by
  intro n
  induction n with
  | zero =>
    intro w3 hf
    cases hf
  | succ n ih =>
    intro w3 hf
    rw [lp_X2_areAllAt_2] at hf
    refine v_iload_n G dX2_areAllAt_2 3 rfl ?_
    refine v_aload_n G dX2_areAllAt_3 0 rfl ?_
    refine gf_2_10 G h0 t_389 (Or.inl rfl) dX2_areAllAt_4 ?_
    refine v_icmp_ge 39 G dX2_areAllAt_7 (by decide) (fun h5 => ?_) (fun h5 => ?_)
    · replace hf := (if_pos h5).symm.trans hf
      refine v_iconst (1 : Int32) G dX2_areAllAt_39 (by decide) ?_
      obtain rfl := Option.some.inj hf
      exact v_zret G (Or.inr rfl) dX2_areAllAt_40
    · replace hf := (if_neg h5).symm.trans hf
      refine v_iload_n G dX2_areAllAt_10 1 rfl ?_
      refine v_iconst (1 : Int32) G dX2_areAllAt_11 (by decide) ?_
      refine v_iload_n G dX2_areAllAt_12 3 rfl ?_
      refine v_ishl G dX2_areAllAt_13 ?_
      refine v_iand G dX2_areAllAt_14 ?_
      obtain ⟨j33, ej33, hf⟩ := lt_j hf
      have hj33 : j33 = some y → KV ad cy x (some (.int y), M) 33 [(0, .ref (ad a0)), (1, .int c1), (2, .int c2), (3, .int w3)] [] M := by
        intro hf
        rw [ej33] at hf
        obtain ⟨v1, ev1⟩ : ∃ q : Int32, q = w3 + (1 : Int32) := ⟨_, rfl⟩
        replace hf := lt_e hf ev1
        refine v_iinc v1 [(3, .int v1), (0, .ref (ad a0)), (1, .int c1), (2, .int c2)] G dX2_areAllAt_33 3 rfl (by rw [ev1]; rfl) (by decide) rfl ?_
        refine v_goto 2 G dX2_areAllAt_36 (by decide) ?_
        refine v_sub _ [1, 2, 3, 0] rfl ?_
        exact ih v1 hf
      refine v_if_eq 33 G dX2_areAllAt_15 (by decide) (fun h4 => ?_) (fun h4 => ?_)
      · replace hf := (if_pos h4).symm.trans hf
        refine v_sub _ [0, 1, 2, 3] rfl ?_
        exact hj33 hf
      · replace hf := (if_neg h4).symm.trans hf
        refine v_aload_n G dX2_areAllAt_18 0 rfl ?_
        refine gf_2_5 G h0 t_371 (Or.inl rfl) dX2_areAllAt_19 ?_
        refine v_iload_n G dX2_areAllAt_22 3 rfl ?_
        obtain ⟨g2, hf⟩ := gd_e hf
        refine al_Person G (kf_2_6 h0) g2 dX2_areAllAt_23 ?_
        refine gf_7_5 G (ke_Person (kf_2_6 h0) (ix_lt g2)) t_322 (Or.inl rfl) dX2_areAllAt_24 ?_
        refine v_iload_n G dX2_areAllAt_27 2 rfl ?_
        refine v_icmp_eq 33 G dX2_areAllAt_28 (by decide) (fun h3 => ?_) (fun h3 => ?_)
        · replace hf := (if_pos h3).symm.trans hf
          refine v_sub _ [0, 1, 2, 3] rfl ?_
          exact hj33 hf
        · replace hf := (if_neg h3).symm.trans hf
          refine v_iconst (0 : Int32) G dX2_areAllAt_31 (by decide) ?_
          obtain rfl := Option.some.inj hf
          exact v_zret G (Or.inl rfl) dX2_areAllAt_32
set_option maxRecDepth 100000 in
set_option maxHeartbeats 4000000 in
theorem c_X2_areAllAt {l : Launch} {ad : Nat → Nat} {cy : Nat → ClassId} {D : va_G} {z : Nat} (n : Nat) {a0 : Nat} {p1 : Int32} {p2 : Int32} {M : KM} {y : Int32} (h0 : kty a0 = 3) (hf : f_X2_areAllAt n a0 p1 p2 M = some y) : KC l ad cy D z yX2_areAllAt cX2_areAllAt 4 (some .boolean) 1 [.ref (ad a0), .int p1, .int p2] M (some (.int y), M) := by
  refine kv_enter (by decide +kernel) (Nat.le_of_ble_eq_true rfl) ?_
  intro x hl hD hz G
  subst hl hD hz
  unfold f_X2_areAllAt at hf
  have G : KG ad cy x cX2_areAllAt "NoonGuides$Land" 4 (some (some .boolean)) 1 := G
  show KV ad cy x (some (.int y), M) 0 [(0, .ref (ad a0)), (1, .int p1), (2, .int p2)] [] M
  refine v_iconst (0 : Int32) G dX2_areAllAt_0 (by decide) ?_
  refine v_istore_n [(3, .int (0 : Int32)), (0, .ref (ad a0)), (1, .int p1), (2, .int p2)] G dX2_areAllAt_1 (by decide) rfl ?_
  refine v_sub _ [1, 2, 3, 0] rfl ?_
  refine s_X2_areAllAt_2 G h0 n (0 : Int32) hf
abbrev cX2_setOut : ByteArray := prog_4_method_21_code
def yX2_setOut : MethodName := ⟨RX2, "setOut", "(III)I"⟩
theorem dX2_setOut_0 : dc cX2_setOut 0 (.aload_n 0) 1 1 := ⟨by decide +kernel, rfl⟩
theorem dX2_setOut_1 : dc cX2_setOut 1 (.iload_n 1) 1 2 := ⟨by decide +kernel, rfl⟩
theorem dX2_setOut_2 : dc cX2_setOut 2 (.invokevirtual 149) 3 5 := ⟨by decide +kernel, rfl⟩
theorem dX2_setOut_5 : dc cX2_setOut 5 (.istore 4) 2 7 := ⟨by decide +kernel, rfl⟩
theorem dX2_setOut_7 : dc cX2_setOut 7 (.aload_n 0) 1 8 := ⟨by decide +kernel, rfl⟩
theorem dX2_setOut_8 : dc cX2_setOut 8 (.iload 4) 2 10 := ⟨by decide +kernel, rfl⟩
theorem dX2_setOut_10 : dc cX2_setOut 10 (.invokevirtual 152) 3 13 := ⟨by decide +kernel, rfl⟩
theorem dX2_setOut_13 : dc cX2_setOut 13 (.ifCond .eq 13) 3 16 := ⟨by decide +kernel, rfl⟩
theorem dX2_setOut_16 : dc cX2_setOut 16 (.aload_n 0) 1 17 := ⟨by decide +kernel, rfl⟩
theorem dX2_setOut_17 : dc cX2_setOut 17 (.iload 4) 2 19 := ⟨by decide +kernel, rfl⟩
theorem dX2_setOut_19 : dc cX2_setOut 19 (.iload_n 3) 1 20 := ⟨by decide +kernel, rfl⟩
theorem dX2_setOut_20 : dc cX2_setOut 20 (.invokevirtual 155) 3 23 := ⟨by decide +kernel, rfl⟩
theorem dX2_setOut_23 : dc cX2_setOut 23 (.goto 4) 3 26 := ⟨by decide +kernel, rfl⟩
theorem dX2_setOut_26 : dc cX2_setOut 26 (.iconst (-1)) 1 27 := ⟨by decide +kernel, rfl⟩
theorem dX2_setOut_27 : dc cX2_setOut 27 (.istore 5) 2 29 := ⟨by decide +kernel, rfl⟩
theorem dX2_setOut_29 : dc cX2_setOut 29 (.aload_n 0) 1 30 := ⟨by decide +kernel, rfl⟩
theorem dX2_setOut_30 : dc cX2_setOut 30 (.iload 5) 2 32 := ⟨by decide +kernel, rfl⟩
theorem dX2_setOut_32 : dc cX2_setOut 32 (.invokevirtual 158) 3 35 := ⟨by decide +kernel, rfl⟩
theorem dX2_setOut_35 : dc cX2_setOut 35 (.ifCond .eq 23) 3 38 := ⟨by decide +kernel, rfl⟩
theorem dX2_setOut_38 : dc cX2_setOut 38 (.aload_n 0) 1 39 := ⟨by decide +kernel, rfl⟩
theorem dX2_setOut_39 : dc cX2_setOut 39 (.iload_n 1) 1 40 := ⟨by decide +kernel, rfl⟩
theorem dX2_setOut_40 : dc cX2_setOut 40 (.iload 5) 2 42 := ⟨by decide +kernel, rfl⟩
theorem dX2_setOut_42 : dc cX2_setOut 42 (.invokevirtual 161) 3 45 := ⟨by decide +kernel, rfl⟩
theorem dX2_setOut_45 : dc cX2_setOut 45 (.ifCond .eq 13) 3 48 := ⟨by decide +kernel, rfl⟩
theorem dX2_setOut_48 : dc cX2_setOut 48 (.aload_n 0) 1 49 := ⟨by decide +kernel, rfl⟩
theorem dX2_setOut_49 : dc cX2_setOut 49 (.iload_n 2) 1 50 := ⟨by decide +kernel, rfl⟩
theorem dX2_setOut_50 : dc cX2_setOut 50 (.iload 4) 2 52 := ⟨by decide +kernel, rfl⟩
theorem dX2_setOut_52 : dc cX2_setOut 52 (.invokevirtual 165) 3 55 := ⟨by decide +kernel, rfl⟩
theorem dX2_setOut_55 : dc cX2_setOut 55 (.ifCond .ne 5) 3 58 := ⟨by decide +kernel, rfl⟩
theorem dX2_setOut_58 : dc cX2_setOut 58 (.iconst (-1)) 1 59 := ⟨by decide +kernel, rfl⟩
theorem dX2_setOut_59 : dc cX2_setOut 59 (.ireturn) 1 60 := ⟨by decide +kernel, rfl⟩
theorem dX2_setOut_60 : dc cX2_setOut 60 (.iconst 0) 1 61 := ⟨by decide +kernel, rfl⟩
theorem dX2_setOut_61 : dc cX2_setOut 61 (.istore 6) 2 63 := ⟨by decide +kernel, rfl⟩
theorem dX2_setOut_63 : dc cX2_setOut 63 (.iload 6) 2 65 := ⟨by decide +kernel, rfl⟩
theorem dX2_setOut_65 : dc cX2_setOut 65 (.aload_n 0) 1 66 := ⟨by decide +kernel, rfl⟩
theorem dX2_setOut_66 : dc cX2_setOut 66 (.getfield 69) 3 69 := ⟨by decide +kernel, rfl⟩
theorem dX2_setOut_69 : dc cX2_setOut 69 (.if_icmp .ge 39) 3 72 := ⟨by decide +kernel, rfl⟩
theorem dX2_setOut_72 : dc cX2_setOut 72 (.iload_n 2) 1 73 := ⟨by decide +kernel, rfl⟩
theorem dX2_setOut_73 : dc cX2_setOut 73 (.iconst 1) 1 74 := ⟨by decide +kernel, rfl⟩
theorem dX2_setOut_74 : dc cX2_setOut 74 (.iload 6) 2 76 := ⟨by decide +kernel, rfl⟩
theorem dX2_setOut_76 : dc cX2_setOut 76 (.ishl) 1 77 := ⟨by decide +kernel, rfl⟩
theorem dX2_setOut_77 : dc cX2_setOut 77 (.iand) 1 78 := ⟨by decide +kernel, rfl⟩
theorem dX2_setOut_78 : dc cX2_setOut 78 (.ifCond .eq 24) 3 81 := ⟨by decide +kernel, rfl⟩
theorem dX2_setOut_81 : dc cX2_setOut 81 (.aload_n 0) 1 82 := ⟨by decide +kernel, rfl⟩
theorem dX2_setOut_82 : dc cX2_setOut 82 (.getfield 31) 3 85 := ⟨by decide +kernel, rfl⟩
theorem dX2_setOut_85 : dc cX2_setOut 85 (.iload 6) 2 87 := ⟨by decide +kernel, rfl⟩
theorem dX2_setOut_87 : dc cX2_setOut 87 (.aaload) 1 88 := ⟨by decide +kernel, rfl⟩
theorem dX2_setOut_88 : dc cX2_setOut 88 (.iload 5) 2 90 := ⟨by decide +kernel, rfl⟩
theorem dX2_setOut_90 : dc cX2_setOut 90 (.iload_n 3) 1 91 := ⟨by decide +kernel, rfl⟩
theorem dX2_setOut_91 : dc cX2_setOut 91 (.iload_n 1) 1 92 := ⟨by decide +kernel, rfl⟩
theorem dX2_setOut_92 : dc cX2_setOut 92 (.aload_n 0) 1 93 := ⟨by decide +kernel, rfl⟩
theorem dX2_setOut_93 : dc cX2_setOut 93 (.getfield 22) 3 96 := ⟨by decide +kernel, rfl⟩
theorem dX2_setOut_96 : dc cX2_setOut 96 (.iload 5) 2 98 := ⟨by decide +kernel, rfl⟩
theorem dX2_setOut_98 : dc cX2_setOut 98 (.iaload) 1 99 := ⟨by decide +kernel, rfl⟩
theorem dX2_setOut_99 : dc cX2_setOut 99 (.invokevirtual 168) 3 102 := ⟨by decide +kernel, rfl⟩
theorem dX2_setOut_102 : dc cX2_setOut 102 (.iinc 6 1) 3 105 := ⟨by decide +kernel, rfl⟩
theorem dX2_setOut_105 : dc cX2_setOut 105 (.goto (-42)) 3 108 := ⟨by decide +kernel, rfl⟩
theorem dX2_setOut_108 : dc cX2_setOut 108 (.aload_n 0) 1 109 := ⟨by decide +kernel, rfl⟩
theorem dX2_setOut_109 : dc cX2_setOut 109 (.getfield 31) 3 112 := ⟨by decide +kernel, rfl⟩
theorem dX2_setOut_112 : dc cX2_setOut 112 (.iload_n 1) 1 113 := ⟨by decide +kernel, rfl⟩
theorem dX2_setOut_113 : dc cX2_setOut 113 (.aaload) 1 114 := ⟨by decide +kernel, rfl⟩
theorem dX2_setOut_114 : dc cX2_setOut 114 (.iload 5) 2 116 := ⟨by decide +kernel, rfl⟩
theorem dX2_setOut_116 : dc cX2_setOut 116 (.iload_n 3) 1 117 := ⟨by decide +kernel, rfl⟩
theorem dX2_setOut_117 : dc cX2_setOut 117 (.iconst (-1)) 1 118 := ⟨by decide +kernel, rfl⟩
theorem dX2_setOut_118 : dc cX2_setOut 118 (.aload_n 0) 1 119 := ⟨by decide +kernel, rfl⟩
theorem dX2_setOut_119 : dc cX2_setOut 119 (.getfield 22) 3 122 := ⟨by decide +kernel, rfl⟩
theorem dX2_setOut_122 : dc cX2_setOut 122 (.iload 5) 2 124 := ⟨by decide +kernel, rfl⟩
theorem dX2_setOut_124 : dc cX2_setOut 124 (.iaload) 1 125 := ⟨by decide +kernel, rfl⟩
theorem dX2_setOut_125 : dc cX2_setOut 125 (.invokevirtual 168) 3 128 := ⟨by decide +kernel, rfl⟩
theorem dX2_setOut_128 : dc cX2_setOut 128 (.aload_n 0) 1 129 := ⟨by decide +kernel, rfl⟩
theorem dX2_setOut_129 : dc cX2_setOut 129 (.getfield 22) 3 132 := ⟨by decide +kernel, rfl⟩
theorem dX2_setOut_132 : dc cX2_setOut 132 (.iload 5) 2 134 := ⟨by decide +kernel, rfl⟩
theorem dX2_setOut_134 : dc cX2_setOut 134 (.iaload) 1 135 := ⟨by decide +kernel, rfl⟩
theorem dX2_setOut_135 : dc cX2_setOut 135 (.ireturn) 1 136 := ⟨by decide +kernel, rfl⟩
theorem nm_X2_setOut : (yX2_setOut).cls ≠ "java/lang/invoke/MethodHandle" ∧ (yX2_setOut).cls ≠ "java/lang/invoke/VarHandle" ∧ (parseMethodDescriptor (yX2_setOut).desc).map (fun d => d.parameters.length) = some 3 := ⟨by decide +kernel, by decide +kernel, by decide +kernel⟩
set_option maxRecDepth 100000 in
set_option maxHeartbeats 4000000 in
theorem s_X2_setOut_63 {ad : Nat → Nat} {cy : Nat → ClassId} {x : KX} (G : KG ad cy x cX2_setOut "NoonGuides$Land" 7 (some (some .int)) 3) {a0 : Nat} {c1 : Int32} {c2 : Int32} {c3 : Int32} {c5 : Int32} (h0 : kty a0 = 3) {k108 : KM → Option (Int32 × KM)} {y : (Int32 × KM)} (hk108 : ∀ (M : KM), k108 M = some y → KV ad cy x (some (.int y.1), y.2) 108 [(0, .ref (ad a0)), (1, .int c1), (3, .int c3), (5, .int c5)] [] M) : ∀ (n : Nat) (w6 : Int32) (M : KM), lp_X2_setOut_63 n a0 c1 c2 c3 c5 w6 M k108 = some y → KV ad cy x (some (.int y.1), y.2) 63 [(0, .ref (ad a0)), (1, .int c1), (2, .int c2), (3, .int c3), (5, .int c5), (6, .int w6)] [] M := by
  intro n
  induction n with
  | zero =>
    intro w6 M hf
    cases hf
  | succ n ih =>
    intro w6 M hf
    rw [lp_X2_setOut_63] at hf
    refine v_iload G dX2_setOut_63 5 rfl ?_
    refine v_aload_n G dX2_setOut_65 0 rfl ?_
    refine gf_2_10 G h0 t_389 (Or.inl rfl) dX2_setOut_66 ?_
    refine v_icmp_ge 108 G dX2_setOut_69 (by decide) (fun h13 => ?_) (fun h13 => ?_)
    · replace hf := (if_pos h13).symm.trans hf
      refine v_sub _ [0, 1, 3, 4] rfl ?_
      exact hk108 M hf
    · replace hf := (if_neg h13).symm.trans hf
      refine v_iload_n G dX2_setOut_72 2 rfl ?_
      refine v_iconst (1 : Int32) G dX2_setOut_73 (by decide) ?_
      refine v_iload G dX2_setOut_74 5 rfl ?_
      refine v_ishl G dX2_setOut_76 ?_
      refine v_iand G dX2_setOut_77 ?_
      obtain ⟨j102, ej102, hf⟩ := lt_j hf
      have hj102 : ∀ (M7 : KM), j102 M7 = some y → KV ad cy x (some (.int y.1), y.2) 102 [(0, .ref (ad a0)), (1, .int c1), (2, .int c2), (3, .int c3), (5, .int c5), (6, .int w6)] [] M7 := by
        intro M7 hf
        rw [ej102] at hf
        obtain ⟨v8, ev8⟩ : ∃ q : Int32, q = w6 + (1 : Int32) := ⟨_, rfl⟩
        replace hf := lt_e hf ev8
        refine v_iinc v8 [(6, .int v8), (0, .ref (ad a0)), (1, .int c1), (2, .int c2), (3, .int c3), (5, .int c5)] G dX2_setOut_102 5 rfl (by rw [ev8]; rfl) (by decide) rfl ?_
        refine v_goto 63 G dX2_setOut_105 (by decide) ?_
        refine v_sub _ [1, 2, 3, 4, 5, 0] rfl ?_
        exact ih v8 M7 hf
      refine v_if_eq 102 G dX2_setOut_78 (by decide) (fun h12 => ?_) (fun h12 => ?_)
      · replace hf := (if_pos h12).symm.trans hf
        refine v_sub _ [0, 1, 2, 3, 4, 5] rfl ?_
        exact hj102 M hf
      · replace hf := (if_neg h12).symm.trans hf
        refine v_aload_n G dX2_setOut_81 0 rfl ?_
        refine gf_2_5 G h0 t_371 (Or.inl rfl) dX2_setOut_82 ?_
        refine v_iload G dX2_setOut_85 5 rfl ?_
        obtain ⟨g9, hf⟩ := gd_e hf
        refine al_Person G (kf_2_6 h0) g9 dX2_setOut_87 ?_
        refine v_iload G dX2_setOut_88 4 rfl ?_
        refine v_iload_n G dX2_setOut_90 3 rfl ?_
        refine v_iload_n G dX2_setOut_91 1 rfl ?_
        refine v_aload_n G dX2_setOut_92 0 rfl ?_
        refine gf_2_3 G h0 t_368 (Or.inl rfl) dX2_setOut_93 ?_
        refine v_iload G dX2_setOut_96 4 rfl ?_
        obtain ⟨g10, hf⟩ := gd_e hf
        refine al_30 G (kf_2_4 h0) g10 dX2_setOut_98 ?_
        obtain ⟨v11, hcv11⟩ : ∃ q, f_X7_leaveBy ((a0 + 6) + 8 + 3 * (w6).toNatClampNeg) c5 c3 c1 (M.1 (a0 + 4) (c5).toNatClampNeg) M = q := ⟨_, rfl⟩
        replace hf := lt_e hf hcv11.symm
        refine v_callV [.int c5, .int c3, .int c1, .int (M.1 (a0 + 4) (c5).toNatClampNeg)] G (c_X7_leaveBy (ke_Person (kf_2_6 h0) (ix_lt g9)) hcv11) (ke_Person (kf_2_6 h0) (ix_lt g9)) (by decide) rfl rfl rfl t_698 t_699 t_700 t_15 t_701 nm_X7_leaveBy (by decide) (by decide) rfl rfl (Nat.le_of_ble_eq_true rfl) dX2_setOut_99 (kv_rv ?_)
        refine v_sub _ [0, 1, 2, 3, 4, 5] rfl ?_
        exact hj102 v11 hf
set_option maxRecDepth 100000 in
set_option maxHeartbeats 4000000 in
theorem c_X2_setOut {l : Launch} {ad : Nat → Nat} {cy : Nat → ClassId} {D : va_G} {z : Nat} (n : Nat) {a0 : Nat} {p1 : Int32} {p2 : Int32} {p3 : Int32} {M : KM} {y : (Int32 × KM)} (h0 : kty a0 = 3) (hf : f_X2_setOut n a0 p1 p2 p3 M = some y) : KC l ad cy D z yX2_setOut cX2_setOut 7 (some .int) 3 [.ref (ad a0), .int p1, .int p2, .int p3] M (some (.int y.1), y.2) := by
  refine kv_enter (by decide +kernel) (Nat.le_of_ble_eq_true rfl) ?_
  intro x hl hD hz G
  subst hl hD hz
  unfold f_X2_setOut at hf
  have G : KG ad cy x cX2_setOut "NoonGuides$Land" 7 (some (some .int)) 3 := G
  show KV ad cy x (some (.int y.1), y.2) 0 [(0, .ref (ad a0)), (1, .int p1), (2, .int p2), (3, .int p3)] [] M
  refine v_aload_n G dX2_setOut_0 0 rfl ?_
  refine v_iload_n G dX2_setOut_1 1 rfl ?_
  obtain ⟨v1, hcv1, hf⟩ := bd_e hf
  refine v_callV [.int p1] G (c_X2_placeOf n h0 hcv1) h0 (by decide) rfl rfl rfl t_684 t_685 t_686 t_13 t_687 nm_X2_placeOf (by decide) (by decide) rfl rfl (Nat.le_of_ble_eq_true rfl) dX2_setOut_2 (kv_ri ?_)
  refine v_istore [(4, .int v1), (0, .ref (ad a0)), (1, .int p1), (2, .int p2), (3, .int p3)] G dX2_setOut_5 (by decide) rfl ?_
  refine v_aload_n G dX2_setOut_7 1 rfl ?_
  refine v_iload G dX2_setOut_8 0 rfl ?_
  obtain ⟨v2, hcv2⟩ : ∃ q, f_X2_hasPlace a0 v1 M = q := ⟨_, rfl⟩
  replace hf := lt_e hf hcv2.symm
  refine v_callV [.int v1] G (c_X2_hasPlace h0 hcv2) h0 (by decide) rfl rfl rfl t_688 t_566 t_567 t_13 t_568 nm_X2_hasPlace (by decide) (by decide) rfl rfl (Nat.le_of_ble_eq_true rfl) dX2_setOut_10 (kv_ri ?_)
  obtain ⟨j27, ej27, hf⟩ := lt_j hf
  have hj27 : ∀ (x3 : Int32), j27 x3 = some y → KV ad cy x (some (.int y.1), y.2) 27 [(0, .ref (ad a0)), (1, .int p1), (2, .int p2), (3, .int p3), (4, .int v1)] [.int x3] M := by
    intro x3 hf
    rw [ej27] at hf
    refine v_istore [(5, .int x3), (0, .ref (ad a0)), (1, .int p1), (2, .int p2), (3, .int p3), (4, .int v1)] G dX2_setOut_27 (by decide) rfl ?_
    refine v_aload_n G dX2_setOut_29 1 rfl ?_
    refine v_iload G dX2_setOut_30 0 rfl ?_
    obtain ⟨v4, hcv4⟩ : ∃ q, f_X2_hasRoad a0 x3 M = q := ⟨_, rfl⟩
    replace hf := lt_e hf hcv4.symm
    refine v_callV [.int x3] G (c_X2_hasRoad h0 hcv4) h0 (by decide) rfl rfl rfl t_631 t_632 t_633 t_13 t_634 nm_X2_hasRoad (by decide) (by decide) rfl rfl (Nat.le_of_ble_eq_true rfl) dX2_setOut_32 (kv_ri ?_)
    refine v_if_eq 58 G dX2_setOut_35 (by decide) (fun h21 => ?_) (fun h21 => ?_)
    · replace hf := (if_pos h21).symm.trans hf
      refine v_iconst (-1 : Int32) G dX2_setOut_58 (by decide) ?_
      obtain rfl := Option.some.inj hf
      exact v_iret G dX2_setOut_59
    · replace hf := (if_neg h21).symm.trans hf
      refine v_aload_n G dX2_setOut_38 1 rfl ?_
      refine v_iload_n G dX2_setOut_39 2 rfl ?_
      refine v_iload G dX2_setOut_40 0 rfl ?_
      obtain ⟨v5, hcv5, hf⟩ := bd_e hf
      refine v_callV [.int p1, .int x3] G (c_X2_isAble n h0 hcv5) h0 (by decide) rfl rfl rfl t_690 t_691 t_692 t_13 t_693 nm_X2_isAble (by decide) (by decide) rfl rfl (Nat.le_of_ble_eq_true rfl) dX2_setOut_42 (kv_ri ?_)
      refine v_if_eq 58 G dX2_setOut_45 (by decide) (fun h20 => ?_) (fun h20 => ?_)
      · replace hf := (if_pos h20).symm.trans hf
        refine v_iconst (-1 : Int32) G dX2_setOut_58 (by decide) ?_
        obtain rfl := Option.some.inj hf
        exact v_iret G dX2_setOut_59
      · replace hf := (if_neg h20).symm.trans hf
        refine v_aload_n G dX2_setOut_48 1 rfl ?_
        refine v_iload_n G dX2_setOut_49 3 rfl ?_
        refine v_iload G dX2_setOut_50 5 rfl ?_
        obtain ⟨v6, hcv6, hf⟩ := bd_e hf
        refine v_callV [.int p2, .int v1] G (c_X2_areAllAt n h0 hcv6) h0 (by decide) rfl rfl rfl t_694 t_696 t_p11 t_13 t_697 nm_X2_areAllAt (by decide) (by decide) rfl rfl (Nat.le_of_ble_eq_true rfl) dX2_setOut_52 (kv_ri ?_)
        refine v_if_ne 60 G dX2_setOut_55 (by decide) (fun h19 => ?_) (fun h19 => ?_)
        · replace hf := (if_neg h19).symm.trans hf
          refine v_iconst (0 : Int32) G dX2_setOut_60 (by decide) ?_
          refine v_istore [(6, .int (0 : Int32)), (5, .int x3), (0, .ref (ad a0)), (1, .int p1), (2, .int p2), (3, .int p3), (4, .int v1)] G dX2_setOut_61 (by decide) rfl ?_
          refine v_sub _ [2, 3, 4, 5, 1, 0] rfl ?_
          refine s_X2_setOut_63 G h0 (fun M14 hf => ?_) n (0 : Int32) M hf
          · refine v_aload_n G dX2_setOut_108 0 rfl ?_
            refine gf_2_5 G h0 t_371 (Or.inl rfl) dX2_setOut_109 ?_
            refine v_iload_n G dX2_setOut_112 1 rfl ?_
            obtain ⟨g15, hf⟩ := gd_e hf
            refine al_Person G (kf_2_6 h0) g15 dX2_setOut_113 ?_
            refine v_iload G dX2_setOut_114 3 rfl ?_
            refine v_iload_n G dX2_setOut_116 2 rfl ?_
            refine v_iconst (-1 : Int32) G dX2_setOut_117 (by decide) ?_
            refine v_aload_n G dX2_setOut_118 0 rfl ?_
            refine gf_2_3 G h0 t_368 (Or.inl rfl) dX2_setOut_119 ?_
            refine v_iload G dX2_setOut_122 3 rfl ?_
            obtain ⟨g16, hf⟩ := gd_e hf
            refine al_30 G (kf_2_4 h0) g16 dX2_setOut_124 ?_
            obtain ⟨v17, hcv17⟩ : ∃ q, f_X7_leaveBy ((a0 + 6) + 8 + 3 * (p1).toNatClampNeg) x3 p3 (-1 : Int32) (M14.1 (a0 + 4) (x3).toNatClampNeg) M14 = q := ⟨_, rfl⟩
            replace hf := lt_e hf hcv17.symm
            refine v_callV [.int x3, .int p3, .int (-1 : Int32), .int (M14.1 (a0 + 4) (x3).toNatClampNeg)] G (c_X7_leaveBy (ke_Person (kf_2_6 h0) (ix_lt g15)) hcv17) (ke_Person (kf_2_6 h0) (ix_lt g15)) (by decide) rfl rfl rfl t_698 t_699 t_700 t_15 t_701 nm_X7_leaveBy (by decide) (by decide) rfl rfl (Nat.le_of_ble_eq_true rfl) dX2_setOut_125 (kv_rv ?_)
            refine v_aload_n G dX2_setOut_128 0 rfl ?_
            refine gf_2_3 G h0 t_368 (Or.inl rfl) dX2_setOut_129 ?_
            refine v_iload G dX2_setOut_132 3 rfl ?_
            obtain ⟨g18, hf⟩ := gd_e hf
            refine al_30 G (kf_2_4 h0) g18 dX2_setOut_134 ?_
            obtain rfl := Option.some.inj hf
            exact v_iret G dX2_setOut_135
        · replace hf := (if_pos h19).symm.trans hf
          refine v_iconst (-1 : Int32) G dX2_setOut_58 (by decide) ?_
          obtain rfl := Option.some.inj hf
          exact v_iret G dX2_setOut_59
  refine v_if_eq 26 G dX2_setOut_13 (by decide) (fun h23 => ?_) (fun h23 => ?_)
  · replace hf := (if_pos h23).symm.trans hf
    refine v_iconst (-1 : Int32) G dX2_setOut_26 (by decide) ?_
    refine v_sub _ [1, 2, 3, 4, 0] rfl ?_
    exact hj27 (-1 : Int32) hf
  · replace hf := (if_neg h23).symm.trans hf
    refine v_aload_n G dX2_setOut_16 1 rfl ?_
    refine v_iload G dX2_setOut_17 0 rfl ?_
    refine v_iload_n G dX2_setOut_19 4 rfl ?_
    obtain ⟨v22, hcv22, hf⟩ := bd_e hf
    refine v_callV [.int v1, .int p3] G (c_X2_roadBetween n h0 hcv22) h0 (by decide) rfl rfl rfl t_689 t_570 t_571 t_13 t_572 nm_X2_roadBetween (by decide) (by decide) rfl rfl (Nat.le_of_ble_eq_true rfl) dX2_setOut_20 (kv_ri ?_)
    refine v_goto 27 G dX2_setOut_23 (by decide) ?_
    refine v_sub _ [1, 2, 3, 4, 0] rfl ?_
    exact hj27 v22 hf
abbrev cX2_isWith : ByteArray := prog_4_method_23_code
def yX2_isWith : MethodName := ⟨RX2, "isWith", "(II)Z"⟩
theorem dX2_isWith_0 : dc cX2_isWith 0 (.iload_n 1) 1 1 := ⟨by decide +kernel, rfl⟩
theorem dX2_isWith_1 : dc cX2_isWith 1 (.iload_n 2) 1 2 := ⟨by decide +kernel, rfl⟩
theorem dX2_isWith_2 : dc cX2_isWith 2 (.if_icmp .eq 16) 3 5 := ⟨by decide +kernel, rfl⟩
theorem dX2_isWith_5 : dc cX2_isWith 5 (.aload_n 0) 1 6 := ⟨by decide +kernel, rfl⟩
theorem dX2_isWith_6 : dc cX2_isWith 6 (.getfield 31) 3 9 := ⟨by decide +kernel, rfl⟩
theorem dX2_isWith_9 : dc cX2_isWith 9 (.iload_n 1) 1 10 := ⟨by decide +kernel, rfl⟩
theorem dX2_isWith_10 : dc cX2_isWith 10 (.aaload) 1 11 := ⟨by decide +kernel, rfl⟩
theorem dX2_isWith_11 : dc cX2_isWith 11 (.getfield 172) 3 14 := ⟨by decide +kernel, rfl⟩
theorem dX2_isWith_14 : dc cX2_isWith 14 (.iload_n 2) 1 15 := ⟨by decide +kernel, rfl⟩
theorem dX2_isWith_15 : dc cX2_isWith 15 (.if_icmp .ne 7) 3 18 := ⟨by decide +kernel, rfl⟩
theorem dX2_isWith_18 : dc cX2_isWith 18 (.iconst 1) 1 19 := ⟨by decide +kernel, rfl⟩
theorem dX2_isWith_19 : dc cX2_isWith 19 (.goto 4) 3 22 := ⟨by decide +kernel, rfl⟩
theorem dX2_isWith_22 : dc cX2_isWith 22 (.iconst 0) 1 23 := ⟨by decide +kernel, rfl⟩
theorem dX2_isWith_23 : dc cX2_isWith 23 (.ireturn) 1 24 := ⟨by decide +kernel, rfl⟩
theorem nm_X2_isWith : (yX2_isWith).cls ≠ "java/lang/invoke/MethodHandle" ∧ (yX2_isWith).cls ≠ "java/lang/invoke/VarHandle" ∧ (parseMethodDescriptor (yX2_isWith).desc).map (fun d => d.parameters.length) = some 2 := ⟨by decide +kernel, by decide +kernel, by decide +kernel⟩
set_option maxRecDepth 100000 in
theorem z_X2_isWith (n : Nat) {a0 : Nat} {p1 : Int32} {p2 : Int32} {M : KM} {y : Int32} (hf : f_X2_isWith n a0 p1 p2 M = some y) : (y = 0 ∨ y = 1) := by
  unfold f_X2_isWith at hf
  obtain ⟨j18, ej18, hf⟩ := lt_j hf
  have hj18 : j18 = some y → (y = 0 ∨ y = 1) := by
    intro hf
    rw [ej18] at hf
    obtain rfl := Option.some.inj hf
    exact (Or.inr rfl)
  by_cases h3 : p1 = p2
  · replace hf := (if_pos h3).symm.trans hf
    exact hj18 hf
  · replace hf := (if_neg h3).symm.trans hf
    obtain ⟨g1, hf⟩ := gd_e hf
    by_cases h2 : (M.1 ((a0 + 6) + 8 + 3 * (p1).toNatClampNeg) 9) = p2
    · replace hf := (if_pos h2).symm.trans hf
      exact hj18 hf
    · replace hf := (if_neg h2).symm.trans hf
      obtain rfl := Option.some.inj hf
      exact (Or.inl rfl)
set_option maxRecDepth 100000 in
set_option maxHeartbeats 4000000 in
theorem c_X2_isWith {l : Launch} {ad : Nat → Nat} {cy : Nat → ClassId} {D : va_G} {z : Nat} (n : Nat) {a0 : Nat} {p1 : Int32} {p2 : Int32} {M : KM} {y : Int32} (h0 : kty a0 = 3) (hf : f_X2_isWith n a0 p1 p2 M = some y) : KC l ad cy D z yX2_isWith cX2_isWith 3 (some .boolean) 1 [.ref (ad a0), .int p1, .int p2] M (some (.int y), M) := by
  refine kv_enter (by decide +kernel) (Nat.le_of_ble_eq_true rfl) ?_
  intro x hl hD hz G
  subst hl hD hz
  unfold f_X2_isWith at hf
  have G : KG ad cy x cX2_isWith "NoonGuides$Land" 3 (some (some .boolean)) 1 := G
  show KV ad cy x (some (.int y), M) 0 [(0, .ref (ad a0)), (1, .int p1), (2, .int p2)] [] M
  refine v_iload_n G dX2_isWith_0 1 rfl ?_
  refine v_iload_n G dX2_isWith_1 2 rfl ?_
  obtain ⟨j18, ej18, hf⟩ := lt_j hf
  have hj18 : j18 = some y → KV ad cy x (some (.int y), M) 18 [] [] M := by
    intro hf
    rw [ej18] at hf
    refine v_iconst (1 : Int32) G dX2_isWith_18 (by decide) ?_
    refine v_goto 23 G dX2_isWith_19 (by decide) ?_
    obtain rfl := Option.some.inj hf
    exact v_zret G (Or.inr rfl) dX2_isWith_23
  refine v_icmp_eq 18 G dX2_isWith_2 (by decide) (fun h3 => ?_) (fun h3 => ?_)
  · replace hf := (if_pos h3).symm.trans hf
    refine v_sub _ [] rfl ?_
    exact hj18 hf
  · replace hf := (if_neg h3).symm.trans hf
    refine v_aload_n G dX2_isWith_5 0 rfl ?_
    refine gf_2_5 G h0 t_371 (Or.inl rfl) dX2_isWith_6 ?_
    refine v_iload_n G dX2_isWith_9 1 rfl ?_
    obtain ⟨g1, hf⟩ := gd_e hf
    refine al_Person G (kf_2_6 h0) g1 dX2_isWith_10 ?_
    refine gf_7_9 G (ke_Person (kf_2_6 h0) (ix_lt g1)) t_331 (Or.inl rfl) dX2_isWith_11 ?_
    refine v_iload_n G dX2_isWith_14 2 rfl ?_
    refine v_icmp_ne 22 G dX2_isWith_15 (by decide) (fun h2 => ?_) (fun h2 => ?_)
    · replace hf := (if_neg h2).symm.trans hf
      refine v_iconst (0 : Int32) G dX2_isWith_22 (by decide) ?_
      obtain rfl := Option.some.inj hf
      exact v_zret G (Or.inl rfl) dX2_isWith_23
    · replace hf := (if_pos h2).symm.trans hf
      refine v_sub _ [] rfl ?_
      exact hj18 hf
abbrev cX2_leftOf : ByteArray := prog_4_method_25_code
def yX2_leftOf : MethodName := ⟨RX2, "leftOf", "(I)I"⟩
theorem dX2_leftOf_0 : dc cX2_leftOf 0 (.aload_n 0) 1 1 := ⟨by decide +kernel, rfl⟩
theorem dX2_leftOf_1 : dc cX2_leftOf 1 (.getfield 31) 3 4 := ⟨by decide +kernel, rfl⟩
theorem dX2_leftOf_4 : dc cX2_leftOf 4 (.iload_n 1) 1 5 := ⟨by decide +kernel, rfl⟩
theorem dX2_leftOf_5 : dc cX2_leftOf 5 (.aaload) 1 6 := ⟨by decide +kernel, rfl⟩
theorem dX2_leftOf_6 : dc cX2_leftOf 6 (.getfield 172) 3 9 := ⟨by decide +kernel, rfl⟩
theorem dX2_leftOf_9 : dc cX2_leftOf 9 (.istore_n 2) 1 10 := ⟨by decide +kernel, rfl⟩
theorem dX2_leftOf_10 : dc cX2_leftOf 10 (.aload_n 0) 1 11 := ⟨by decide +kernel, rfl⟩
theorem dX2_leftOf_11 : dc cX2_leftOf 11 (.iload_n 2) 1 12 := ⟨by decide +kernel, rfl⟩
theorem dX2_leftOf_12 : dc cX2_leftOf 12 (.invokevirtual 114) 3 15 := ⟨by decide +kernel, rfl⟩
theorem dX2_leftOf_15 : dc cX2_leftOf 15 (.ifCond .eq 15) 3 18 := ⟨by decide +kernel, rfl⟩
theorem dX2_leftOf_18 : dc cX2_leftOf 18 (.aload_n 0) 1 19 := ⟨by decide +kernel, rfl⟩
theorem dX2_leftOf_19 : dc cX2_leftOf 19 (.getfield 31) 3 22 := ⟨by decide +kernel, rfl⟩
theorem dX2_leftOf_22 : dc cX2_leftOf 22 (.iload_n 2) 1 23 := ⟨by decide +kernel, rfl⟩
theorem dX2_leftOf_23 : dc cX2_leftOf 23 (.aaload) 1 24 := ⟨by decide +kernel, rfl⟩
theorem dX2_leftOf_24 : dc cX2_leftOf 24 (.getfield 185) 3 27 := ⟨by decide +kernel, rfl⟩
theorem dX2_leftOf_27 : dc cX2_leftOf 27 (.goto 12) 3 30 := ⟨by decide +kernel, rfl⟩
theorem dX2_leftOf_30 : dc cX2_leftOf 30 (.aload_n 0) 1 31 := ⟨by decide +kernel, rfl⟩
theorem dX2_leftOf_31 : dc cX2_leftOf 31 (.getfield 31) 3 34 := ⟨by decide +kernel, rfl⟩
theorem dX2_leftOf_34 : dc cX2_leftOf 34 (.iload_n 1) 1 35 := ⟨by decide +kernel, rfl⟩
theorem dX2_leftOf_35 : dc cX2_leftOf 35 (.aaload) 1 36 := ⟨by decide +kernel, rfl⟩
theorem dX2_leftOf_36 : dc cX2_leftOf 36 (.getfield 185) 3 39 := ⟨by decide +kernel, rfl⟩
theorem dX2_leftOf_39 : dc cX2_leftOf 39 (.ireturn) 1 40 := ⟨by decide +kernel, rfl⟩
theorem nm_X2_leftOf : (yX2_leftOf).cls ≠ "java/lang/invoke/MethodHandle" ∧ (yX2_leftOf).cls ≠ "java/lang/invoke/VarHandle" ∧ (parseMethodDescriptor (yX2_leftOf).desc).map (fun d => d.parameters.length) = some 1 := ⟨by decide +kernel, by decide +kernel, by decide +kernel⟩
set_option maxRecDepth 100000 in
set_option maxHeartbeats 4000000 in
theorem c_X2_leftOf {l : Launch} {ad : Nat → Nat} {cy : Nat → ClassId} {D : va_G} {z : Nat} (n : Nat) {a0 : Nat} {p1 : Int32} {M : KM} {y : Int32} (h0 : kty a0 = 3) (hf : f_X2_leftOf n a0 p1 M = some y) : KC l ad cy D z yX2_leftOf cX2_leftOf 3 (some .int) 2 [.ref (ad a0), .int p1] M (some (.int y), M) := by
  refine kv_enter (by decide +kernel) (Nat.le_of_ble_eq_true rfl) ?_
  intro x hl hD hz G
  subst hl hD hz
  unfold f_X2_leftOf at hf
  have G : KG ad cy x cX2_leftOf "NoonGuides$Land" 3 (some (some .int)) 2 := G
  show KV ad cy x (some (.int y), M) 0 [(0, .ref (ad a0)), (1, .int p1)] [] M
  refine v_aload_n G dX2_leftOf_0 0 rfl ?_
  refine gf_2_5 G h0 t_371 (Or.inl rfl) dX2_leftOf_1 ?_
  refine v_iload_n G dX2_leftOf_4 1 rfl ?_
  obtain ⟨g1, hf⟩ := gd_e hf
  refine al_Person G (kf_2_6 h0) g1 dX2_leftOf_5 ?_
  refine gf_7_9 G (ke_Person (kf_2_6 h0) (ix_lt g1)) t_331 (Or.inl rfl) dX2_leftOf_6 ?_
  refine v_nmi (fun v2 ev2 => ?_)
  replace hf := lt_e hf ev2
  refine v_istore_n [(2, .int v2), (0, .ref (ad a0)), (1, .int p1)] G dX2_leftOf_9 (by decide) rfl ?_
  refine v_aload_n G dX2_leftOf_10 1 rfl ?_
  refine v_iload_n G dX2_leftOf_11 0 rfl ?_
  obtain ⟨v3, hcv3⟩ : ∃ q, f_X2_hasPerson a0 v2 M = q := ⟨_, rfl⟩
  replace hf := lt_e hf hcv3.symm
  refine v_callV [.int v2] G (c_X2_hasPerson h0 hcv3) h0 (by decide) rfl rfl rfl t_593 t_586 t_587 t_13 t_588 nm_X2_hasPerson (by decide) (by decide) rfl rfl (Nat.le_of_ble_eq_true rfl) dX2_leftOf_12 (kv_ri ?_)
  refine v_if_eq 30 G dX2_leftOf_15 (by decide) (fun h6 => ?_) (fun h6 => ?_)
  · replace hf := (if_pos h6).symm.trans hf
    refine v_aload_n G dX2_leftOf_30 1 rfl ?_
    refine gf_2_5 G h0 t_371 (Or.inl rfl) dX2_leftOf_31 ?_
    refine v_iload_n G dX2_leftOf_34 2 rfl ?_
    obtain ⟨g4, hf⟩ := gd_e hf
    refine al_Person G (kf_2_6 h0) g4 dX2_leftOf_35 ?_
    refine gf_7_10 G (ke_Person (kf_2_6 h0) (ix_lt g4)) t_334 (Or.inl rfl) dX2_leftOf_36 ?_
    obtain rfl := Option.some.inj hf
    exact v_iret G dX2_leftOf_39
  · replace hf := (if_neg h6).symm.trans hf
    refine v_aload_n G dX2_leftOf_18 1 rfl ?_
    refine gf_2_5 G h0 t_371 (Or.inl rfl) dX2_leftOf_19 ?_
    refine v_iload_n G dX2_leftOf_22 0 rfl ?_
    obtain ⟨g5, hf⟩ := gd_e hf
    refine al_Person G (kf_2_6 h0) g5 dX2_leftOf_23 ?_
    refine gf_7_10 G (ke_Person (kf_2_6 h0) (ix_lt g5)) t_334 (Or.inl rfl) dX2_leftOf_24 ?_
    refine v_goto 39 G dX2_leftOf_27 (by decide) ?_
    obtain rfl := Option.some.inj hf
    exact v_iret G dX2_leftOf_39
abbrev cX2_minutesToGoal : ByteArray := prog_4_method_26_code
def yX2_minutesToGoal : MethodName := ⟨RX2, "minutesToGoal", "(I)I"⟩
theorem dX2_minutesToGoal_0 : dc cX2_minutesToGoal 0 (.aload_n 0) 1 1 := ⟨by decide +kernel, rfl⟩
theorem dX2_minutesToGoal_1 : dc cX2_minutesToGoal 1 (.getfield 31) 3 4 := ⟨by decide +kernel, rfl⟩
theorem dX2_minutesToGoal_4 : dc cX2_minutesToGoal 4 (.iload_n 1) 1 5 := ⟨by decide +kernel, rfl⟩
theorem dX2_minutesToGoal_5 : dc cX2_minutesToGoal 5 (.aaload) 1 6 := ⟨by decide +kernel, rfl⟩
theorem dX2_minutesToGoal_6 : dc cX2_minutesToGoal 6 (.getfield 172) 3 9 := ⟨by decide +kernel, rfl⟩
theorem dX2_minutesToGoal_9 : dc cX2_minutesToGoal 9 (.istore_n 2) 1 10 := ⟨by decide +kernel, rfl⟩
theorem dX2_minutesToGoal_10 : dc cX2_minutesToGoal 10 (.aload_n 0) 1 11 := ⟨by decide +kernel, rfl⟩
theorem dX2_minutesToGoal_11 : dc cX2_minutesToGoal 11 (.iload_n 2) 1 12 := ⟨by decide +kernel, rfl⟩
theorem dX2_minutesToGoal_12 : dc cX2_minutesToGoal 12 (.invokevirtual 114) 3 15 := ⟨by decide +kernel, rfl⟩
theorem dX2_minutesToGoal_15 : dc cX2_minutesToGoal 15 (.ifCond .eq 7) 3 18 := ⟨by decide +kernel, rfl⟩
theorem dX2_minutesToGoal_18 : dc cX2_minutesToGoal 18 (.iload_n 2) 1 19 := ⟨by decide +kernel, rfl⟩
theorem dX2_minutesToGoal_19 : dc cX2_minutesToGoal 19 (.goto 4) 3 22 := ⟨by decide +kernel, rfl⟩
theorem dX2_minutesToGoal_22 : dc cX2_minutesToGoal 22 (.iload_n 1) 1 23 := ⟨by decide +kernel, rfl⟩
theorem dX2_minutesToGoal_23 : dc cX2_minutesToGoal 23 (.istore_n 3) 1 24 := ⟨by decide +kernel, rfl⟩
theorem dX2_minutesToGoal_24 : dc cX2_minutesToGoal 24 (.aload_n 0) 1 25 := ⟨by decide +kernel, rfl⟩
theorem dX2_minutesToGoal_25 : dc cX2_minutesToGoal 25 (.getfield 31) 3 28 := ⟨by decide +kernel, rfl⟩
theorem dX2_minutesToGoal_28 : dc cX2_minutesToGoal 28 (.iload_n 3) 1 29 := ⟨by decide +kernel, rfl⟩
theorem dX2_minutesToGoal_29 : dc cX2_minutesToGoal 29 (.aaload) 1 30 := ⟨by decide +kernel, rfl⟩
theorem dX2_minutesToGoal_30 : dc cX2_minutesToGoal 30 (.getfield 188) 3 33 := ⟨by decide +kernel, rfl⟩
theorem dX2_minutesToGoal_33 : dc cX2_minutesToGoal 33 (.istore 4) 2 35 := ⟨by decide +kernel, rfl⟩
theorem dX2_minutesToGoal_35 : dc cX2_minutesToGoal 35 (.aload_n 0) 1 36 := ⟨by decide +kernel, rfl⟩
theorem dX2_minutesToGoal_36 : dc cX2_minutesToGoal 36 (.iload 4) 2 38 := ⟨by decide +kernel, rfl⟩
theorem dX2_minutesToGoal_38 : dc cX2_minutesToGoal 38 (.invokevirtual 158) 3 41 := ⟨by decide +kernel, rfl⟩
theorem dX2_minutesToGoal_41 : dc cX2_minutesToGoal 41 (.ifCond .ne 6) 3 44 := ⟨by decide +kernel, rfl⟩
theorem dX2_minutesToGoal_44 : dc cX2_minutesToGoal 44 (.ldc 191) 2 46 := ⟨by decide +kernel, rfl⟩
theorem dX2_minutesToGoal_46 : dc cX2_minutesToGoal 46 (.ireturn) 1 47 := ⟨by decide +kernel, rfl⟩
theorem dX2_minutesToGoal_47 : dc cX2_minutesToGoal 47 (.aload_n 0) 1 48 := ⟨by decide +kernel, rfl⟩
theorem dX2_minutesToGoal_48 : dc cX2_minutesToGoal 48 (.getfield 38) 3 51 := ⟨by decide +kernel, rfl⟩
theorem dX2_minutesToGoal_51 : dc cX2_minutesToGoal 51 (.aload_n 0) 1 52 := ⟨by decide +kernel, rfl⟩
theorem dX2_minutesToGoal_52 : dc cX2_minutesToGoal 52 (.iload_n 3) 1 53 := ⟨by decide +kernel, rfl⟩
theorem dX2_minutesToGoal_53 : dc cX2_minutesToGoal 53 (.iload 4) 2 55 := ⟨by decide +kernel, rfl⟩
theorem dX2_minutesToGoal_55 : dc cX2_minutesToGoal 55 (.invokevirtual 136) 3 58 := ⟨by decide +kernel, rfl⟩
theorem dX2_minutesToGoal_58 : dc cX2_minutesToGoal 58 (.aload_n 0) 1 59 := ⟨by decide +kernel, rfl⟩
theorem dX2_minutesToGoal_59 : dc cX2_minutesToGoal 59 (.getfield 49) 3 62 := ⟨by decide +kernel, rfl⟩
theorem dX2_minutesToGoal_62 : dc cX2_minutesToGoal 62 (.aload_n 0) 1 63 := ⟨by decide +kernel, rfl⟩
theorem dX2_minutesToGoal_63 : dc cX2_minutesToGoal 63 (.getfield 31) 3 66 := ⟨by decide +kernel, rfl⟩
theorem dX2_minutesToGoal_66 : dc cX2_minutesToGoal 66 (.iload_n 3) 1 67 := ⟨by decide +kernel, rfl⟩
theorem dX2_minutesToGoal_67 : dc cX2_minutesToGoal 67 (.aaload) 1 68 := ⟨by decide +kernel, rfl⟩
theorem dX2_minutesToGoal_68 : dc cX2_minutesToGoal 68 (.getfield 185) 3 71 := ⟨by decide +kernel, rfl⟩
theorem dX2_minutesToGoal_71 : dc cX2_minutesToGoal 71 (.invokevirtual 139) 3 74 := ⟨by decide +kernel, rfl⟩
theorem dX2_minutesToGoal_74 : dc cX2_minutesToGoal 74 (.istore 5) 2 76 := ⟨by decide +kernel, rfl⟩
theorem dX2_minutesToGoal_76 : dc cX2_minutesToGoal 76 (.iload 5) 2 78 := ⟨by decide +kernel, rfl⟩
theorem dX2_minutesToGoal_78 : dc cX2_minutesToGoal 78 (.ldc 191) 2 80 := ⟨by decide +kernel, rfl⟩
theorem dX2_minutesToGoal_80 : dc cX2_minutesToGoal 80 (.if_icmp .lt 8) 3 83 := ⟨by decide +kernel, rfl⟩
theorem dX2_minutesToGoal_83 : dc cX2_minutesToGoal 83 (.ldc 191) 2 85 := ⟨by decide +kernel, rfl⟩
theorem dX2_minutesToGoal_85 : dc cX2_minutesToGoal 85 (.goto 10) 3 88 := ⟨by decide +kernel, rfl⟩
theorem dX2_minutesToGoal_88 : dc cX2_minutesToGoal 88 (.iload 5) 2 90 := ⟨by decide +kernel, rfl⟩
theorem dX2_minutesToGoal_90 : dc cX2_minutesToGoal 90 (.aload_n 0) 1 91 := ⟨by decide +kernel, rfl⟩
theorem dX2_minutesToGoal_91 : dc cX2_minutesToGoal 91 (.getfield 49) 3 94 := ⟨by decide +kernel, rfl⟩
theorem dX2_minutesToGoal_94 : dc cX2_minutesToGoal 94 (.isub) 1 95 := ⟨by decide +kernel, rfl⟩
theorem dX2_minutesToGoal_95 : dc cX2_minutesToGoal 95 (.ireturn) 1 96 := ⟨by decide +kernel, rfl⟩
theorem nm_X2_minutesToGoal : (yX2_minutesToGoal).cls ≠ "java/lang/invoke/MethodHandle" ∧ (yX2_minutesToGoal).cls ≠ "java/lang/invoke/VarHandle" ∧ (parseMethodDescriptor (yX2_minutesToGoal).desc).map (fun d => d.parameters.length) = some 1 := ⟨by decide +kernel, by decide +kernel, by decide +kernel⟩
set_option maxRecDepth 100000 in
set_option maxHeartbeats 4000000 in
theorem c_X2_minutesToGoal {l : Launch} {ad : Nat → Nat} {cy : Nat → ClassId} {D : va_G} {z : Nat} (n : Nat) {a0 : Nat} {p1 : Int32} {M : KM} {y : Int32} (h0 : kty a0 = 3) (hf : f_X2_minutesToGoal n a0 p1 M = some y) : KC l ad cy D z yX2_minutesToGoal cX2_minutesToGoal 6 (some .int) 3 [.ref (ad a0), .int p1] M (some (.int y), M) := by
  refine kv_enter (by decide +kernel) (Nat.le_of_ble_eq_true rfl) ?_
  intro x hl hD hz G
  subst hl hD hz
  unfold f_X2_minutesToGoal at hf
  have G : KG ad cy x cX2_minutesToGoal "NoonGuides$Land" 6 (some (some .int)) 3 := G
  show KV ad cy x (some (.int y), M) 0 [(0, .ref (ad a0)), (1, .int p1)] [] M
  refine v_aload_n G dX2_minutesToGoal_0 0 rfl ?_
  refine gf_2_5 G h0 t_371 (Or.inl rfl) dX2_minutesToGoal_1 ?_
  refine v_iload_n G dX2_minutesToGoal_4 1 rfl ?_
  obtain ⟨g1, hf⟩ := gd_e hf
  refine al_Person G (kf_2_6 h0) g1 dX2_minutesToGoal_5 ?_
  refine gf_7_9 G (ke_Person (kf_2_6 h0) (ix_lt g1)) t_331 (Or.inl rfl) dX2_minutesToGoal_6 ?_
  refine v_nmi (fun v2 ev2 => ?_)
  replace hf := lt_e hf ev2
  refine v_istore_n [(2, .int v2), (0, .ref (ad a0)), (1, .int p1)] G dX2_minutesToGoal_9 (by decide) rfl ?_
  refine v_aload_n G dX2_minutesToGoal_10 1 rfl ?_
  refine v_iload_n G dX2_minutesToGoal_11 0 rfl ?_
  obtain ⟨v3, hcv3⟩ : ∃ q, f_X2_hasPerson a0 v2 M = q := ⟨_, rfl⟩
  replace hf := lt_e hf hcv3.symm
  refine v_callV [.int v2] G (c_X2_hasPerson h0 hcv3) h0 (by decide) rfl rfl rfl t_593 t_586 t_587 t_13 t_588 nm_X2_hasPerson (by decide) (by decide) rfl rfl (Nat.le_of_ble_eq_true rfl) dX2_minutesToGoal_12 (kv_ri ?_)
  obtain ⟨j23, ej23, hf⟩ := lt_j hf
  have hj23 : ∀ (x4 : Int32), j23 x4 = some y → KV ad cy x (some (.int y), M) 23 [(0, .ref (ad a0))] [.int x4] M := by
    intro x4 hf
    rw [ej23] at hf
    refine v_istore_n [(3, .int x4), (0, .ref (ad a0))] G dX2_minutesToGoal_23 (by decide) rfl ?_
    refine v_aload_n G dX2_minutesToGoal_24 1 rfl ?_
    refine gf_2_5 G h0 t_371 (Or.inl rfl) dX2_minutesToGoal_25 ?_
    refine v_iload_n G dX2_minutesToGoal_28 0 rfl ?_
    obtain ⟨g5, hf⟩ := gd_e hf
    refine al_Person G (kf_2_6 h0) g5 dX2_minutesToGoal_29 ?_
    refine gf_7_6 G (ke_Person (kf_2_6 h0) (ix_lt g5)) t_325 (Or.inl rfl) dX2_minutesToGoal_30 ?_
    refine v_nmi (fun v6 ev6 => ?_)
    replace hf := lt_e hf ev6
    refine v_istore [(4, .int v6), (3, .int x4), (0, .ref (ad a0))] G dX2_minutesToGoal_33 (by decide) rfl ?_
    refine v_aload_n G dX2_minutesToGoal_35 2 rfl ?_
    refine v_iload G dX2_minutesToGoal_36 0 rfl ?_
    obtain ⟨v7, hcv7⟩ : ∃ q, f_X2_hasRoad a0 v6 M = q := ⟨_, rfl⟩
    replace hf := lt_e hf hcv7.symm
    refine v_callV [.int v6] G (c_X2_hasRoad h0 hcv7) h0 (by decide) rfl rfl rfl t_631 t_632 t_633 t_13 t_634 nm_X2_hasRoad (by decide) (by decide) rfl rfl (Nat.le_of_ble_eq_true rfl) dX2_minutesToGoal_38 (kv_ri ?_)
    refine v_if_ne 47 G dX2_minutesToGoal_41 (by decide) (fun h12 => ?_) (fun h12 => ?_)
    · replace hf := (if_neg h12).symm.trans hf
      refine v_aload_n G dX2_minutesToGoal_47 2 rfl ?_
      refine gf_2_6 G h0 t_376 (Or.inl rfl) dX2_minutesToGoal_48 ?_
      refine v_aload_n G dX2_minutesToGoal_51 2 rfl ?_
      refine v_iload_n G dX2_minutesToGoal_52 1 rfl ?_
      refine v_iload G dX2_minutesToGoal_53 0 rfl ?_
      obtain ⟨v8, hcv8, hf⟩ := bd_e hf
      refine v_callV [.int x4, .int v6] G (c_X2_paceOf n h0 hcv8) h0 (by decide) rfl rfl rfl t_635 t_636 t_637 t_13 t_638 nm_X2_paceOf (by decide) (by decide) rfl rfl (Nat.le_of_ble_eq_true rfl) dX2_minutesToGoal_55 (kv_ri ?_)
      refine v_aload_n G dX2_minutesToGoal_58 2 rfl ?_
      refine gf_2_11 G h0 t_393 (Or.inl rfl) dX2_minutesToGoal_59 ?_
      refine v_aload_n G dX2_minutesToGoal_62 2 rfl ?_
      refine gf_2_5 G h0 t_371 (Or.inl rfl) dX2_minutesToGoal_63 ?_
      refine v_iload_n G dX2_minutesToGoal_66 1 rfl ?_
      obtain ⟨g9, hf⟩ := gd_e hf
      refine al_Person G (kf_2_6 h0) g9 dX2_minutesToGoal_67 ?_
      refine gf_7_10 G (ke_Person (kf_2_6 h0) (ix_lt g9)) t_334 (Or.inl rfl) dX2_minutesToGoal_68 ?_
      obtain ⟨v10, hcv10, hf⟩ := bd_e hf
      refine v_callV [.int v8, .int (M.1 a0 11), .int (M.1 ((a0 + 6) + 8 + 3 * (x4).toNatClampNeg) 10)] G (c_X1_doneAt n (kf_2_7 h0) hcv10) (kf_2_7 h0) (by decide) rfl rfl rfl t_639 t_640 t_641 t_12 t_642 nm_X1_doneAt (by decide) (by decide) rfl rfl (Nat.le_of_ble_eq_true rfl) dX2_minutesToGoal_71 (kv_ri ?_)
      refine v_istore [(5, .int v10), (4, .int v6), (3, .int x4), (0, .ref (ad a0))] G dX2_minutesToGoal_74 (by decide) rfl ?_
      refine v_iload G dX2_minutesToGoal_76 0 rfl ?_
      refine v_ldc G dX2_minutesToGoal_78 t_660 ?_
      refine v_icmp_lt 88 G dX2_minutesToGoal_80 (by decide) (fun h11 => ?_) (fun h11 => ?_)
      · replace hf := (if_pos h11).symm.trans hf
        refine v_iload G dX2_minutesToGoal_88 0 rfl ?_
        refine v_aload_n G dX2_minutesToGoal_90 3 rfl ?_
        refine gf_2_11 G h0 t_393 (Or.inl rfl) dX2_minutesToGoal_91 ?_
        refine v_isub G dX2_minutesToGoal_94 ?_
        obtain rfl := Option.some.inj hf
        exact v_iret G dX2_minutesToGoal_95
      · replace hf := (if_neg h11).symm.trans hf
        refine v_ldc G dX2_minutesToGoal_83 t_660 ?_
        refine v_goto 95 G dX2_minutesToGoal_85 (by decide) ?_
        obtain rfl := Option.some.inj hf
        exact v_iret G dX2_minutesToGoal_95
    · replace hf := (if_pos h12).symm.trans hf
      refine v_ldc G dX2_minutesToGoal_44 t_660 ?_
      obtain rfl := Option.some.inj hf
      exact v_iret G dX2_minutesToGoal_46
  refine v_if_eq 22 G dX2_minutesToGoal_15 (by decide) (fun h13 => ?_) (fun h13 => ?_)
  · replace hf := (if_pos h13).symm.trans hf
    refine v_iload_n G dX2_minutesToGoal_22 2 rfl ?_
    refine v_sub _ [1] rfl ?_
    exact hj23 p1 hf
  · replace hf := (if_neg h13).symm.trans hf
    refine v_iload_n G dX2_minutesToGoal_18 0 rfl ?_
    refine v_goto 23 G dX2_minutesToGoal_19 (by decide) ?_
    refine v_sub _ [1] rfl ?_
    exact hj23 v2 hf
abbrev cX2_lostOf : ByteArray := prog_4_method_31_code
def yX2_lostOf : MethodName := ⟨RX2, "lostOf", "(IILNoonGuides$Hours;)I"⟩
theorem dX2_lostOf_0 : dc cX2_lostOf 0 (.aload_n 0) 1 1 := ⟨by decide +kernel, rfl⟩
theorem dX2_lostOf_1 : dc cX2_lostOf 1 (.getfield 31) 3 4 := ⟨by decide +kernel, rfl⟩
theorem dX2_lostOf_4 : dc cX2_lostOf 4 (.iload_n 1) 1 5 := ⟨by decide +kernel, rfl⟩
theorem dX2_lostOf_5 : dc cX2_lostOf 5 (.aaload) 1 6 := ⟨by decide +kernel, rfl⟩
theorem dX2_lostOf_6 : dc cX2_lostOf 6 (.getfield 188) 3 9 := ⟨by decide +kernel, rfl⟩
theorem dX2_lostOf_9 : dc cX2_lostOf 9 (.istore 4) 2 11 := ⟨by decide +kernel, rfl⟩
theorem dX2_lostOf_11 : dc cX2_lostOf 11 (.aload_n 0) 1 12 := ⟨by decide +kernel, rfl⟩
theorem dX2_lostOf_12 : dc cX2_lostOf 12 (.iload 4) 2 14 := ⟨by decide +kernel, rfl⟩
theorem dX2_lostOf_14 : dc cX2_lostOf 14 (.invokevirtual 158) 3 17 := ⟨by decide +kernel, rfl⟩
theorem dX2_lostOf_17 : dc cX2_lostOf 17 (.ifCond .ne 5) 3 20 := ⟨by decide +kernel, rfl⟩
theorem dX2_lostOf_20 : dc cX2_lostOf 20 (.iconst 0) 1 21 := ⟨by decide +kernel, rfl⟩
theorem dX2_lostOf_21 : dc cX2_lostOf 21 (.ireturn) 1 22 := ⟨by decide +kernel, rfl⟩
theorem dX2_lostOf_22 : dc cX2_lostOf 22 (.aload_n 0) 1 23 := ⟨by decide +kernel, rfl⟩
theorem dX2_lostOf_23 : dc cX2_lostOf 23 (.iload_n 1) 1 24 := ⟨by decide +kernel, rfl⟩
theorem dX2_lostOf_24 : dc cX2_lostOf 24 (.iload 4) 2 26 := ⟨by decide +kernel, rfl⟩
theorem dX2_lostOf_26 : dc cX2_lostOf 26 (.invokevirtual 136) 3 29 := ⟨by decide +kernel, rfl⟩
theorem dX2_lostOf_29 : dc cX2_lostOf 29 (.istore 5) 2 31 := ⟨by decide +kernel, rfl⟩
theorem dX2_lostOf_31 : dc cX2_lostOf 31 (.aload_n 0) 1 32 := ⟨by decide +kernel, rfl⟩
theorem dX2_lostOf_32 : dc cX2_lostOf 32 (.getfield 31) 3 35 := ⟨by decide +kernel, rfl⟩
theorem dX2_lostOf_35 : dc cX2_lostOf 35 (.iload_n 1) 1 36 := ⟨by decide +kernel, rfl⟩
theorem dX2_lostOf_36 : dc cX2_lostOf 36 (.aaload) 1 37 := ⟨by decide +kernel, rfl⟩
theorem dX2_lostOf_37 : dc cX2_lostOf 37 (.getfield 185) 3 40 := ⟨by decide +kernel, rfl⟩
theorem dX2_lostOf_40 : dc cX2_lostOf 40 (.istore 6) 2 42 := ⟨by decide +kernel, rfl⟩
theorem dX2_lostOf_42 : dc cX2_lostOf 42 (.aload_n 3) 1 43 := ⟨by decide +kernel, rfl⟩
theorem dX2_lostOf_43 : dc cX2_lostOf 43 (.iload 5) 2 45 := ⟨by decide +kernel, rfl⟩
theorem dX2_lostOf_45 : dc cX2_lostOf 45 (.aload_n 0) 1 46 := ⟨by decide +kernel, rfl⟩
theorem dX2_lostOf_46 : dc cX2_lostOf 46 (.getfield 49) 3 49 := ⟨by decide +kernel, rfl⟩
theorem dX2_lostOf_49 : dc cX2_lostOf 49 (.iload 6) 2 51 := ⟨by decide +kernel, rfl⟩
theorem dX2_lostOf_51 : dc cX2_lostOf 51 (.invokevirtual 139) 3 54 := ⟨by decide +kernel, rfl⟩
theorem dX2_lostOf_54 : dc cX2_lostOf 54 (.aload_n 0) 1 55 := ⟨by decide +kernel, rfl⟩
theorem dX2_lostOf_55 : dc cX2_lostOf 55 (.getfield 49) 3 58 := ⟨by decide +kernel, rfl⟩
theorem dX2_lostOf_58 : dc cX2_lostOf 58 (.isub) 1 59 := ⟨by decide +kernel, rfl⟩
theorem dX2_lostOf_59 : dc cX2_lostOf 59 (.istore 7) 2 61 := ⟨by decide +kernel, rfl⟩
theorem dX2_lostOf_61 : dc cX2_lostOf 61 (.iload 7) 2 63 := ⟨by decide +kernel, rfl⟩
theorem dX2_lostOf_63 : dc cX2_lostOf 63 (.iload_n 2) 1 64 := ⟨by decide +kernel, rfl⟩
theorem dX2_lostOf_64 : dc cX2_lostOf 64 (.if_icmp .gt 11) 3 67 := ⟨by decide +kernel, rfl⟩
theorem dX2_lostOf_67 : dc cX2_lostOf 67 (.iload 7) 2 69 := ⟨by decide +kernel, rfl⟩
theorem dX2_lostOf_69 : dc cX2_lostOf 69 (.iload 6) 2 71 := ⟨by decide +kernel, rfl⟩
theorem dX2_lostOf_71 : dc cX2_lostOf 71 (.isub) 1 72 := ⟨by decide +kernel, rfl⟩
theorem dX2_lostOf_72 : dc cX2_lostOf 72 (.goto 16) 3 75 := ⟨by decide +kernel, rfl⟩
theorem dX2_lostOf_75 : dc cX2_lostOf 75 (.iload_n 2) 1 76 := ⟨by decide +kernel, rfl⟩
theorem dX2_lostOf_76 : dc cX2_lostOf 76 (.aload_n 3) 1 77 := ⟨by decide +kernel, rfl⟩
theorem dX2_lostOf_77 : dc cX2_lostOf 77 (.iload 5) 2 79 := ⟨by decide +kernel, rfl⟩
theorem dX2_lostOf_79 : dc cX2_lostOf 79 (.aload_n 0) 1 80 := ⟨by decide +kernel, rfl⟩
theorem dX2_lostOf_80 : dc cX2_lostOf 80 (.getfield 49) 3 83 := ⟨by decide +kernel, rfl⟩
theorem dX2_lostOf_83 : dc cX2_lostOf 83 (.iload_n 2) 1 84 := ⟨by decide +kernel, rfl⟩
theorem dX2_lostOf_84 : dc cX2_lostOf 84 (.invokevirtual 225) 3 87 := ⟨by decide +kernel, rfl⟩
theorem dX2_lostOf_87 : dc cX2_lostOf 87 (.isub) 1 88 := ⟨by decide +kernel, rfl⟩
theorem dX2_lostOf_88 : dc cX2_lostOf 88 (.ireturn) 1 89 := ⟨by decide +kernel, rfl⟩
theorem nm_X2_lostOf : (yX2_lostOf).cls ≠ "java/lang/invoke/MethodHandle" ∧ (yX2_lostOf).cls ≠ "java/lang/invoke/VarHandle" ∧ (parseMethodDescriptor (yX2_lostOf).desc).map (fun d => d.parameters.length) = some 3 := ⟨by decide +kernel, by decide +kernel, by decide +kernel⟩
set_option maxRecDepth 100000 in
set_option maxHeartbeats 4000000 in
theorem c_X2_lostOf {l : Launch} {ad : Nat → Nat} {cy : Nat → ClassId} {D : va_G} {z : Nat} (n : Nat) {a0 : Nat} {p1 : Int32} {p2 : Int32} {a3 : Nat} {M : KM} {y : Int32} (h0 : kty a0 = 3) (h3 : kty a3 = 2) (hf : f_X2_lostOf n a0 p1 p2 a3 M = some y) : KC l ad cy D z yX2_lostOf cX2_lostOf 8 (some .int) 3 [.ref (ad a0), .int p1, .int p2, .ref (ad a3)] M (some (.int y), M) := by
  refine kv_enter (by decide +kernel) (Nat.le_of_ble_eq_true rfl) ?_
  intro x hl hD hz G
  subst hl hD hz
  unfold f_X2_lostOf at hf
  have G : KG ad cy x cX2_lostOf "NoonGuides$Land" 8 (some (some .int)) 3 := G
  show KV ad cy x (some (.int y), M) 0 [(0, .ref (ad a0)), (1, .int p1), (2, .int p2), (3, .ref (ad a3))] [] M
  refine v_aload_n G dX2_lostOf_0 0 rfl ?_
  refine gf_2_5 G h0 t_371 (Or.inl rfl) dX2_lostOf_1 ?_
  refine v_iload_n G dX2_lostOf_4 1 rfl ?_
  obtain ⟨g1, hf⟩ := gd_e hf
  refine al_Person G (kf_2_6 h0) g1 dX2_lostOf_5 ?_
  refine gf_7_6 G (ke_Person (kf_2_6 h0) (ix_lt g1)) t_325 (Or.inl rfl) dX2_lostOf_6 ?_
  refine v_nmi (fun v2 ev2 => ?_)
  replace hf := lt_e hf ev2
  refine v_istore [(4, .int v2), (0, .ref (ad a0)), (1, .int p1), (2, .int p2), (3, .ref (ad a3))] G dX2_lostOf_9 (by decide) rfl ?_
  refine v_aload_n G dX2_lostOf_11 1 rfl ?_
  refine v_iload G dX2_lostOf_12 0 rfl ?_
  obtain ⟨v3, hcv3⟩ : ∃ q, f_X2_hasRoad a0 v2 M = q := ⟨_, rfl⟩
  replace hf := lt_e hf hcv3.symm
  refine v_callV [.int v2] G (c_X2_hasRoad h0 hcv3) h0 (by decide) rfl rfl rfl t_631 t_632 t_633 t_13 t_634 nm_X2_hasRoad (by decide) (by decide) rfl rfl (Nat.le_of_ble_eq_true rfl) dX2_lostOf_14 (kv_ri ?_)
  refine v_if_ne 22 G dX2_lostOf_17 (by decide) (fun h11 => ?_) (fun h11 => ?_)
  · replace hf := (if_neg h11).symm.trans hf
    refine v_aload_n G dX2_lostOf_22 1 rfl ?_
    refine v_iload_n G dX2_lostOf_23 2 rfl ?_
    refine v_iload G dX2_lostOf_24 0 rfl ?_
    obtain ⟨v4, hcv4, hf⟩ := bd_e hf
    refine v_callV [.int p1, .int v2] G (c_X2_paceOf n h0 hcv4) h0 (by decide) rfl rfl rfl t_635 t_636 t_637 t_13 t_638 nm_X2_paceOf (by decide) (by decide) rfl rfl (Nat.le_of_ble_eq_true rfl) dX2_lostOf_26 (kv_ri ?_)
    refine v_istore [(5, .int v4), (4, .int v2), (0, .ref (ad a0)), (1, .int p1), (2, .int p2), (3, .ref (ad a3))] G dX2_lostOf_29 (by decide) rfl ?_
    refine v_aload_n G dX2_lostOf_31 2 rfl ?_
    refine gf_2_5 G h0 t_371 (Or.inl rfl) dX2_lostOf_32 ?_
    refine v_iload_n G dX2_lostOf_35 3 rfl ?_
    obtain ⟨g5, hf⟩ := gd_e hf
    refine al_Person G (kf_2_6 h0) g5 dX2_lostOf_36 ?_
    refine gf_7_10 G (ke_Person (kf_2_6 h0) (ix_lt g5)) t_334 (Or.inl rfl) dX2_lostOf_37 ?_
    refine v_nmi (fun v6 ev6 => ?_)
    replace hf := lt_e hf ev6
    refine v_istore [(6, .int v6), (5, .int v4), (4, .int v2), (0, .ref (ad a0)), (1, .int p1), (2, .int p2), (3, .ref (ad a3))] G dX2_lostOf_40 (by decide) rfl ?_
    refine v_aload_n G dX2_lostOf_42 6 rfl ?_
    refine v_iload G dX2_lostOf_43 1 rfl ?_
    refine v_aload_n G dX2_lostOf_45 3 rfl ?_
    refine gf_2_11 G h0 t_393 (Or.inl rfl) dX2_lostOf_46 ?_
    refine v_iload G dX2_lostOf_49 0 rfl ?_
    obtain ⟨v7, hcv7, hf⟩ := bd_e hf
    refine v_callV [.int v4, .int (M.1 a0 11), .int v6] G (c_X1_doneAt n h3 hcv7) h3 (by decide) rfl rfl rfl t_639 t_640 t_641 t_12 t_642 nm_X1_doneAt (by decide) (by decide) rfl rfl (Nat.le_of_ble_eq_true rfl) dX2_lostOf_51 (kv_ri ?_)
    refine v_aload_n G dX2_lostOf_54 3 rfl ?_
    refine gf_2_11 G h0 t_393 (Or.inl rfl) dX2_lostOf_55 ?_
    refine v_isub G dX2_lostOf_58 ?_
    refine v_nmi (fun v8 ev8 => ?_)
    replace hf := lt_e hf ev8
    refine v_istore [(7, .int v8), (6, .int v6), (5, .int v4), (4, .int v2), (0, .ref (ad a0)), (1, .int p1), (2, .int p2), (3, .ref (ad a3))] G dX2_lostOf_59 (by decide) rfl ?_
    refine v_iload G dX2_lostOf_61 0 rfl ?_
    refine v_iload_n G dX2_lostOf_63 6 rfl ?_
    refine v_icmp_gt 75 G dX2_lostOf_64 (by decide) (fun h10 => ?_) (fun h10 => ?_)
    · replace hf := (if_pos h10).symm.trans hf
      refine v_iload_n G dX2_lostOf_75 6 rfl ?_
      refine v_aload_n G dX2_lostOf_76 7 rfl ?_
      refine v_iload G dX2_lostOf_77 2 rfl ?_
      refine v_aload_n G dX2_lostOf_79 4 rfl ?_
      refine gf_2_11 G h0 t_393 (Or.inl rfl) dX2_lostOf_80 ?_
      refine v_iload_n G dX2_lostOf_83 6 rfl ?_
      obtain ⟨v9, hcv9, hf⟩ := bd_e hf
      refine v_callV [.int v4, .int (M.1 a0 11), .int p2] G (c_X1_movedIn n h3 hcv9) h3 (by decide) rfl rfl rfl t_648 t_649 t_650 t_12 t_651 nm_X1_movedIn (by decide) (by decide) rfl rfl (Nat.le_of_ble_eq_true rfl) dX2_lostOf_84 (kv_ri ?_)
      refine v_isub G dX2_lostOf_87 ?_
      obtain rfl := Option.some.inj hf
      exact v_iret G dX2_lostOf_88
    · replace hf := (if_neg h10).symm.trans hf
      refine v_iload G dX2_lostOf_67 0 rfl ?_
      refine v_iload G dX2_lostOf_69 1 rfl ?_
      refine v_isub G dX2_lostOf_71 ?_
      refine v_goto 88 G dX2_lostOf_72 (by decide) ?_
      obtain rfl := Option.some.inj hf
      exact v_iret G dX2_lostOf_88
  · replace hf := (if_pos h11).symm.trans hf
    refine v_iconst (0 : Int32) G dX2_lostOf_20 (by decide) ?_
    obtain rfl := Option.some.inj hf
    exact v_iret G dX2_lostOf_21
abbrev cX2_addDebt : ByteArray := prog_4_method_30_code
def yX2_addDebt : MethodName := ⟨RX2, "addDebt", "(III)V"⟩
theorem dX2_addDebt_0 : dc cX2_addDebt 0 (.sipush 9999) 3 3 := ⟨by decide +kernel, rfl⟩
theorem dX2_addDebt_3 : dc cX2_addDebt 3 (.aload_n 0) 1 4 := ⟨by decide +kernel, rfl⟩
theorem dX2_addDebt_4 : dc cX2_addDebt 4 (.getfield 31) 3 7 := ⟨by decide +kernel, rfl⟩
theorem dX2_addDebt_7 : dc cX2_addDebt 7 (.iload_n 1) 1 8 := ⟨by decide +kernel, rfl⟩
theorem dX2_addDebt_8 : dc cX2_addDebt 8 (.aaload) 1 9 := ⟨by decide +kernel, rfl⟩
theorem dX2_addDebt_9 : dc cX2_addDebt 9 (.getfield 222) 3 12 := ⟨by decide +kernel, rfl⟩
theorem dX2_addDebt_12 : dc cX2_addDebt 12 (.iload_n 2) 1 13 := ⟨by decide +kernel, rfl⟩
theorem dX2_addDebt_13 : dc cX2_addDebt 13 (.iaload) 1 14 := ⟨by decide +kernel, rfl⟩
theorem dX2_addDebt_14 : dc cX2_addDebt 14 (.iload_n 3) 1 15 := ⟨by decide +kernel, rfl⟩
theorem dX2_addDebt_15 : dc cX2_addDebt 15 (.iadd) 1 16 := ⟨by decide +kernel, rfl⟩
theorem dX2_addDebt_16 : dc cX2_addDebt 16 (.invokestatic 210) 3 19 := ⟨by decide +kernel, rfl⟩
theorem dX2_addDebt_19 : dc cX2_addDebt 19 (.istore 4) 2 21 := ⟨by decide +kernel, rfl⟩
theorem dX2_addDebt_21 : dc cX2_addDebt 21 (.aload_n 0) 1 22 := ⟨by decide +kernel, rfl⟩
theorem dX2_addDebt_22 : dc cX2_addDebt 22 (.getfield 31) 3 25 := ⟨by decide +kernel, rfl⟩
theorem dX2_addDebt_25 : dc cX2_addDebt 25 (.iload_n 1) 1 26 := ⟨by decide +kernel, rfl⟩
theorem dX2_addDebt_26 : dc cX2_addDebt 26 (.aaload) 1 27 := ⟨by decide +kernel, rfl⟩
theorem dX2_addDebt_27 : dc cX2_addDebt 27 (.getfield 222) 3 30 := ⟨by decide +kernel, rfl⟩
theorem dX2_addDebt_30 : dc cX2_addDebt 30 (.iload_n 2) 1 31 := ⟨by decide +kernel, rfl⟩
theorem dX2_addDebt_31 : dc cX2_addDebt 31 (.iload 4) 2 33 := ⟨by decide +kernel, rfl⟩
theorem dX2_addDebt_33 : dc cX2_addDebt 33 (.iastore) 1 34 := ⟨by decide +kernel, rfl⟩
theorem dX2_addDebt_34 : dc cX2_addDebt 34 (.aload_n 0) 1 35 := ⟨by decide +kernel, rfl⟩
theorem dX2_addDebt_35 : dc cX2_addDebt 35 (.getfield 31) 3 38 := ⟨by decide +kernel, rfl⟩
theorem dX2_addDebt_38 : dc cX2_addDebt 38 (.iload_n 2) 1 39 := ⟨by decide +kernel, rfl⟩
theorem dX2_addDebt_39 : dc cX2_addDebt 39 (.aaload) 1 40 := ⟨by decide +kernel, rfl⟩
theorem dX2_addDebt_40 : dc cX2_addDebt 40 (.getfield 222) 3 43 := ⟨by decide +kernel, rfl⟩
theorem dX2_addDebt_43 : dc cX2_addDebt 43 (.iload_n 1) 1 44 := ⟨by decide +kernel, rfl⟩
theorem dX2_addDebt_44 : dc cX2_addDebt 44 (.iload 4) 2 46 := ⟨by decide +kernel, rfl⟩
theorem dX2_addDebt_46 : dc cX2_addDebt 46 (.ineg) 1 47 := ⟨by decide +kernel, rfl⟩
theorem dX2_addDebt_47 : dc cX2_addDebt 47 (.iastore) 1 48 := ⟨by decide +kernel, rfl⟩
theorem dX2_addDebt_48 : dc cX2_addDebt 48 (.return_) 1 49 := ⟨by decide +kernel, rfl⟩
theorem nm_X2_addDebt : (yX2_addDebt).cls ≠ "java/lang/invoke/MethodHandle" ∧ (yX2_addDebt).cls ≠ "java/lang/invoke/VarHandle" ∧ (parseMethodDescriptor (yX2_addDebt).desc).map (fun d => d.parameters.length) = some 3 := ⟨by decide +kernel, by decide +kernel, by decide +kernel⟩
set_option maxRecDepth 100000 in
set_option maxHeartbeats 4000000 in
theorem c_X2_addDebt {l : Launch} {ad : Nat → Nat} {cy : Nat → ClassId} {D : va_G} {z : Nat} (n : Nat) {a0 : Nat} {p1 : Int32} {p2 : Int32} {p3 : Int32} {M : KM} {y : KM} (h0 : kty a0 = 3) (hf : f_X2_addDebt n a0 p1 p2 p3 M = some y) : KC l ad cy D z yX2_addDebt cX2_addDebt 5 none 1 [.ref (ad a0), .int p1, .int p2, .int p3] M (none, y) := by
  refine kv_enter (by decide +kernel) (Nat.le_of_ble_eq_true rfl) ?_
  intro x hl hD hz G
  subst hl hD hz
  unfold f_X2_addDebt at hf
  have G : KG ad cy x cX2_addDebt "NoonGuides$Land" 5 (some none) 1 := G
  show KV ad cy x (none, y) 0 [(0, .ref (ad a0)), (1, .int p1), (2, .int p2), (3, .int p3)] [] M
  refine v_sipush (9999 : Int32) G dX2_addDebt_0 (by decide) ?_
  refine v_aload_n G dX2_addDebt_3 0 rfl ?_
  refine gf_2_5 G h0 t_371 (Or.inl rfl) dX2_addDebt_4 ?_
  refine v_iload_n G dX2_addDebt_7 1 rfl ?_
  obtain ⟨g1, hf⟩ := gd_e hf
  refine al_Person G (kf_2_6 h0) g1 dX2_addDebt_8 ?_
  refine gf_7_1 G (ke_Person (kf_2_6 h0) (ix_lt g1)) t_309 (Or.inl rfl) dX2_addDebt_9 ?_
  refine v_iload_n G dX2_addDebt_12 2 rfl ?_
  obtain ⟨g2, hf⟩ := gd_e hf
  refine al_28 G (kf_7_2 (ke_Person (kf_2_6 h0) (ix_lt g1))) g2 dX2_addDebt_13 ?_
  refine v_iload_n G dX2_addDebt_14 3 rfl ?_
  refine v_iadd G dX2_addDebt_15 ?_
  refine v_mmin G (by decide) t_665 t_666 t_17 t_667 (Nat.le_of_ble_eq_true rfl) dX2_addDebt_16 ?_
  refine v_nmi (fun v3 ev3 => ?_)
  replace hf := lt_e hf ev3
  refine v_istore [(4, .int v3), (0, .ref (ad a0)), (1, .int p1), (2, .int p2), (3, .int p3)] G dX2_addDebt_19 (by decide) rfl ?_
  refine v_aload_n G dX2_addDebt_21 1 rfl ?_
  refine gf_2_5 G h0 t_371 (Or.inl rfl) dX2_addDebt_22 ?_
  refine v_iload_n G dX2_addDebt_25 2 rfl ?_
  obtain ⟨g4, hf⟩ := gd_e hf
  refine al_Person G (kf_2_6 h0) g4 dX2_addDebt_26 ?_
  refine gf_7_1 G (ke_Person (kf_2_6 h0) (ix_lt g4)) t_309 (Or.inl rfl) dX2_addDebt_27 ?_
  refine v_iload_n G dX2_addDebt_30 3 rfl ?_
  refine v_iload G dX2_addDebt_31 0 rfl ?_
  obtain ⟨g5, hf⟩ := gd_e hf
  refine as_28 G (kf_7_2 (ke_Person (kf_2_6 h0) (ix_lt g4))) g5 dX2_addDebt_33 ?_
  refine v_nmM (fun M6 eM6 => ?_)
  replace hf := lt_e hf eM6
  refine v_aload_n G dX2_addDebt_34 1 rfl ?_
  refine gf_2_5 G h0 t_371 (Or.inl rfl) dX2_addDebt_35 ?_
  refine v_iload_n G dX2_addDebt_38 3 rfl ?_
  obtain ⟨g7, hf⟩ := gd_e hf
  refine al_Person G (kf_2_6 h0) g7 dX2_addDebt_39 ?_
  refine gf_7_1 G (ke_Person (kf_2_6 h0) (ix_lt g7)) t_309 (Or.inl rfl) dX2_addDebt_40 ?_
  refine v_iload_n G dX2_addDebt_43 2 rfl ?_
  refine v_iload G dX2_addDebt_44 0 rfl ?_
  refine v_ineg G dX2_addDebt_46 ?_
  obtain ⟨g8, hf⟩ := gd_e hf
  refine as_28 G (kf_7_2 (ke_Person (kf_2_6 h0) (ix_lt g7))) g8 dX2_addDebt_47 ?_
  refine v_nmM (fun M9 eM9 => ?_)
  replace hf := lt_e hf eM9
  obtain rfl := Option.some.inj hf
  exact v_vret G dX2_addDebt_48
abbrev cX2_arrive : ByteArray := prog_4_method_29_code
def yX2_arrive : MethodName := ⟨RX2, "arrive", "(I)I"⟩
theorem dX2_arrive_0 : dc cX2_arrive 0 (.iconst 0) 1 1 := ⟨by decide +kernel, rfl⟩
theorem dX2_arrive_1 : dc cX2_arrive 1 (.istore_n 2) 1 2 := ⟨by decide +kernel, rfl⟩
theorem dX2_arrive_2 : dc cX2_arrive 2 (.aload_n 0) 1 3 := ⟨by decide +kernel, rfl⟩
theorem dX2_arrive_3 : dc cX2_arrive 3 (.getfield 31) 3 6 := ⟨by decide +kernel, rfl⟩
theorem dX2_arrive_6 : dc cX2_arrive 6 (.iload_n 1) 1 7 := ⟨by decide +kernel, rfl⟩
theorem dX2_arrive_7 : dc cX2_arrive 7 (.aaload) 1 8 := ⟨by decide +kernel, rfl⟩
theorem dX2_arrive_8 : dc cX2_arrive 8 (.getfield 188) 3 11 := ⟨by decide +kernel, rfl⟩
theorem dX2_arrive_11 : dc cX2_arrive 11 (.istore_n 3) 1 12 := ⟨by decide +kernel, rfl⟩
theorem dX2_arrive_12 : dc cX2_arrive 12 (.iconst 0) 1 13 := ⟨by decide +kernel, rfl⟩
theorem dX2_arrive_13 : dc cX2_arrive 13 (.istore 4) 2 15 := ⟨by decide +kernel, rfl⟩
theorem dX2_arrive_15 : dc cX2_arrive 15 (.iload 4) 2 17 := ⟨by decide +kernel, rfl⟩
theorem dX2_arrive_17 : dc cX2_arrive 17 (.aload_n 0) 1 18 := ⟨by decide +kernel, rfl⟩
theorem dX2_arrive_18 : dc cX2_arrive 18 (.getfield 69) 3 21 := ⟨by decide +kernel, rfl⟩
theorem dX2_arrive_21 : dc cX2_arrive 21 (.if_icmp .ge 104) 3 24 := ⟨by decide +kernel, rfl⟩
theorem dX2_arrive_24 : dc cX2_arrive 24 (.aload_n 0) 1 25 := ⟨by decide +kernel, rfl⟩
theorem dX2_arrive_25 : dc cX2_arrive 25 (.iload_n 3) 1 26 := ⟨by decide +kernel, rfl⟩
theorem dX2_arrive_26 : dc cX2_arrive 26 (.invokevirtual 158) 3 29 := ⟨by decide +kernel, rfl⟩
theorem dX2_arrive_29 : dc cX2_arrive 29 (.ifCond .eq 96) 3 32 := ⟨by decide +kernel, rfl⟩
theorem dX2_arrive_32 : dc cX2_arrive 32 (.aload_n 0) 1 33 := ⟨by decide +kernel, rfl⟩
theorem dX2_arrive_33 : dc cX2_arrive 33 (.iload 4) 2 35 := ⟨by decide +kernel, rfl⟩
theorem dX2_arrive_35 : dc cX2_arrive 35 (.iload_n 1) 1 36 := ⟨by decide +kernel, rfl⟩
theorem dX2_arrive_36 : dc cX2_arrive 36 (.invokevirtual 175) 3 39 := ⟨by decide +kernel, rfl⟩
theorem dX2_arrive_39 : dc cX2_arrive 39 (.ifCond .eq 80) 3 42 := ⟨by decide +kernel, rfl⟩
theorem dX2_arrive_42 : dc cX2_arrive 42 (.aload_n 0) 1 43 := ⟨by decide +kernel, rfl⟩
theorem dX2_arrive_43 : dc cX2_arrive 43 (.getfield 31) 3 46 := ⟨by decide +kernel, rfl⟩
theorem dX2_arrive_46 : dc cX2_arrive 46 (.iload 4) 2 48 := ⟨by decide +kernel, rfl⟩
theorem dX2_arrive_48 : dc cX2_arrive 48 (.aaload) 1 49 := ⟨by decide +kernel, rfl⟩
theorem dX2_arrive_49 : dc cX2_arrive 49 (.getfield 133) 3 52 := ⟨by decide +kernel, rfl⟩
theorem dX2_arrive_52 : dc cX2_arrive 52 (.iload_n 3) 1 53 := ⟨by decide +kernel, rfl⟩
theorem dX2_arrive_53 : dc cX2_arrive 53 (.bipush 99) 2 55 := ⟨by decide +kernel, rfl⟩
theorem dX2_arrive_55 : dc cX2_arrive 55 (.aload_n 0) 1 56 := ⟨by decide +kernel, rfl⟩
theorem dX2_arrive_56 : dc cX2_arrive 56 (.getfield 31) 3 59 := ⟨by decide +kernel, rfl⟩
theorem dX2_arrive_59 : dc cX2_arrive 59 (.iload 4) 2 61 := ⟨by decide +kernel, rfl⟩
theorem dX2_arrive_61 : dc cX2_arrive 61 (.aaload) 1 62 := ⟨by decide +kernel, rfl⟩
theorem dX2_arrive_62 : dc cX2_arrive 62 (.getfield 133) 3 65 := ⟨by decide +kernel, rfl⟩
theorem dX2_arrive_65 : dc cX2_arrive 65 (.iload_n 3) 1 66 := ⟨by decide +kernel, rfl⟩
theorem dX2_arrive_66 : dc cX2_arrive 66 (.iaload) 1 67 := ⟨by decide +kernel, rfl⟩
theorem dX2_arrive_67 : dc cX2_arrive 67 (.iconst 1) 1 68 := ⟨by decide +kernel, rfl⟩
theorem dX2_arrive_68 : dc cX2_arrive 68 (.iadd) 1 69 := ⟨by decide +kernel, rfl⟩
theorem dX2_arrive_69 : dc cX2_arrive 69 (.invokestatic 210) 3 72 := ⟨by decide +kernel, rfl⟩
theorem dX2_arrive_72 : dc cX2_arrive 72 (.iastore) 1 73 := ⟨by decide +kernel, rfl⟩
theorem dX2_arrive_73 : dc cX2_arrive 73 (.iload 4) 2 75 := ⟨by decide +kernel, rfl⟩
theorem dX2_arrive_75 : dc cX2_arrive 75 (.iload_n 1) 1 76 := ⟨by decide +kernel, rfl⟩
theorem dX2_arrive_76 : dc cX2_arrive 76 (.if_icmp .eq 16) 3 79 := ⟨by decide +kernel, rfl⟩
theorem dX2_arrive_79 : dc cX2_arrive 79 (.aload_n 0) 1 80 := ⟨by decide +kernel, rfl⟩
theorem dX2_arrive_80 : dc cX2_arrive 80 (.iload 4) 2 82 := ⟨by decide +kernel, rfl⟩
theorem dX2_arrive_82 : dc cX2_arrive 82 (.iload_n 1) 1 83 := ⟨by decide +kernel, rfl⟩
theorem dX2_arrive_83 : dc cX2_arrive 83 (.aload_n 0) 1 84 := ⟨by decide +kernel, rfl⟩
theorem dX2_arrive_84 : dc cX2_arrive 84 (.getfield 22) 3 87 := ⟨by decide +kernel, rfl⟩
theorem dX2_arrive_87 : dc cX2_arrive 87 (.iload_n 3) 1 88 := ⟨by decide +kernel, rfl⟩
theorem dX2_arrive_88 : dc cX2_arrive 88 (.iaload) 1 89 := ⟨by decide +kernel, rfl⟩
theorem dX2_arrive_89 : dc cX2_arrive 89 (.invokevirtual 215) 3 92 := ⟨by decide +kernel, rfl⟩
theorem dX2_arrive_92 : dc cX2_arrive 92 (.aload_n 0) 1 93 := ⟨by decide +kernel, rfl⟩
theorem dX2_arrive_93 : dc cX2_arrive 93 (.getfield 31) 3 96 := ⟨by decide +kernel, rfl⟩
theorem dX2_arrive_96 : dc cX2_arrive 96 (.iload 4) 2 98 := ⟨by decide +kernel, rfl⟩
theorem dX2_arrive_98 : dc cX2_arrive 98 (.aaload) 1 99 := ⟨by decide +kernel, rfl⟩
theorem dX2_arrive_99 : dc cX2_arrive 99 (.aload_n 0) 1 100 := ⟨by decide +kernel, rfl⟩
theorem dX2_arrive_100 : dc cX2_arrive 100 (.getfield 31) 3 103 := ⟨by decide +kernel, rfl⟩
theorem dX2_arrive_103 : dc cX2_arrive 103 (.iload 4) 2 105 := ⟨by decide +kernel, rfl⟩
theorem dX2_arrive_105 : dc cX2_arrive 105 (.aaload) 1 106 := ⟨by decide +kernel, rfl⟩
theorem dX2_arrive_106 : dc cX2_arrive 106 (.getfield 219) 3 109 := ⟨by decide +kernel, rfl⟩
theorem dX2_arrive_109 : dc cX2_arrive 109 (.invokevirtual 181) 3 112 := ⟨by decide +kernel, rfl⟩
theorem dX2_arrive_112 : dc cX2_arrive 112 (.iload_n 2) 1 113 := ⟨by decide +kernel, rfl⟩
theorem dX2_arrive_113 : dc cX2_arrive 113 (.iconst 1) 1 114 := ⟨by decide +kernel, rfl⟩
theorem dX2_arrive_114 : dc cX2_arrive 114 (.iload 4) 2 116 := ⟨by decide +kernel, rfl⟩
theorem dX2_arrive_116 : dc cX2_arrive 116 (.ishl) 1 117 := ⟨by decide +kernel, rfl⟩
theorem dX2_arrive_117 : dc cX2_arrive 117 (.ior) 1 118 := ⟨by decide +kernel, rfl⟩
theorem dX2_arrive_118 : dc cX2_arrive 118 (.istore_n 2) 1 119 := ⟨by decide +kernel, rfl⟩
theorem dX2_arrive_119 : dc cX2_arrive 119 (.iinc 4 1) 3 122 := ⟨by decide +kernel, rfl⟩
theorem dX2_arrive_122 : dc cX2_arrive 122 (.goto (-107)) 3 125 := ⟨by decide +kernel, rfl⟩
theorem dX2_arrive_125 : dc cX2_arrive 125 (.iload_n 2) 1 126 := ⟨by decide +kernel, rfl⟩
theorem dX2_arrive_126 : dc cX2_arrive 126 (.ireturn) 1 127 := ⟨by decide +kernel, rfl⟩
theorem nm_X2_arrive : (yX2_arrive).cls ≠ "java/lang/invoke/MethodHandle" ∧ (yX2_arrive).cls ≠ "java/lang/invoke/VarHandle" ∧ (parseMethodDescriptor (yX2_arrive).desc).map (fun d => d.parameters.length) = some 1 := ⟨by decide +kernel, by decide +kernel, by decide +kernel⟩
set_option maxRecDepth 100000 in
set_option maxHeartbeats 4000000 in
theorem s_X2_arrive_15 {ad : Nat → Nat} {cy : Nat → ClassId} {x : KX} (G : KG ad cy x cX2_arrive "NoonGuides$Land" 5 (some (some .int)) 2) {a0 : Nat} {c1 : Int32} {c3 : Int32} (h0 : kty a0 = 3) {y : (Int32 × KM)} : ∀ (n : Nat) (w2 : Int32) (w4 : Int32) (M : KM), lp_X2_arrive_15 n a0 c1 c3 w2 w4 M = some y → KV ad cy x (some (.int y.1), y.2) 15 [(0, .ref (ad a0)), (1, .int c1), (2, .int w2), (3, .int c3), (4, .int w4)] [] M := by
  intro n
  induction n with
  | zero =>
    intro w2 w4 M hf
    cases hf
  | succ n ih =>
    intro w2 w4 M hf
    rw [lp_X2_arrive_15] at hf
    refine v_iload G dX2_arrive_15 4 rfl ?_
    refine v_aload_n G dX2_arrive_17 0 rfl ?_
    refine gf_2_10 G h0 t_389 (Or.inl rfl) dX2_arrive_18 ?_
    refine v_icmp_ge 125 G dX2_arrive_21 (by decide) (fun h24 => ?_) (fun h24 => ?_)
    · replace hf := (if_pos h24).symm.trans hf
      refine v_iload_n G dX2_arrive_125 2 rfl ?_
      obtain rfl := Option.some.inj hf
      exact v_iret G dX2_arrive_126
    · replace hf := (if_neg h24).symm.trans hf
      refine v_aload_n G dX2_arrive_24 0 rfl ?_
      refine v_iload_n G dX2_arrive_25 3 rfl ?_
      obtain ⟨v3, hcv3⟩ : ∃ q, f_X2_hasRoad a0 c3 M = q := ⟨_, rfl⟩
      replace hf := lt_e hf hcv3.symm
      refine v_callV [.int c3] G (c_X2_hasRoad h0 hcv3) h0 (by decide) rfl rfl rfl t_631 t_632 t_633 t_13 t_634 nm_X2_hasRoad (by decide) (by decide) rfl rfl (Nat.le_of_ble_eq_true rfl) dX2_arrive_26 (kv_ri ?_)
      refine v_if_eq 125 G dX2_arrive_29 (by decide) (fun h23 => ?_) (fun h23 => ?_)
      · replace hf := (if_pos h23).symm.trans hf
        refine v_iload_n G dX2_arrive_125 2 rfl ?_
        obtain rfl := Option.some.inj hf
        exact v_iret G dX2_arrive_126
      · replace hf := (if_neg h23).symm.trans hf
        refine v_aload_n G dX2_arrive_32 0 rfl ?_
        refine v_iload G dX2_arrive_33 4 rfl ?_
        refine v_iload_n G dX2_arrive_35 1 rfl ?_
        obtain ⟨v4, hcv4, hf⟩ := bd_e hf
        refine v_callV [.int w4, .int c1] G (c_X2_isWith n h0 hcv4) h0 (by decide) rfl rfl rfl t_652 t_654 t_p8 t_13 t_655 nm_X2_isWith (by decide) (by decide) rfl rfl (Nat.le_of_ble_eq_true rfl) dX2_arrive_36 (kv_ri ?_)
        obtain ⟨j119, ej119, hf⟩ := lt_j hf
        have hj119 : ∀ (x5 : Int32) (M6 : KM), j119 x5 M6 = some y → KV ad cy x (some (.int y.1), y.2) 119 [(0, .ref (ad a0)), (1, .int c1), (2, .int x5), (3, .int c3), (4, .int w4)] [] M6 := by
          intro x5 M6 hf
          rw [ej119] at hf
          obtain ⟨v7, ev7⟩ : ∃ q : Int32, q = w4 + (1 : Int32) := ⟨_, rfl⟩
          replace hf := lt_e hf ev7
          refine v_iinc v7 [(4, .int v7), (0, .ref (ad a0)), (1, .int c1), (2, .int x5), (3, .int c3)] G dX2_arrive_119 4 rfl (by rw [ev7]; rfl) (by decide) rfl ?_
          refine v_goto 15 G dX2_arrive_122 (by decide) ?_
          refine v_sub _ [1, 2, 3, 4, 0] rfl ?_
          exact ih x5 v7 M6 hf
        refine v_if_eq 119 G dX2_arrive_39 (by decide) (fun h22 => ?_) (fun h22 => ?_)
        · replace hf := (if_pos h22).symm.trans hf
          refine v_sub _ [0, 1, 2, 3, 4] rfl ?_
          exact hj119 w2 M hf
        · replace hf := (if_neg h22).symm.trans hf
          refine v_aload_n G dX2_arrive_42 0 rfl ?_
          refine gf_2_5 G h0 t_371 (Or.inl rfl) dX2_arrive_43 ?_
          refine v_iload G dX2_arrive_46 4 rfl ?_
          obtain ⟨g8, hf⟩ := gd_e hf
          refine al_Person G (kf_2_6 h0) g8 dX2_arrive_48 ?_
          refine gf_7_0 G (ke_Person (kf_2_6 h0) (ix_lt g8)) t_306 (Or.inl rfl) dX2_arrive_49 ?_
          refine v_iload_n G dX2_arrive_52 3 rfl ?_
          refine v_bipush (99 : Int32) G dX2_arrive_53 (by decide) ?_
          refine v_aload_n G dX2_arrive_55 0 rfl ?_
          refine gf_2_5 G h0 t_371 (Or.inl rfl) dX2_arrive_56 ?_
          refine v_iload G dX2_arrive_59 4 rfl ?_
          obtain ⟨g9, hf⟩ := gd_e hf
          refine al_Person G (kf_2_6 h0) g9 dX2_arrive_61 ?_
          refine gf_7_0 G (ke_Person (kf_2_6 h0) (ix_lt g9)) t_306 (Or.inl rfl) dX2_arrive_62 ?_
          refine v_iload_n G dX2_arrive_65 3 rfl ?_
          obtain ⟨g10, hf⟩ := gd_e hf
          refine al_30 G (kf_7_1 (ke_Person (kf_2_6 h0) (ix_lt g9))) g10 dX2_arrive_66 ?_
          refine v_iconst (1 : Int32) G dX2_arrive_67 (by decide) ?_
          refine v_iadd G dX2_arrive_68 ?_
          refine v_mmin G (by decide) t_665 t_666 t_17 t_667 (Nat.le_of_ble_eq_true rfl) dX2_arrive_69 ?_
          refine v_nmi (fun v11 ev11 => ?_)
          replace hf := lt_e hf ev11
          obtain ⟨g12, hf⟩ := gd_e hf
          refine as_30 G (kf_7_1 (ke_Person (kf_2_6 h0) (ix_lt g8))) g12 dX2_arrive_72 ?_
          refine v_nmM (fun M13 eM13 => ?_)
          replace hf := lt_e hf eM13
          refine v_iload G dX2_arrive_73 4 rfl ?_
          refine v_iload_n G dX2_arrive_75 1 rfl ?_
          obtain ⟨j92, ej92, hf⟩ := lt_j hf
          have hj92 : ∀ (M14 : KM), j92 M14 = some y → KV ad cy x (some (.int y.1), y.2) 92 [(0, .ref (ad a0)), (1, .int c1), (2, .int w2), (3, .int c3), (4, .int w4)] [] M14 := by
            intro M14 hf
            rw [ej92] at hf
            refine v_aload_n G dX2_arrive_92 0 rfl ?_
            refine gf_2_5 G h0 t_371 (Or.inl rfl) dX2_arrive_93 ?_
            refine v_iload G dX2_arrive_96 4 rfl ?_
            obtain ⟨g15, hf⟩ := gd_e hf
            refine al_Person G (kf_2_6 h0) g15 dX2_arrive_98 ?_
            refine v_aload_n G dX2_arrive_99 0 rfl ?_
            refine gf_2_5 G h0 t_371 (Or.inl rfl) dX2_arrive_100 ?_
            refine v_iload G dX2_arrive_103 4 rfl ?_
            obtain ⟨g16, hf⟩ := gd_e hf
            refine al_Person G (kf_2_6 h0) g16 dX2_arrive_105 ?_
            refine gf_7_8 G (ke_Person (kf_2_6 h0) (ix_lt g16)) t_329 (Or.inl rfl) dX2_arrive_106 ?_
            obtain ⟨v17, hcv17⟩ : ∃ q, f_X7_stayAt ((a0 + 6) + 8 + 3 * (w4).toNatClampNeg) (M14.1 ((a0 + 6) + 8 + 3 * (w4).toNatClampNeg) 8) M14 = q := ⟨_, rfl⟩
            replace hf := lt_e hf hcv17.symm
            refine v_callV [.int (M14.1 ((a0 + 6) + 8 + 3 * (w4).toNatClampNeg) 8)] G (c_X7_stayAt (ke_Person (kf_2_6 h0) (ix_lt g15)) hcv17) (ke_Person (kf_2_6 h0) (ix_lt g15)) (by decide) rfl rfl rfl t_672 t_673 t_674 t_15 t_675 nm_X7_stayAt (by decide) (by decide) rfl rfl (Nat.le_of_ble_eq_true rfl) dX2_arrive_109 (kv_rv ?_)
            refine v_iload_n G dX2_arrive_112 2 rfl ?_
            refine v_iconst (1 : Int32) G dX2_arrive_113 (by decide) ?_
            refine v_iload G dX2_arrive_114 4 rfl ?_
            refine v_ishl G dX2_arrive_116 ?_
            refine v_ior G dX2_arrive_117 ?_
            refine v_nmi (fun v18 ev18 => ?_)
            replace hf := lt_e hf ev18
            refine v_istore_n [(2, .int v18), (0, .ref (ad a0)), (1, .int c1), (3, .int c3), (4, .int w4)] G dX2_arrive_118 (by decide) rfl ?_
            refine v_sub _ [1, 2, 0, 3, 4] rfl ?_
            exact hj119 v18 v17 hf
          refine v_icmp_eq 92 G dX2_arrive_76 (by decide) (fun h21 => ?_) (fun h21 => ?_)
          · replace hf := (if_pos h21).symm.trans hf
            refine v_sub _ [0, 1, 2, 3, 4] rfl ?_
            exact hj92 M13 hf
          · replace hf := (if_neg h21).symm.trans hf
            refine v_aload_n G dX2_arrive_79 0 rfl ?_
            refine v_iload G dX2_arrive_80 4 rfl ?_
            refine v_iload_n G dX2_arrive_82 1 rfl ?_
            refine v_aload_n G dX2_arrive_83 0 rfl ?_
            refine gf_2_3 G h0 t_368 (Or.inl rfl) dX2_arrive_84 ?_
            refine v_iload_n G dX2_arrive_87 3 rfl ?_
            obtain ⟨g19, hf⟩ := gd_e hf
            refine al_30 G (kf_2_4 h0) g19 dX2_arrive_88 ?_
            obtain ⟨v20, hcv20, hf⟩ := bd_e hf
            refine v_callV [.int w4, .int c1, .int (M13.1 (a0 + 4) (c3).toNatClampNeg)] G (c_X2_addDebt n h0 hcv20) h0 (by decide) rfl rfl rfl t_668 t_670 t_p10 t_13 t_671 nm_X2_addDebt (by decide) (by decide) rfl rfl (Nat.le_of_ble_eq_true rfl) dX2_arrive_89 (kv_rv ?_)
            refine v_sub _ [0, 1, 2, 3, 4] rfl ?_
            exact hj92 v20 hf
set_option maxRecDepth 100000 in
set_option maxHeartbeats 4000000 in
theorem c_X2_arrive {l : Launch} {ad : Nat → Nat} {cy : Nat → ClassId} {D : va_G} {z : Nat} (n : Nat) {a0 : Nat} {p1 : Int32} {M : KM} {y : (Int32 × KM)} (h0 : kty a0 = 3) (hf : f_X2_arrive n a0 p1 M = some y) : KC l ad cy D z yX2_arrive cX2_arrive 5 (some .int) 2 [.ref (ad a0), .int p1] M (some (.int y.1), y.2) := by
  refine kv_enter (by decide +kernel) (Nat.le_of_ble_eq_true rfl) ?_
  intro x hl hD hz G
  subst hl hD hz
  unfold f_X2_arrive at hf
  have G : KG ad cy x cX2_arrive "NoonGuides$Land" 5 (some (some .int)) 2 := G
  show KV ad cy x (some (.int y.1), y.2) 0 [(0, .ref (ad a0)), (1, .int p1)] [] M
  refine v_iconst (0 : Int32) G dX2_arrive_0 (by decide) ?_
  refine v_istore_n [(2, .int (0 : Int32)), (0, .ref (ad a0)), (1, .int p1)] G dX2_arrive_1 (by decide) rfl ?_
  refine v_aload_n G dX2_arrive_2 1 rfl ?_
  refine gf_2_5 G h0 t_371 (Or.inl rfl) dX2_arrive_3 ?_
  refine v_iload_n G dX2_arrive_6 2 rfl ?_
  obtain ⟨g1, hf⟩ := gd_e hf
  refine al_Person G (kf_2_6 h0) g1 dX2_arrive_7 ?_
  refine gf_7_6 G (ke_Person (kf_2_6 h0) (ix_lt g1)) t_325 (Or.inl rfl) dX2_arrive_8 ?_
  refine v_nmi (fun v2 ev2 => ?_)
  replace hf := lt_e hf ev2
  refine v_istore_n [(3, .int v2), (2, .int (0 : Int32)), (0, .ref (ad a0)), (1, .int p1)] G dX2_arrive_11 (by decide) rfl ?_
  refine v_iconst (0 : Int32) G dX2_arrive_12 (by decide) ?_
  refine v_istore [(4, .int (0 : Int32)), (3, .int v2), (2, .int (0 : Int32)), (0, .ref (ad a0)), (1, .int p1)] G dX2_arrive_13 (by decide) rfl ?_
  refine v_sub _ [3, 4, 2, 1, 0] rfl ?_
  refine s_X2_arrive_15 G h0 n (0 : Int32) (0 : Int32) M hf
abbrev cX2_passWalker : ByteArray := prog_4_method_28_code
def yX2_passWalker : MethodName := ⟨RX2, "passWalker", "(II)I"⟩
theorem dX2_passWalker_0 : dc cX2_passWalker 0 (.aload_n 0) 1 1 := ⟨by decide +kernel, rfl⟩
theorem dX2_passWalker_1 : dc cX2_passWalker 1 (.iload_n 1) 1 2 := ⟨by decide +kernel, rfl⟩
theorem dX2_passWalker_2 : dc cX2_passWalker 2 (.iload_n 2) 1 3 := ⟨by decide +kernel, rfl⟩
theorem dX2_passWalker_3 : dc cX2_passWalker 3 (.aload_n 0) 1 4 := ⟨by decide +kernel, rfl⟩
theorem dX2_passWalker_4 : dc cX2_passWalker 4 (.getfield 38) 3 7 := ⟨by decide +kernel, rfl⟩
theorem dX2_passWalker_7 : dc cX2_passWalker 7 (.invokevirtual 200) 3 10 := ⟨by decide +kernel, rfl⟩
theorem dX2_passWalker_10 : dc cX2_passWalker 10 (.istore_n 3) 1 11 := ⟨by decide +kernel, rfl⟩
theorem dX2_passWalker_11 : dc cX2_passWalker 11 (.iconst 0) 1 12 := ⟨by decide +kernel, rfl⟩
theorem dX2_passWalker_12 : dc cX2_passWalker 12 (.istore 4) 2 14 := ⟨by decide +kernel, rfl⟩
theorem dX2_passWalker_14 : dc cX2_passWalker 14 (.iload 4) 2 16 := ⟨by decide +kernel, rfl⟩
theorem dX2_passWalker_16 : dc cX2_passWalker 16 (.aload_n 0) 1 17 := ⟨by decide +kernel, rfl⟩
theorem dX2_passWalker_17 : dc cX2_passWalker 17 (.getfield 69) 3 20 := ⟨by decide +kernel, rfl⟩
theorem dX2_passWalker_20 : dc cX2_passWalker 20 (.if_icmp .ge 35) 3 23 := ⟨by decide +kernel, rfl⟩
theorem dX2_passWalker_23 : dc cX2_passWalker 23 (.aload_n 0) 1 24 := ⟨by decide +kernel, rfl⟩
theorem dX2_passWalker_24 : dc cX2_passWalker 24 (.iload 4) 2 26 := ⟨by decide +kernel, rfl⟩
theorem dX2_passWalker_26 : dc cX2_passWalker 26 (.iload_n 1) 1 27 := ⟨by decide +kernel, rfl⟩
theorem dX2_passWalker_27 : dc cX2_passWalker 27 (.invokevirtual 175) 3 30 := ⟨by decide +kernel, rfl⟩
theorem dX2_passWalker_30 : dc cX2_passWalker 30 (.ifCond .eq 19) 3 33 := ⟨by decide +kernel, rfl⟩
theorem dX2_passWalker_33 : dc cX2_passWalker 33 (.aload_n 0) 1 34 := ⟨by decide +kernel, rfl⟩
theorem dX2_passWalker_34 : dc cX2_passWalker 34 (.getfield 31) 3 37 := ⟨by decide +kernel, rfl⟩
theorem dX2_passWalker_37 : dc cX2_passWalker 37 (.iload 4) 2 39 := ⟨by decide +kernel, rfl⟩
theorem dX2_passWalker_39 : dc cX2_passWalker 39 (.aaload) 1 40 := ⟨by decide +kernel, rfl⟩
theorem dX2_passWalker_40 : dc cX2_passWalker 40 (.dup) 1 41 := ⟨by decide +kernel, rfl⟩
theorem dX2_passWalker_41 : dc cX2_passWalker 41 (.getfield 121) 3 44 := ⟨by decide +kernel, rfl⟩
theorem dX2_passWalker_44 : dc cX2_passWalker 44 (.iload_n 3) 1 45 := ⟨by decide +kernel, rfl⟩
theorem dX2_passWalker_45 : dc cX2_passWalker 45 (.iadd) 1 46 := ⟨by decide +kernel, rfl⟩
theorem dX2_passWalker_46 : dc cX2_passWalker 46 (.putfield 121) 3 49 := ⟨by decide +kernel, rfl⟩
theorem dX2_passWalker_49 : dc cX2_passWalker 49 (.iinc 4 1) 3 52 := ⟨by decide +kernel, rfl⟩
theorem dX2_passWalker_52 : dc cX2_passWalker 52 (.goto (-38)) 3 55 := ⟨by decide +kernel, rfl⟩
theorem dX2_passWalker_55 : dc cX2_passWalker 55 (.aload_n 0) 1 56 := ⟨by decide +kernel, rfl⟩
theorem dX2_passWalker_56 : dc cX2_passWalker 56 (.iload_n 1) 1 57 := ⟨by decide +kernel, rfl⟩
theorem dX2_passWalker_57 : dc cX2_passWalker 57 (.invokevirtual 204) 3 60 := ⟨by decide +kernel, rfl⟩
theorem dX2_passWalker_60 : dc cX2_passWalker 60 (.iload_n 2) 1 61 := ⟨by decide +kernel, rfl⟩
theorem dX2_passWalker_61 : dc cX2_passWalker 61 (.if_icmp .gt 9) 3 64 := ⟨by decide +kernel, rfl⟩
theorem dX2_passWalker_64 : dc cX2_passWalker 64 (.aload_n 0) 1 65 := ⟨by decide +kernel, rfl⟩
theorem dX2_passWalker_65 : dc cX2_passWalker 65 (.iload_n 1) 1 66 := ⟨by decide +kernel, rfl⟩
theorem dX2_passWalker_66 : dc cX2_passWalker 66 (.invokevirtual 207) 3 69 := ⟨by decide +kernel, rfl⟩
theorem dX2_passWalker_69 : dc cX2_passWalker 69 (.ireturn) 1 70 := ⟨by decide +kernel, rfl⟩
theorem dX2_passWalker_70 : dc cX2_passWalker 70 (.aload_n 0) 1 71 := ⟨by decide +kernel, rfl⟩
theorem dX2_passWalker_71 : dc cX2_passWalker 71 (.getfield 31) 3 74 := ⟨by decide +kernel, rfl⟩
theorem dX2_passWalker_74 : dc cX2_passWalker 74 (.iload_n 1) 1 75 := ⟨by decide +kernel, rfl⟩
theorem dX2_passWalker_75 : dc cX2_passWalker 75 (.aaload) 1 76 := ⟨by decide +kernel, rfl⟩
theorem dX2_passWalker_76 : dc cX2_passWalker 76 (.dup) 1 77 := ⟨by decide +kernel, rfl⟩
theorem dX2_passWalker_77 : dc cX2_passWalker 77 (.getfield 185) 3 80 := ⟨by decide +kernel, rfl⟩
theorem dX2_passWalker_80 : dc cX2_passWalker 80 (.iload_n 2) 1 81 := ⟨by decide +kernel, rfl⟩
theorem dX2_passWalker_81 : dc cX2_passWalker 81 (.iload_n 3) 1 82 := ⟨by decide +kernel, rfl⟩
theorem dX2_passWalker_82 : dc cX2_passWalker 82 (.isub) 1 83 := ⟨by decide +kernel, rfl⟩
theorem dX2_passWalker_83 : dc cX2_passWalker 83 (.isub) 1 84 := ⟨by decide +kernel, rfl⟩
theorem dX2_passWalker_84 : dc cX2_passWalker 84 (.putfield 185) 3 87 := ⟨by decide +kernel, rfl⟩
theorem dX2_passWalker_87 : dc cX2_passWalker 87 (.iconst 0) 1 88 := ⟨by decide +kernel, rfl⟩
theorem dX2_passWalker_88 : dc cX2_passWalker 88 (.ireturn) 1 89 := ⟨by decide +kernel, rfl⟩
theorem nm_X2_passWalker : (yX2_passWalker).cls ≠ "java/lang/invoke/MethodHandle" ∧ (yX2_passWalker).cls ≠ "java/lang/invoke/VarHandle" ∧ (parseMethodDescriptor (yX2_passWalker).desc).map (fun d => d.parameters.length) = some 2 := ⟨by decide +kernel, by decide +kernel, by decide +kernel⟩
set_option maxRecDepth 100000 in
set_option maxHeartbeats 4000000 in
theorem s_X2_passWalker_14 {ad : Nat → Nat} {cy : Nat → ClassId} {x : KX} (G : KG ad cy x cX2_passWalker "NoonGuides$Land" 5 (some (some .int)) 4) {a0 : Nat} {c1 : Int32} {c2 : Int32} {c3 : Int32} (h0 : kty a0 = 3) {k55 : KM → Option (Int32 × KM)} {y : (Int32 × KM)} (hk55 : ∀ (M : KM), k55 M = some y → KV ad cy x (some (.int y.1), y.2) 55 [(0, .ref (ad a0)), (1, .int c1), (2, .int c2), (3, .int c3)] [] M) : ∀ (n : Nat) (w4 : Int32) (M : KM), lp_X2_passWalker_14 n a0 c1 c2 c3 w4 M k55 = some y → KV ad cy x (some (.int y.1), y.2) 14 [(0, .ref (ad a0)), (1, .int c1), (2, .int c2), (3, .int c3), (4, .int w4)] [] M := by
  intro n
  induction n with
  | zero =>
    intro w4 M hf
    cases hf
  | succ n ih =>
    intro w4 M hf
    rw [lp_X2_passWalker_14] at hf
    refine v_iload G dX2_passWalker_14 4 rfl ?_
    refine v_aload_n G dX2_passWalker_16 0 rfl ?_
    refine gf_2_10 G h0 t_389 (Or.inl rfl) dX2_passWalker_17 ?_
    refine v_icmp_ge 55 G dX2_passWalker_20 (by decide) (fun h8 => ?_) (fun h8 => ?_)
    · replace hf := (if_pos h8).symm.trans hf
      refine v_sub _ [0, 1, 2, 3] rfl ?_
      exact hk55 M hf
    · replace hf := (if_neg h8).symm.trans hf
      refine v_aload_n G dX2_passWalker_23 0 rfl ?_
      refine v_iload G dX2_passWalker_24 4 rfl ?_
      refine v_iload_n G dX2_passWalker_26 1 rfl ?_
      obtain ⟨v2, hcv2, hf⟩ := bd_e hf
      refine v_callV [.int w4, .int c1] G (c_X2_isWith n h0 hcv2) h0 (by decide) rfl rfl rfl t_652 t_654 t_p8 t_13 t_655 nm_X2_isWith (by decide) (by decide) rfl rfl (Nat.le_of_ble_eq_true rfl) dX2_passWalker_27 (kv_ri ?_)
      obtain ⟨j49, ej49, hf⟩ := lt_j hf
      have hj49 : ∀ (M3 : KM), j49 M3 = some y → KV ad cy x (some (.int y.1), y.2) 49 [(0, .ref (ad a0)), (1, .int c1), (2, .int c2), (3, .int c3), (4, .int w4)] [] M3 := by
        intro M3 hf
        rw [ej49] at hf
        obtain ⟨v4, ev4⟩ : ∃ q : Int32, q = w4 + (1 : Int32) := ⟨_, rfl⟩
        replace hf := lt_e hf ev4
        refine v_iinc v4 [(4, .int v4), (0, .ref (ad a0)), (1, .int c1), (2, .int c2), (3, .int c3)] G dX2_passWalker_49 4 rfl (by rw [ev4]; rfl) (by decide) rfl ?_
        refine v_goto 14 G dX2_passWalker_52 (by decide) ?_
        refine v_sub _ [1, 2, 3, 4, 0] rfl ?_
        exact ih v4 M3 hf
      refine v_if_eq 49 G dX2_passWalker_30 (by decide) (fun h7 => ?_) (fun h7 => ?_)
      · replace hf := (if_pos h7).symm.trans hf
        refine v_sub _ [0, 1, 2, 3, 4] rfl ?_
        exact hj49 M hf
      · replace hf := (if_neg h7).symm.trans hf
        refine v_aload_n G dX2_passWalker_33 0 rfl ?_
        refine gf_2_5 G h0 t_371 (Or.inl rfl) dX2_passWalker_34 ?_
        refine v_iload G dX2_passWalker_37 4 rfl ?_
        obtain ⟨g5, hf⟩ := gd_e hf
        refine al_Person G (kf_2_6 h0) g5 dX2_passWalker_39 ?_
        refine v_dup G dX2_passWalker_40 rfl ?_
        refine gf_7_11 G (ke_Person (kf_2_6 h0) (ix_lt g5)) t_336 (Or.inl rfl) dX2_passWalker_41 ?_
        refine v_iload_n G dX2_passWalker_44 3 rfl ?_
        refine v_iadd G dX2_passWalker_45 ?_
        refine pf_7_11 G (ke_Person (kf_2_6 h0) (ix_lt g5)) t_336 (Or.inl rfl) dX2_passWalker_46 ?_
        refine v_nmM (fun M6 eM6 => ?_)
        replace hf := lt_e hf eM6
        refine v_sub _ [0, 1, 2, 3, 4] rfl ?_
        exact hj49 M6 hf
set_option maxRecDepth 100000 in
set_option maxHeartbeats 4000000 in
theorem c_X2_passWalker {l : Launch} {ad : Nat → Nat} {cy : Nat → ClassId} {D : va_G} {z : Nat} (n : Nat) {a0 : Nat} {p1 : Int32} {p2 : Int32} {M : KM} {y : (Int32 × KM)} (h0 : kty a0 = 3) (hf : f_X2_passWalker n a0 p1 p2 M = some y) : KC l ad cy D z yX2_passWalker cX2_passWalker 5 (some .int) 4 [.ref (ad a0), .int p1, .int p2] M (some (.int y.1), y.2) := by
  refine kv_enter (by decide +kernel) (Nat.le_of_ble_eq_true rfl) ?_
  intro x hl hD hz G
  subst hl hD hz
  unfold f_X2_passWalker at hf
  have G : KG ad cy x cX2_passWalker "NoonGuides$Land" 5 (some (some .int)) 4 := G
  show KV ad cy x (some (.int y.1), y.2) 0 [(0, .ref (ad a0)), (1, .int p1), (2, .int p2)] [] M
  refine v_aload_n G dX2_passWalker_0 0 rfl ?_
  refine v_iload_n G dX2_passWalker_1 1 rfl ?_
  refine v_iload_n G dX2_passWalker_2 2 rfl ?_
  refine v_aload_n G dX2_passWalker_3 0 rfl ?_
  refine gf_2_6 G h0 t_376 (Or.inl rfl) dX2_passWalker_4 ?_
  obtain ⟨v1, hcv1, hf⟩ := bd_e hf
  refine v_callV [.int p1, .int p2, .ref (ad (a0 + 7))] G (c_X2_lostOf n h0 (kf_2_7 h0) hcv1) h0 (by decide) rfl rfl rfl t_627 t_629 t_p6 t_13 t_630 nm_X2_lostOf (by decide) (by decide) rfl rfl (Nat.le_of_ble_eq_true rfl) dX2_passWalker_7 (kv_ri ?_)
  refine v_istore_n [(3, .int v1), (0, .ref (ad a0)), (1, .int p1), (2, .int p2)] G dX2_passWalker_10 (by decide) rfl ?_
  refine v_iconst (0 : Int32) G dX2_passWalker_11 (by decide) ?_
  refine v_istore [(4, .int (0 : Int32)), (3, .int v1), (0, .ref (ad a0)), (1, .int p1), (2, .int p2)] G dX2_passWalker_12 (by decide) rfl ?_
  refine v_sub _ [2, 3, 4, 1, 0] rfl ?_
  refine s_X2_passWalker_14 G h0 (fun M9 hf => ?_) n (0 : Int32) M hf
  · refine v_aload_n G dX2_passWalker_55 0 rfl ?_
    refine v_iload_n G dX2_passWalker_56 1 rfl ?_
    obtain ⟨v10, hcv10, hf⟩ := bd_e hf
    refine v_callV [.int p1] G (c_X2_minutesToGoal n h0 hcv10) h0 (by decide) rfl rfl rfl t_656 t_657 t_658 t_13 t_659 nm_X2_minutesToGoal (by decide) (by decide) rfl rfl (Nat.le_of_ble_eq_true rfl) dX2_passWalker_57 (kv_ri ?_)
    refine v_iload_n G dX2_passWalker_60 2 rfl ?_
    refine v_icmp_gt 70 G dX2_passWalker_61 (by decide) (fun h14 => ?_) (fun h14 => ?_)
    · replace hf := (if_pos h14).symm.trans hf
      refine v_aload_n G dX2_passWalker_70 0 rfl ?_
      refine gf_2_5 G h0 t_371 (Or.inl rfl) dX2_passWalker_71 ?_
      refine v_iload_n G dX2_passWalker_74 1 rfl ?_
      obtain ⟨g11, hf⟩ := gd_e hf
      refine al_Person G (kf_2_6 h0) g11 dX2_passWalker_75 ?_
      refine v_dup G dX2_passWalker_76 rfl ?_
      refine gf_7_10 G (ke_Person (kf_2_6 h0) (ix_lt g11)) t_334 (Or.inl rfl) dX2_passWalker_77 ?_
      refine v_iload_n G dX2_passWalker_80 2 rfl ?_
      refine v_iload_n G dX2_passWalker_81 3 rfl ?_
      refine v_isub G dX2_passWalker_82 ?_
      refine v_isub G dX2_passWalker_83 ?_
      refine pf_7_10 G (ke_Person (kf_2_6 h0) (ix_lt g11)) t_334 (Or.inl rfl) dX2_passWalker_84 ?_
      refine v_nmM (fun M12 eM12 => ?_)
      replace hf := lt_e hf eM12
      refine v_iconst (0 : Int32) G dX2_passWalker_87 (by decide) ?_
      obtain rfl := Option.some.inj hf
      exact v_iret G dX2_passWalker_88
    · replace hf := (if_neg h14).symm.trans hf
      refine v_aload_n G dX2_passWalker_64 0 rfl ?_
      refine v_iload_n G dX2_passWalker_65 1 rfl ?_
      obtain ⟨v13, hcv13, hf⟩ := bd_e hf
      refine v_callV [.int p1] G (c_X2_arrive n h0 hcv13) h0 (by decide) rfl rfl rfl t_661 t_663 t_p9 t_13 t_664 nm_X2_arrive (by decide) (by decide) rfl rfl (Nat.le_of_ble_eq_true rfl) dX2_passWalker_66 (kv_ri ?_)
      obtain rfl := Option.some.inj hf
      exact v_iret G dX2_passWalker_69
abbrev cX2_passMinutes : ByteArray := prog_4_method_27_code
def yX2_passMinutes : MethodName := ⟨RX2, "passMinutes", "(I)I"⟩
theorem dX2_passMinutes_0 : dc cX2_passMinutes 0 (.aload_n 0) 1 1 := ⟨by decide +kernel, rfl⟩
theorem dX2_passMinutes_1 : dc cX2_passMinutes 1 (.getfield 49) 3 4 := ⟨by decide +kernel, rfl⟩
theorem dX2_passMinutes_4 : dc cX2_passMinutes 4 (.iload_n 1) 1 5 := ⟨by decide +kernel, rfl⟩
theorem dX2_passMinutes_5 : dc cX2_passMinutes 5 (.iadd) 1 6 := ⟨by decide +kernel, rfl⟩
theorem dX2_passMinutes_6 : dc cX2_passMinutes 6 (.ldc 192) 2 8 := ⟨by decide +kernel, rfl⟩
theorem dX2_passMinutes_8 : dc cX2_passMinutes 8 (.if_icmp .le 5) 3 11 := ⟨by decide +kernel, rfl⟩
theorem dX2_passMinutes_11 : dc cX2_passMinutes 11 (.iconst (-1)) 1 12 := ⟨by decide +kernel, rfl⟩
theorem dX2_passMinutes_12 : dc cX2_passMinutes 12 (.ireturn) 1 13 := ⟨by decide +kernel, rfl⟩
theorem dX2_passMinutes_13 : dc cX2_passMinutes 13 (.iconst 0) 1 14 := ⟨by decide +kernel, rfl⟩
theorem dX2_passMinutes_14 : dc cX2_passMinutes 14 (.istore_n 2) 1 15 := ⟨by decide +kernel, rfl⟩
theorem dX2_passMinutes_15 : dc cX2_passMinutes 15 (.iconst 0) 1 16 := ⟨by decide +kernel, rfl⟩
theorem dX2_passMinutes_16 : dc cX2_passMinutes 16 (.istore_n 3) 1 17 := ⟨by decide +kernel, rfl⟩
theorem dX2_passMinutes_17 : dc cX2_passMinutes 17 (.iload_n 3) 1 18 := ⟨by decide +kernel, rfl⟩
theorem dX2_passMinutes_18 : dc cX2_passMinutes 18 (.aload_n 0) 1 19 := ⟨by decide +kernel, rfl⟩
theorem dX2_passMinutes_19 : dc cX2_passMinutes 19 (.getfield 69) 3 22 := ⟨by decide +kernel, rfl⟩
theorem dX2_passMinutes_22 : dc cX2_passMinutes 22 (.if_icmp .ge 30) 3 25 := ⟨by decide +kernel, rfl⟩
theorem dX2_passMinutes_25 : dc cX2_passMinutes 25 (.aload_n 0) 1 26 := ⟨by decide +kernel, rfl⟩
theorem dX2_passMinutes_26 : dc cX2_passMinutes 26 (.getfield 31) 3 29 := ⟨by decide +kernel, rfl⟩
theorem dX2_passMinutes_29 : dc cX2_passMinutes 29 (.iload_n 3) 1 30 := ⟨by decide +kernel, rfl⟩
theorem dX2_passMinutes_30 : dc cX2_passMinutes 30 (.aaload) 1 31 := ⟨by decide +kernel, rfl⟩
theorem dX2_passMinutes_31 : dc cX2_passMinutes 31 (.invokevirtual 193) 3 34 := ⟨by decide +kernel, rfl⟩
theorem dX2_passMinutes_34 : dc cX2_passMinutes 34 (.ifCond .eq 12) 3 37 := ⟨by decide +kernel, rfl⟩
theorem dX2_passMinutes_37 : dc cX2_passMinutes 37 (.iload_n 2) 1 38 := ⟨by decide +kernel, rfl⟩
theorem dX2_passMinutes_38 : dc cX2_passMinutes 38 (.aload_n 0) 1 39 := ⟨by decide +kernel, rfl⟩
theorem dX2_passMinutes_39 : dc cX2_passMinutes 39 (.iload_n 3) 1 40 := ⟨by decide +kernel, rfl⟩
theorem dX2_passMinutes_40 : dc cX2_passMinutes 40 (.iload_n 1) 1 41 := ⟨by decide +kernel, rfl⟩
theorem dX2_passMinutes_41 : dc cX2_passMinutes 41 (.invokevirtual 197) 3 44 := ⟨by decide +kernel, rfl⟩
theorem dX2_passMinutes_44 : dc cX2_passMinutes 44 (.ior) 1 45 := ⟨by decide +kernel, rfl⟩
theorem dX2_passMinutes_45 : dc cX2_passMinutes 45 (.istore_n 2) 1 46 := ⟨by decide +kernel, rfl⟩
theorem dX2_passMinutes_46 : dc cX2_passMinutes 46 (.iinc 3 1) 3 49 := ⟨by decide +kernel, rfl⟩
theorem dX2_passMinutes_49 : dc cX2_passMinutes 49 (.goto (-32)) 3 52 := ⟨by decide +kernel, rfl⟩
theorem dX2_passMinutes_52 : dc cX2_passMinutes 52 (.aload_n 0) 1 53 := ⟨by decide +kernel, rfl⟩
theorem dX2_passMinutes_53 : dc cX2_passMinutes 53 (.dup) 1 54 := ⟨by decide +kernel, rfl⟩
theorem dX2_passMinutes_54 : dc cX2_passMinutes 54 (.getfield 49) 3 57 := ⟨by decide +kernel, rfl⟩
theorem dX2_passMinutes_57 : dc cX2_passMinutes 57 (.iload_n 1) 1 58 := ⟨by decide +kernel, rfl⟩
theorem dX2_passMinutes_58 : dc cX2_passMinutes 58 (.iadd) 1 59 := ⟨by decide +kernel, rfl⟩
theorem dX2_passMinutes_59 : dc cX2_passMinutes 59 (.putfield 49) 3 62 := ⟨by decide +kernel, rfl⟩
theorem dX2_passMinutes_62 : dc cX2_passMinutes 62 (.iload_n 2) 1 63 := ⟨by decide +kernel, rfl⟩
theorem dX2_passMinutes_63 : dc cX2_passMinutes 63 (.ireturn) 1 64 := ⟨by decide +kernel, rfl⟩
theorem nm_X2_passMinutes : (yX2_passMinutes).cls ≠ "java/lang/invoke/MethodHandle" ∧ (yX2_passMinutes).cls ≠ "java/lang/invoke/VarHandle" ∧ (parseMethodDescriptor (yX2_passMinutes).desc).map (fun d => d.parameters.length) = some 1 := ⟨by decide +kernel, by decide +kernel, by decide +kernel⟩
set_option maxRecDepth 100000 in
set_option maxHeartbeats 4000000 in
theorem s_X2_passMinutes_17 {ad : Nat → Nat} {cy : Nat → ClassId} {x : KX} (G : KG ad cy x cX2_passMinutes "NoonGuides$Land" 4 (some (some .int)) 5) {a0 : Nat} {c1 : Int32} (h0 : kty a0 = 3) {k52 : Int32 → KM → Option (Int32 × KM)} {y : (Int32 × KM)} (hk52 : ∀ (u2 : Int32) (M : KM), k52 u2 M = some y → KV ad cy x (some (.int y.1), y.2) 52 [(0, .ref (ad a0)), (1, .int c1), (2, .int u2)] [] M) : ∀ (n : Nat) (w2 : Int32) (w3 : Int32) (M : KM), lp_X2_passMinutes_17 n a0 c1 w2 w3 M k52 = some y → KV ad cy x (some (.int y.1), y.2) 17 [(0, .ref (ad a0)), (1, .int c1), (2, .int w2), (3, .int w3)] [] M := by
  intro n
  induction n with
  | zero =>
    intro w2 w3 M hf
    cases hf
  | succ n ih =>
    intro w2 w3 M hf
    rw [lp_X2_passMinutes_17] at hf
    refine v_iload_n G dX2_passMinutes_17 3 rfl ?_
    refine v_aload_n G dX2_passMinutes_18 0 rfl ?_
    refine gf_2_10 G h0 t_389 (Or.inl rfl) dX2_passMinutes_19 ?_
    refine v_icmp_ge 52 G dX2_passMinutes_22 (by decide) (fun h9 => ?_) (fun h9 => ?_)
    · replace hf := (if_pos h9).symm.trans hf
      refine v_sub _ [0, 1, 2] rfl ?_
      exact hk52 w2 M hf
    · replace hf := (if_neg h9).symm.trans hf
      refine v_aload_n G dX2_passMinutes_25 0 rfl ?_
      refine gf_2_5 G h0 t_371 (Or.inl rfl) dX2_passMinutes_26 ?_
      refine v_iload_n G dX2_passMinutes_29 3 rfl ?_
      obtain ⟨g1, hf⟩ := gd_e hf
      refine al_Person G (kf_2_6 h0) g1 dX2_passMinutes_30 ?_
      obtain ⟨v2, hcv2⟩ : ∃ q, f_X7_isWalker ((a0 + 6) + 8 + 3 * (w3).toNatClampNeg) M = q := ⟨_, rfl⟩
      replace hf := lt_e hf hcv2.symm
      refine v_callV [] G (c_X7_isWalker (ke_Person (kf_2_6 h0) (ix_lt g1)) hcv2) (ke_Person (kf_2_6 h0) (ix_lt g1)) (by decide) rfl rfl rfl t_619 t_620 t_621 t_15 t_622 nm_X7_isWalker (by decide) (by decide) rfl rfl (Nat.le_of_ble_eq_true rfl) dX2_passMinutes_31 (kv_ri ?_)
      obtain ⟨j46, ej46, hf⟩ := lt_j hf
      have hj46 : ∀ (x3 : Int32) (M4 : KM), j46 x3 M4 = some y → KV ad cy x (some (.int y.1), y.2) 46 [(0, .ref (ad a0)), (1, .int c1), (2, .int x3), (3, .int w3)] [] M4 := by
        intro x3 M4 hf
        rw [ej46] at hf
        obtain ⟨v5, ev5⟩ : ∃ q : Int32, q = w3 + (1 : Int32) := ⟨_, rfl⟩
        replace hf := lt_e hf ev5
        refine v_iinc v5 [(3, .int v5), (0, .ref (ad a0)), (1, .int c1), (2, .int x3)] G dX2_passMinutes_46 3 rfl (by rw [ev5]; rfl) (by decide) rfl ?_
        refine v_goto 17 G dX2_passMinutes_49 (by decide) ?_
        refine v_sub _ [1, 2, 3, 0] rfl ?_
        exact ih x3 v5 M4 hf
      refine v_if_eq 46 G dX2_passMinutes_34 (by decide) (fun h8 => ?_) (fun h8 => ?_)
      · replace hf := (if_pos h8).symm.trans hf
        refine v_sub _ [0, 1, 2, 3] rfl ?_
        exact hj46 w2 M hf
      · replace hf := (if_neg h8).symm.trans hf
        refine v_iload_n G dX2_passMinutes_37 2 rfl ?_
        refine v_aload_n G dX2_passMinutes_38 0 rfl ?_
        refine v_iload_n G dX2_passMinutes_39 3 rfl ?_
        refine v_iload_n G dX2_passMinutes_40 1 rfl ?_
        obtain ⟨v6, hcv6, hf⟩ := bd_e hf
        refine v_callV [.int w3, .int c1] G (c_X2_passWalker n h0 hcv6) h0 (by decide) rfl rfl rfl t_623 t_625 t_p5 t_13 t_626 nm_X2_passWalker (by decide) (by decide) rfl rfl (Nat.le_of_ble_eq_true rfl) dX2_passMinutes_41 (kv_ri ?_)
        refine v_ior G dX2_passMinutes_44 ?_
        refine v_nmi (fun v7 ev7 => ?_)
        replace hf := lt_e hf ev7
        refine v_istore_n [(2, .int v7), (0, .ref (ad a0)), (1, .int c1), (3, .int w3)] G dX2_passMinutes_45 (by decide) rfl ?_
        refine v_sub _ [1, 2, 0, 3] rfl ?_
        exact hj46 v7 v6.2 hf
set_option maxRecDepth 100000 in
set_option maxHeartbeats 4000000 in
theorem c_X2_passMinutes {l : Launch} {ad : Nat → Nat} {cy : Nat → ClassId} {D : va_G} {z : Nat} (n : Nat) {a0 : Nat} {p1 : Int32} {M : KM} {y : (Int32 × KM)} (h0 : kty a0 = 3) (hf : f_X2_passMinutes n a0 p1 M = some y) : KC l ad cy D z yX2_passMinutes cX2_passMinutes 4 (some .int) 5 [.ref (ad a0), .int p1] M (some (.int y.1), y.2) := by
  refine kv_enter (by decide +kernel) (Nat.le_of_ble_eq_true rfl) ?_
  intro x hl hD hz G
  subst hl hD hz
  unfold f_X2_passMinutes at hf
  have G : KG ad cy x cX2_passMinutes "NoonGuides$Land" 4 (some (some .int)) 5 := G
  show KV ad cy x (some (.int y.1), y.2) 0 [(0, .ref (ad a0)), (1, .int p1)] [] M
  refine v_aload_n G dX2_passMinutes_0 0 rfl ?_
  refine gf_2_11 G h0 t_393 (Or.inl rfl) dX2_passMinutes_1 ?_
  refine v_iload_n G dX2_passMinutes_4 1 rfl ?_
  refine v_iadd G dX2_passMinutes_5 ?_
  refine v_ldc G dX2_passMinutes_6 t_618 ?_
  refine v_icmp_le 13 G dX2_passMinutes_8 (by decide) (fun h13 => ?_) (fun h13 => ?_)
  · replace hf := (if_pos h13).symm.trans hf
    refine v_iconst (0 : Int32) G dX2_passMinutes_13 (by decide) ?_
    refine v_istore_n [(2, .int (0 : Int32)), (0, .ref (ad a0)), (1, .int p1)] G dX2_passMinutes_14 (by decide) rfl ?_
    refine v_iconst (0 : Int32) G dX2_passMinutes_15 (by decide) ?_
    refine v_istore_n [(3, .int (0 : Int32)), (2, .int (0 : Int32)), (0, .ref (ad a0)), (1, .int p1)] G dX2_passMinutes_16 (by decide) rfl ?_
    refine v_sub _ [2, 3, 1, 0] rfl ?_
    refine s_X2_passMinutes_17 G h0 (fun u10 M11 hf => ?_) n (0 : Int32) (0 : Int32) M hf
    · refine v_aload_n G dX2_passMinutes_52 0 rfl ?_
      refine v_dup G dX2_passMinutes_53 rfl ?_
      refine gf_2_11 G h0 t_393 (Or.inl rfl) dX2_passMinutes_54 ?_
      refine v_iload_n G dX2_passMinutes_57 1 rfl ?_
      refine v_iadd G dX2_passMinutes_58 ?_
      refine pf_2_11 G h0 t_393 (Or.inl rfl) dX2_passMinutes_59 ?_
      refine v_nmM (fun M12 eM12 => ?_)
      replace hf := lt_e hf eM12
      refine v_iload_n G dX2_passMinutes_62 2 rfl ?_
      obtain rfl := Option.some.inj hf
      exact v_iret G dX2_passMinutes_63
  · replace hf := (if_neg h13).symm.trans hf
    refine v_iconst (-1 : Int32) G dX2_passMinutes_11 (by decide) ?_
    obtain rfl := Option.some.inj hf
    exact v_iret G dX2_passMinutes_12
abbrev cX2_lostWithin : ByteArray := prog_4_method_32_code
def yX2_lostWithin : MethodName := ⟨RX2, "lostWithin", "(ILNoonGuides$Hours;)I"⟩
theorem dX2_lostWithin_0 : dc cX2_lostWithin 0 (.iconst 0) 1 1 := ⟨by decide +kernel, rfl⟩
theorem dX2_lostWithin_1 : dc cX2_lostWithin 1 (.istore_n 3) 1 2 := ⟨by decide +kernel, rfl⟩
theorem dX2_lostWithin_2 : dc cX2_lostWithin 2 (.iconst 0) 1 3 := ⟨by decide +kernel, rfl⟩
theorem dX2_lostWithin_3 : dc cX2_lostWithin 3 (.istore 4) 2 5 := ⟨by decide +kernel, rfl⟩
theorem dX2_lostWithin_5 : dc cX2_lostWithin 5 (.iload 4) 2 7 := ⟨by decide +kernel, rfl⟩
theorem dX2_lostWithin_7 : dc cX2_lostWithin 7 (.aload_n 0) 1 8 := ⟨by decide +kernel, rfl⟩
theorem dX2_lostWithin_8 : dc cX2_lostWithin 8 (.getfield 69) 3 11 := ⟨by decide +kernel, rfl⟩
theorem dX2_lostWithin_11 : dc cX2_lostWithin 11 (.if_icmp .ge 46) 3 14 := ⟨by decide +kernel, rfl⟩
theorem dX2_lostWithin_14 : dc cX2_lostWithin 14 (.aload_n 0) 1 15 := ⟨by decide +kernel, rfl⟩
theorem dX2_lostWithin_15 : dc cX2_lostWithin 15 (.getfield 31) 3 18 := ⟨by decide +kernel, rfl⟩
theorem dX2_lostWithin_18 : dc cX2_lostWithin 18 (.iload 4) 2 20 := ⟨by decide +kernel, rfl⟩
theorem dX2_lostWithin_20 : dc cX2_lostWithin 20 (.aaload) 1 21 := ⟨by decide +kernel, rfl⟩
theorem dX2_lostWithin_21 : dc cX2_lostWithin 21 (.getfield 172) 3 24 := ⟨by decide +kernel, rfl⟩
theorem dX2_lostWithin_24 : dc cX2_lostWithin 24 (.istore 5) 2 26 := ⟨by decide +kernel, rfl⟩
theorem dX2_lostWithin_26 : dc cX2_lostWithin 26 (.iload_n 3) 1 27 := ⟨by decide +kernel, rfl⟩
theorem dX2_lostWithin_27 : dc cX2_lostWithin 27 (.aload_n 0) 1 28 := ⟨by decide +kernel, rfl⟩
theorem dX2_lostWithin_28 : dc cX2_lostWithin 28 (.aload_n 0) 1 29 := ⟨by decide +kernel, rfl⟩
theorem dX2_lostWithin_29 : dc cX2_lostWithin 29 (.iload 5) 2 31 := ⟨by decide +kernel, rfl⟩
theorem dX2_lostWithin_31 : dc cX2_lostWithin 31 (.invokevirtual 114) 3 34 := ⟨by decide +kernel, rfl⟩
theorem dX2_lostWithin_34 : dc cX2_lostWithin 34 (.ifCond .eq 8) 3 37 := ⟨by decide +kernel, rfl⟩
theorem dX2_lostWithin_37 : dc cX2_lostWithin 37 (.iload 5) 2 39 := ⟨by decide +kernel, rfl⟩
theorem dX2_lostWithin_39 : dc cX2_lostWithin 39 (.goto 5) 3 42 := ⟨by decide +kernel, rfl⟩
theorem dX2_lostWithin_42 : dc cX2_lostWithin 42 (.iload 4) 2 44 := ⟨by decide +kernel, rfl⟩
theorem dX2_lostWithin_44 : dc cX2_lostWithin 44 (.iload_n 1) 1 45 := ⟨by decide +kernel, rfl⟩
theorem dX2_lostWithin_45 : dc cX2_lostWithin 45 (.aload_n 2) 1 46 := ⟨by decide +kernel, rfl⟩
theorem dX2_lostWithin_46 : dc cX2_lostWithin 46 (.invokevirtual 200) 3 49 := ⟨by decide +kernel, rfl⟩
theorem dX2_lostWithin_49 : dc cX2_lostWithin 49 (.iadd) 1 50 := ⟨by decide +kernel, rfl⟩
theorem dX2_lostWithin_50 : dc cX2_lostWithin 50 (.istore_n 3) 1 51 := ⟨by decide +kernel, rfl⟩
theorem dX2_lostWithin_51 : dc cX2_lostWithin 51 (.iinc 4 1) 3 54 := ⟨by decide +kernel, rfl⟩
theorem dX2_lostWithin_54 : dc cX2_lostWithin 54 (.goto (-49)) 3 57 := ⟨by decide +kernel, rfl⟩
theorem dX2_lostWithin_57 : dc cX2_lostWithin 57 (.iload_n 3) 1 58 := ⟨by decide +kernel, rfl⟩
theorem dX2_lostWithin_58 : dc cX2_lostWithin 58 (.ireturn) 1 59 := ⟨by decide +kernel, rfl⟩
theorem nm_X2_lostWithin : (yX2_lostWithin).cls ≠ "java/lang/invoke/MethodHandle" ∧ (yX2_lostWithin).cls ≠ "java/lang/invoke/VarHandle" ∧ (parseMethodDescriptor (yX2_lostWithin).desc).map (fun d => d.parameters.length) = some 2 := ⟨by decide +kernel, by decide +kernel, by decide +kernel⟩
set_option maxRecDepth 100000 in
set_option maxHeartbeats 4000000 in
theorem s_X2_lostWithin_5 {ad : Nat → Nat} {cy : Nat → ClassId} {x : KX} (G : KG ad cy x cX2_lostWithin "NoonGuides$Land" 6 (some (some .int)) 4) {a0 : Nat} {c1 : Int32} {a2 : Nat} {M : KM} (h0 : kty a0 = 3) (h2 : kty a2 = 2) {y : Int32} : ∀ (n : Nat) (w3 : Int32) (w4 : Int32), lp_X2_lostWithin_5 n a0 c1 a2 M w3 w4 = some y → KV ad cy x (some (.int y), M) 5 [(0, .ref (ad a0)), (1, .int c1), (2, .ref (ad a2)), (3, .int w3), (4, .int w4)] [] M := by
  intro n
  induction n with
  | zero =>
    intro w3 w4 hf
    cases hf
  | succ n ih =>
    intro w3 w4 hf
    rw [lp_X2_lostWithin_5] at hf
    refine v_iload G dX2_lostWithin_5 4 rfl ?_
    refine v_aload_n G dX2_lostWithin_7 0 rfl ?_
    refine gf_2_10 G h0 t_389 (Or.inl rfl) dX2_lostWithin_8 ?_
    refine v_icmp_ge 57 G dX2_lostWithin_11 (by decide) (fun h9 => ?_) (fun h9 => ?_)
    · replace hf := (if_pos h9).symm.trans hf
      refine v_iload_n G dX2_lostWithin_57 3 rfl ?_
      obtain rfl := Option.some.inj hf
      exact v_iret G dX2_lostWithin_58
    · replace hf := (if_neg h9).symm.trans hf
      refine v_aload_n G dX2_lostWithin_14 0 rfl ?_
      refine gf_2_5 G h0 t_371 (Or.inl rfl) dX2_lostWithin_15 ?_
      refine v_iload G dX2_lostWithin_18 4 rfl ?_
      obtain ⟨g1, hf⟩ := gd_e hf
      refine al_Person G (kf_2_6 h0) g1 dX2_lostWithin_20 ?_
      refine gf_7_9 G (ke_Person (kf_2_6 h0) (ix_lt g1)) t_331 (Or.inl rfl) dX2_lostWithin_21 ?_
      refine v_nmi (fun v2 ev2 => ?_)
      replace hf := lt_e hf ev2
      refine v_istore [(5, .int v2), (0, .ref (ad a0)), (1, .int c1), (2, .ref (ad a2)), (3, .int w3), (4, .int w4)] G dX2_lostWithin_24 (by decide) rfl ?_
      refine v_iload_n G dX2_lostWithin_26 4 rfl ?_
      refine v_aload_n G dX2_lostWithin_27 1 rfl ?_
      refine v_aload_n G dX2_lostWithin_28 1 rfl ?_
      refine v_iload G dX2_lostWithin_29 0 rfl ?_
      obtain ⟨v3, hcv3⟩ : ∃ q, f_X2_hasPerson a0 v2 M = q := ⟨_, rfl⟩
      replace hf := lt_e hf hcv3.symm
      refine v_callV [.int v2] G (c_X2_hasPerson h0 hcv3) h0 (by decide) rfl rfl rfl t_593 t_586 t_587 t_13 t_588 nm_X2_hasPerson (by decide) (by decide) rfl rfl (Nat.le_of_ble_eq_true rfl) dX2_lostWithin_31 (kv_ri ?_)
      obtain ⟨j44, ej44, hf⟩ := lt_j hf
      have hj44 : ∀ (x4 : Int32), j44 x4 = some y → KV ad cy x (some (.int y), M) 44 [(0, .ref (ad a0)), (1, .int c1), (2, .ref (ad a2)), (4, .int w4)] [.int x4, .ref (ad a0), .int w3] M := by
        intro x4 hf
        rw [ej44] at hf
        refine v_iload_n G dX2_lostWithin_44 1 rfl ?_
        refine v_aload_n G dX2_lostWithin_45 2 rfl ?_
        obtain ⟨v5, hcv5, hf⟩ := bd_e hf
        refine v_callV [.int x4, .int c1, .ref (ad a2)] G (c_X2_lostOf n h0 h2 hcv5) h0 (by decide) rfl rfl rfl t_627 t_629 t_p6 t_13 t_630 nm_X2_lostOf (by decide) (by decide) rfl rfl (Nat.le_of_ble_eq_true rfl) dX2_lostWithin_46 (kv_ri ?_)
        refine v_iadd G dX2_lostWithin_49 ?_
        refine v_nmi (fun v6 ev6 => ?_)
        replace hf := lt_e hf ev6
        refine v_istore_n [(3, .int v6), (0, .ref (ad a0)), (1, .int c1), (2, .ref (ad a2)), (4, .int w4)] G dX2_lostWithin_50 (by decide) rfl ?_
        obtain ⟨v7, ev7⟩ : ∃ q : Int32, q = w4 + (1 : Int32) := ⟨_, rfl⟩
        replace hf := lt_e hf ev7
        refine v_iinc v7 [(4, .int v7), (3, .int v6), (0, .ref (ad a0)), (1, .int c1), (2, .ref (ad a2))] G dX2_lostWithin_51 4 rfl (by rw [ev7]; rfl) (by decide) rfl ?_
        refine v_goto 5 G dX2_lostWithin_54 (by decide) ?_
        refine v_sub _ [2, 3, 4, 1, 0] rfl ?_
        exact ih v6 v7 hf
      refine v_if_eq 42 G dX2_lostWithin_34 (by decide) (fun h8 => ?_) (fun h8 => ?_)
      · replace hf := (if_pos h8).symm.trans hf
        refine v_iload G dX2_lostWithin_42 5 rfl ?_
        refine v_sub _ [1, 2, 3, 5] rfl ?_
        exact hj44 w4 hf
      · replace hf := (if_neg h8).symm.trans hf
        refine v_iload G dX2_lostWithin_37 0 rfl ?_
        refine v_goto 44 G dX2_lostWithin_39 (by decide) ?_
        refine v_sub _ [1, 2, 3, 5] rfl ?_
        exact hj44 v2 hf
set_option maxRecDepth 100000 in
set_option maxHeartbeats 4000000 in
theorem c_X2_lostWithin {l : Launch} {ad : Nat → Nat} {cy : Nat → ClassId} {D : va_G} {z : Nat} (n : Nat) {a0 : Nat} {p1 : Int32} {a2 : Nat} {M : KM} {y : Int32} (h0 : kty a0 = 3) (h2 : kty a2 = 2) (hf : f_X2_lostWithin n a0 p1 a2 M = some y) : KC l ad cy D z yX2_lostWithin cX2_lostWithin 6 (some .int) 4 [.ref (ad a0), .int p1, .ref (ad a2)] M (some (.int y), M) := by
  refine kv_enter (by decide +kernel) (Nat.le_of_ble_eq_true rfl) ?_
  intro x hl hD hz G
  subst hl hD hz
  unfold f_X2_lostWithin at hf
  have G : KG ad cy x cX2_lostWithin "NoonGuides$Land" 6 (some (some .int)) 4 := G
  show KV ad cy x (some (.int y), M) 0 [(0, .ref (ad a0)), (1, .int p1), (2, .ref (ad a2))] [] M
  refine v_iconst (0 : Int32) G dX2_lostWithin_0 (by decide) ?_
  refine v_istore_n [(3, .int (0 : Int32)), (0, .ref (ad a0)), (1, .int p1), (2, .ref (ad a2))] G dX2_lostWithin_1 (by decide) rfl ?_
  refine v_iconst (0 : Int32) G dX2_lostWithin_2 (by decide) ?_
  refine v_istore [(4, .int (0 : Int32)), (3, .int (0 : Int32)), (0, .ref (ad a0)), (1, .int p1), (2, .ref (ad a2))] G dX2_lostWithin_3 (by decide) rfl ?_
  refine v_sub _ [2, 3, 4, 1, 0] rfl ?_
  refine s_X2_lostWithin_5 G h0 h2 n (0 : Int32) (0 : Int32) hf
abbrev cX2_lostOfAll : ByteArray := prog_4_method_33_code
def yX2_lostOfAll : MethodName := ⟨RX2, "lostOfAll", "()I"⟩
theorem dX2_lostOfAll_0 : dc cX2_lostOfAll 0 (.iconst 0) 1 1 := ⟨by decide +kernel, rfl⟩
theorem dX2_lostOfAll_1 : dc cX2_lostOfAll 1 (.istore_n 1) 1 2 := ⟨by decide +kernel, rfl⟩
theorem dX2_lostOfAll_2 : dc cX2_lostOfAll 2 (.iconst 0) 1 3 := ⟨by decide +kernel, rfl⟩
theorem dX2_lostOfAll_3 : dc cX2_lostOfAll 3 (.istore_n 2) 1 4 := ⟨by decide +kernel, rfl⟩
theorem dX2_lostOfAll_4 : dc cX2_lostOfAll 4 (.iload_n 2) 1 5 := ⟨by decide +kernel, rfl⟩
theorem dX2_lostOfAll_5 : dc cX2_lostOfAll 5 (.aload_n 0) 1 6 := ⟨by decide +kernel, rfl⟩
theorem dX2_lostOfAll_6 : dc cX2_lostOfAll 6 (.getfield 69) 3 9 := ⟨by decide +kernel, rfl⟩
theorem dX2_lostOfAll_9 : dc cX2_lostOfAll 9 (.if_icmp .ge 21) 3 12 := ⟨by decide +kernel, rfl⟩
theorem dX2_lostOfAll_12 : dc cX2_lostOfAll 12 (.iload_n 1) 1 13 := ⟨by decide +kernel, rfl⟩
theorem dX2_lostOfAll_13 : dc cX2_lostOfAll 13 (.aload_n 0) 1 14 := ⟨by decide +kernel, rfl⟩
theorem dX2_lostOfAll_14 : dc cX2_lostOfAll 14 (.getfield 31) 3 17 := ⟨by decide +kernel, rfl⟩
theorem dX2_lostOfAll_17 : dc cX2_lostOfAll 17 (.iload_n 2) 1 18 := ⟨by decide +kernel, rfl⟩
theorem dX2_lostOfAll_18 : dc cX2_lostOfAll 18 (.aaload) 1 19 := ⟨by decide +kernel, rfl⟩
theorem dX2_lostOfAll_19 : dc cX2_lostOfAll 19 (.getfield 121) 3 22 := ⟨by decide +kernel, rfl⟩
theorem dX2_lostOfAll_22 : dc cX2_lostOfAll 22 (.iadd) 1 23 := ⟨by decide +kernel, rfl⟩
theorem dX2_lostOfAll_23 : dc cX2_lostOfAll 23 (.istore_n 1) 1 24 := ⟨by decide +kernel, rfl⟩
theorem dX2_lostOfAll_24 : dc cX2_lostOfAll 24 (.iinc 2 1) 3 27 := ⟨by decide +kernel, rfl⟩
theorem dX2_lostOfAll_27 : dc cX2_lostOfAll 27 (.goto (-23)) 3 30 := ⟨by decide +kernel, rfl⟩
theorem dX2_lostOfAll_30 : dc cX2_lostOfAll 30 (.iload_n 1) 1 31 := ⟨by decide +kernel, rfl⟩
theorem dX2_lostOfAll_31 : dc cX2_lostOfAll 31 (.ireturn) 1 32 := ⟨by decide +kernel, rfl⟩
theorem nm_X2_lostOfAll : (yX2_lostOfAll).cls ≠ "java/lang/invoke/MethodHandle" ∧ (yX2_lostOfAll).cls ≠ "java/lang/invoke/VarHandle" ∧ (parseMethodDescriptor (yX2_lostOfAll).desc).map (fun d => d.parameters.length) = some 0 := ⟨by decide +kernel, by decide +kernel, by decide +kernel⟩
set_option maxRecDepth 100000 in
set_option maxHeartbeats 4000000 in
theorem s_X2_lostOfAll_4 {ad : Nat → Nat} {cy : Nat → ClassId} {x : KX} (G : KG ad cy x cX2_lostOfAll "NoonGuides$Land" 3 (some (some .int)) 1) {a0 : Nat} {M : KM} (h0 : kty a0 = 3) {y : Int32} : ∀ (n : Nat) (w1 : Int32) (w2 : Int32), lp_X2_lostOfAll_4 n a0 M w1 w2 = some y → KV ad cy x (some (.int y), M) 4 [(0, .ref (ad a0)), (1, .int w1), (2, .int w2)] [] M := by
  intro n
  induction n with
  | zero =>
    intro w1 w2 hf
    cases hf
  | succ n ih =>
    intro w1 w2 hf
    rw [lp_X2_lostOfAll_4] at hf
    refine v_iload_n G dX2_lostOfAll_4 2 rfl ?_
    refine v_aload_n G dX2_lostOfAll_5 0 rfl ?_
    refine gf_2_10 G h0 t_389 (Or.inl rfl) dX2_lostOfAll_6 ?_
    refine v_icmp_ge 30 G dX2_lostOfAll_9 (by decide) (fun h4 => ?_) (fun h4 => ?_)
    · replace hf := (if_pos h4).symm.trans hf
      refine v_iload_n G dX2_lostOfAll_30 1 rfl ?_
      obtain rfl := Option.some.inj hf
      exact v_iret G dX2_lostOfAll_31
    · replace hf := (if_neg h4).symm.trans hf
      refine v_iload_n G dX2_lostOfAll_12 1 rfl ?_
      refine v_aload_n G dX2_lostOfAll_13 0 rfl ?_
      refine gf_2_5 G h0 t_371 (Or.inl rfl) dX2_lostOfAll_14 ?_
      refine v_iload_n G dX2_lostOfAll_17 2 rfl ?_
      obtain ⟨g1, hf⟩ := gd_e hf
      refine al_Person G (kf_2_6 h0) g1 dX2_lostOfAll_18 ?_
      refine gf_7_11 G (ke_Person (kf_2_6 h0) (ix_lt g1)) t_336 (Or.inl rfl) dX2_lostOfAll_19 ?_
      refine v_iadd G dX2_lostOfAll_22 ?_
      refine v_nmi (fun v2 ev2 => ?_)
      replace hf := lt_e hf ev2
      refine v_istore_n [(1, .int v2), (0, .ref (ad a0)), (2, .int w2)] G dX2_lostOfAll_23 (by decide) rfl ?_
      obtain ⟨v3, ev3⟩ : ∃ q : Int32, q = w2 + (1 : Int32) := ⟨_, rfl⟩
      replace hf := lt_e hf ev3
      refine v_iinc v3 [(2, .int v3), (1, .int v2), (0, .ref (ad a0))] G dX2_lostOfAll_24 2 rfl (by rw [ev3]; rfl) (by decide) rfl ?_
      refine v_goto 4 G dX2_lostOfAll_27 (by decide) ?_
      refine v_sub _ [2, 1, 0] rfl ?_
      exact ih v2 v3 hf
set_option maxRecDepth 100000 in
set_option maxHeartbeats 4000000 in
theorem c_X2_lostOfAll {l : Launch} {ad : Nat → Nat} {cy : Nat → ClassId} {D : va_G} {z : Nat} (n : Nat) {a0 : Nat} {M : KM} {y : Int32} (h0 : kty a0 = 3) (hf : f_X2_lostOfAll n a0 M = some y) : KC l ad cy D z yX2_lostOfAll cX2_lostOfAll 3 (some .int) 1 [.ref (ad a0)] M (some (.int y), M) := by
  refine kv_enter (by decide +kernel) (Nat.le_of_ble_eq_true rfl) ?_
  intro x hl hD hz G
  subst hl hD hz
  unfold f_X2_lostOfAll at hf
  have G : KG ad cy x cX2_lostOfAll "NoonGuides$Land" 3 (some (some .int)) 1 := G
  show KV ad cy x (some (.int y), M) 0 [(0, .ref (ad a0))] [] M
  refine v_iconst (0 : Int32) G dX2_lostOfAll_0 (by decide) ?_
  refine v_istore_n [(1, .int (0 : Int32)), (0, .ref (ad a0))] G dX2_lostOfAll_1 (by decide) rfl ?_
  refine v_iconst (0 : Int32) G dX2_lostOfAll_2 (by decide) ?_
  refine v_istore_n [(2, .int (0 : Int32)), (1, .int (0 : Int32)), (0, .ref (ad a0))] G dX2_lostOfAll_3 (by decide) rfl ?_
  refine v_sub _ [2, 1, 0] rfl ?_
  refine s_X2_lostOfAll_4 G h0 n (0 : Int32) (0 : Int32) hf
abbrev cX2_owedTo : ByteArray := prog_4_method_34_code
def yX2_owedTo : MethodName := ⟨RX2, "owedTo", "(I)I"⟩
theorem dX2_owedTo_0 : dc cX2_owedTo 0 (.iconst 0) 1 1 := ⟨by decide +kernel, rfl⟩
theorem dX2_owedTo_1 : dc cX2_owedTo 1 (.istore_n 2) 1 2 := ⟨by decide +kernel, rfl⟩
theorem dX2_owedTo_2 : dc cX2_owedTo 2 (.iconst 0) 1 3 := ⟨by decide +kernel, rfl⟩
theorem dX2_owedTo_3 : dc cX2_owedTo 3 (.istore_n 3) 1 4 := ⟨by decide +kernel, rfl⟩
theorem dX2_owedTo_4 : dc cX2_owedTo 4 (.iload_n 3) 1 5 := ⟨by decide +kernel, rfl⟩
theorem dX2_owedTo_5 : dc cX2_owedTo 5 (.aload_n 0) 1 6 := ⟨by decide +kernel, rfl⟩
theorem dX2_owedTo_6 : dc cX2_owedTo 6 (.getfield 69) 3 9 := ⟨by decide +kernel, rfl⟩
theorem dX2_owedTo_9 : dc cX2_owedTo 9 (.if_icmp .ge 23) 3 12 := ⟨by decide +kernel, rfl⟩
theorem dX2_owedTo_12 : dc cX2_owedTo 12 (.iload_n 2) 1 13 := ⟨by decide +kernel, rfl⟩
theorem dX2_owedTo_13 : dc cX2_owedTo 13 (.aload_n 0) 1 14 := ⟨by decide +kernel, rfl⟩
theorem dX2_owedTo_14 : dc cX2_owedTo 14 (.getfield 31) 3 17 := ⟨by decide +kernel, rfl⟩
theorem dX2_owedTo_17 : dc cX2_owedTo 17 (.iload_n 3) 1 18 := ⟨by decide +kernel, rfl⟩
theorem dX2_owedTo_18 : dc cX2_owedTo 18 (.aaload) 1 19 := ⟨by decide +kernel, rfl⟩
theorem dX2_owedTo_19 : dc cX2_owedTo 19 (.getfield 222) 3 22 := ⟨by decide +kernel, rfl⟩
theorem dX2_owedTo_22 : dc cX2_owedTo 22 (.iload_n 1) 1 23 := ⟨by decide +kernel, rfl⟩
theorem dX2_owedTo_23 : dc cX2_owedTo 23 (.iaload) 1 24 := ⟨by decide +kernel, rfl⟩
theorem dX2_owedTo_24 : dc cX2_owedTo 24 (.iadd) 1 25 := ⟨by decide +kernel, rfl⟩
theorem dX2_owedTo_25 : dc cX2_owedTo 25 (.istore_n 2) 1 26 := ⟨by decide +kernel, rfl⟩
theorem dX2_owedTo_26 : dc cX2_owedTo 26 (.iinc 3 1) 3 29 := ⟨by decide +kernel, rfl⟩
theorem dX2_owedTo_29 : dc cX2_owedTo 29 (.goto (-25)) 3 32 := ⟨by decide +kernel, rfl⟩
theorem dX2_owedTo_32 : dc cX2_owedTo 32 (.iload_n 2) 1 33 := ⟨by decide +kernel, rfl⟩
theorem dX2_owedTo_33 : dc cX2_owedTo 33 (.ireturn) 1 34 := ⟨by decide +kernel, rfl⟩
theorem nm_X2_owedTo : (yX2_owedTo).cls ≠ "java/lang/invoke/MethodHandle" ∧ (yX2_owedTo).cls ≠ "java/lang/invoke/VarHandle" ∧ (parseMethodDescriptor (yX2_owedTo).desc).map (fun d => d.parameters.length) = some 1 := ⟨by decide +kernel, by decide +kernel, by decide +kernel⟩
set_option maxRecDepth 100000 in
set_option maxHeartbeats 4000000 in
theorem s_X2_owedTo_4 {ad : Nat → Nat} {cy : Nat → ClassId} {x : KX} (G : KG ad cy x cX2_owedTo "NoonGuides$Land" 4 (some (some .int)) 1) {a0 : Nat} {c1 : Int32} {M : KM} (h0 : kty a0 = 3) {y : Int32} : ∀ (n : Nat) (w2 : Int32) (w3 : Int32), lp_X2_owedTo_4 n a0 c1 M w2 w3 = some y → KV ad cy x (some (.int y), M) 4 [(0, .ref (ad a0)), (1, .int c1), (2, .int w2), (3, .int w3)] [] M := by
  intro n
  induction n with
  | zero =>
    intro w2 w3 hf
    cases hf
  | succ n ih =>
    intro w2 w3 hf
    rw [lp_X2_owedTo_4] at hf
    refine v_iload_n G dX2_owedTo_4 3 rfl ?_
    refine v_aload_n G dX2_owedTo_5 0 rfl ?_
    refine gf_2_10 G h0 t_389 (Or.inl rfl) dX2_owedTo_6 ?_
    refine v_icmp_ge 32 G dX2_owedTo_9 (by decide) (fun h5 => ?_) (fun h5 => ?_)
    · replace hf := (if_pos h5).symm.trans hf
      refine v_iload_n G dX2_owedTo_32 2 rfl ?_
      obtain rfl := Option.some.inj hf
      exact v_iret G dX2_owedTo_33
    · replace hf := (if_neg h5).symm.trans hf
      refine v_iload_n G dX2_owedTo_12 2 rfl ?_
      refine v_aload_n G dX2_owedTo_13 0 rfl ?_
      refine gf_2_5 G h0 t_371 (Or.inl rfl) dX2_owedTo_14 ?_
      refine v_iload_n G dX2_owedTo_17 3 rfl ?_
      obtain ⟨g1, hf⟩ := gd_e hf
      refine al_Person G (kf_2_6 h0) g1 dX2_owedTo_18 ?_
      refine gf_7_1 G (ke_Person (kf_2_6 h0) (ix_lt g1)) t_309 (Or.inl rfl) dX2_owedTo_19 ?_
      refine v_iload_n G dX2_owedTo_22 1 rfl ?_
      obtain ⟨g2, hf⟩ := gd_e hf
      refine al_28 G (kf_7_2 (ke_Person (kf_2_6 h0) (ix_lt g1))) g2 dX2_owedTo_23 ?_
      refine v_iadd G dX2_owedTo_24 ?_
      refine v_nmi (fun v3 ev3 => ?_)
      replace hf := lt_e hf ev3
      refine v_istore_n [(2, .int v3), (0, .ref (ad a0)), (1, .int c1), (3, .int w3)] G dX2_owedTo_25 (by decide) rfl ?_
      obtain ⟨v4, ev4⟩ : ∃ q : Int32, q = w3 + (1 : Int32) := ⟨_, rfl⟩
      replace hf := lt_e hf ev4
      refine v_iinc v4 [(3, .int v4), (2, .int v3), (0, .ref (ad a0)), (1, .int c1)] G dX2_owedTo_26 3 rfl (by rw [ev4]; rfl) (by decide) rfl ?_
      refine v_goto 4 G dX2_owedTo_29 (by decide) ?_
      refine v_sub _ [2, 3, 1, 0] rfl ?_
      exact ih v3 v4 hf
set_option maxRecDepth 100000 in
set_option maxHeartbeats 4000000 in
theorem c_X2_owedTo {l : Launch} {ad : Nat → Nat} {cy : Nat → ClassId} {D : va_G} {z : Nat} (n : Nat) {a0 : Nat} {p1 : Int32} {M : KM} {y : Int32} (h0 : kty a0 = 3) (hf : f_X2_owedTo n a0 p1 M = some y) : KC l ad cy D z yX2_owedTo cX2_owedTo 4 (some .int) 1 [.ref (ad a0), .int p1] M (some (.int y), M) := by
  refine kv_enter (by decide +kernel) (Nat.le_of_ble_eq_true rfl) ?_
  intro x hl hD hz G
  subst hl hD hz
  unfold f_X2_owedTo at hf
  have G : KG ad cy x cX2_owedTo "NoonGuides$Land" 4 (some (some .int)) 1 := G
  show KV ad cy x (some (.int y), M) 0 [(0, .ref (ad a0)), (1, .int p1)] [] M
  refine v_iconst (0 : Int32) G dX2_owedTo_0 (by decide) ?_
  refine v_istore_n [(2, .int (0 : Int32)), (0, .ref (ad a0)), (1, .int p1)] G dX2_owedTo_1 (by decide) rfl ?_
  refine v_iconst (0 : Int32) G dX2_owedTo_2 (by decide) ?_
  refine v_istore_n [(3, .int (0 : Int32)), (2, .int (0 : Int32)), (0, .ref (ad a0)), (1, .int p1)] G dX2_owedTo_3 (by decide) rfl ?_
  refine v_sub _ [2, 3, 1, 0] rfl ?_
  refine s_X2_owedTo_4 G h0 n (0 : Int32) (0 : Int32) hf
abbrev cX2_blindSet : ByteArray := prog_4_method_36_code
def yX2_blindSet : MethodName := ⟨RX2, "blindSet", "()I"⟩
theorem dX2_blindSet_0 : dc cX2_blindSet 0 (.iconst 0) 1 1 := ⟨by decide +kernel, rfl⟩
theorem dX2_blindSet_1 : dc cX2_blindSet 1 (.istore_n 1) 1 2 := ⟨by decide +kernel, rfl⟩
theorem dX2_blindSet_2 : dc cX2_blindSet 2 (.iconst 0) 1 3 := ⟨by decide +kernel, rfl⟩
theorem dX2_blindSet_3 : dc cX2_blindSet 3 (.istore_n 2) 1 4 := ⟨by decide +kernel, rfl⟩
theorem dX2_blindSet_4 : dc cX2_blindSet 4 (.iload_n 2) 1 5 := ⟨by decide +kernel, rfl⟩
theorem dX2_blindSet_5 : dc cX2_blindSet 5 (.aload_n 0) 1 6 := ⟨by decide +kernel, rfl⟩
theorem dX2_blindSet_6 : dc cX2_blindSet 6 (.getfield 69) 3 9 := ⟨by decide +kernel, rfl⟩
theorem dX2_blindSet_9 : dc cX2_blindSet 9 (.if_icmp .ge 31) 3 12 := ⟨by decide +kernel, rfl⟩
theorem dX2_blindSet_12 : dc cX2_blindSet 12 (.iload_n 1) 1 13 := ⟨by decide +kernel, rfl⟩
theorem dX2_blindSet_13 : dc cX2_blindSet 13 (.aload_n 0) 1 14 := ⟨by decide +kernel, rfl⟩
theorem dX2_blindSet_14 : dc cX2_blindSet 14 (.getfield 31) 3 17 := ⟨by decide +kernel, rfl⟩
theorem dX2_blindSet_17 : dc cX2_blindSet 17 (.iload_n 2) 1 18 := ⟨by decide +kernel, rfl⟩
theorem dX2_blindSet_18 : dc cX2_blindSet 18 (.aaload) 1 19 := ⟨by decide +kernel, rfl⟩
theorem dX2_blindSet_19 : dc cX2_blindSet 19 (.getfield 127) 3 22 := ⟨by decide +kernel, rfl⟩
theorem dX2_blindSet_22 : dc cX2_blindSet 22 (.ifCond .eq 7) 3 25 := ⟨by decide +kernel, rfl⟩
theorem dX2_blindSet_25 : dc cX2_blindSet 25 (.iconst 0) 1 26 := ⟨by decide +kernel, rfl⟩
theorem dX2_blindSet_26 : dc cX2_blindSet 26 (.goto 6) 3 29 := ⟨by decide +kernel, rfl⟩
theorem dX2_blindSet_29 : dc cX2_blindSet 29 (.iconst 1) 1 30 := ⟨by decide +kernel, rfl⟩
theorem dX2_blindSet_30 : dc cX2_blindSet 30 (.iload_n 2) 1 31 := ⟨by decide +kernel, rfl⟩
theorem dX2_blindSet_31 : dc cX2_blindSet 31 (.ishl) 1 32 := ⟨by decide +kernel, rfl⟩
theorem dX2_blindSet_32 : dc cX2_blindSet 32 (.ior) 1 33 := ⟨by decide +kernel, rfl⟩
theorem dX2_blindSet_33 : dc cX2_blindSet 33 (.istore_n 1) 1 34 := ⟨by decide +kernel, rfl⟩
theorem dX2_blindSet_34 : dc cX2_blindSet 34 (.iinc 2 1) 3 37 := ⟨by decide +kernel, rfl⟩
theorem dX2_blindSet_37 : dc cX2_blindSet 37 (.goto (-33)) 3 40 := ⟨by decide +kernel, rfl⟩
theorem dX2_blindSet_40 : dc cX2_blindSet 40 (.iload_n 1) 1 41 := ⟨by decide +kernel, rfl⟩
theorem dX2_blindSet_41 : dc cX2_blindSet 41 (.ireturn) 1 42 := ⟨by decide +kernel, rfl⟩
theorem nm_X2_blindSet : (yX2_blindSet).cls ≠ "java/lang/invoke/MethodHandle" ∧ (yX2_blindSet).cls ≠ "java/lang/invoke/VarHandle" ∧ (parseMethodDescriptor (yX2_blindSet).desc).map (fun d => d.parameters.length) = some 0 := ⟨by decide +kernel, by decide +kernel, by decide +kernel⟩
set_option maxRecDepth 100000 in
set_option maxHeartbeats 4000000 in
theorem s_X2_blindSet_4 {ad : Nat → Nat} {cy : Nat → ClassId} {x : KX} (G : KG ad cy x cX2_blindSet "NoonGuides$Land" 3 (some (some .int)) 1) {a0 : Nat} {M : KM} (h0 : kty a0 = 3) {y : Int32} : ∀ (n : Nat) (w1 : Int32) (w2 : Int32), lp_X2_blindSet_4 n a0 M w1 w2 = some y → KV ad cy x (some (.int y), M) 4 [(0, .ref (ad a0)), (1, .int w1), (2, .int w2)] [] M := by
  intro n
  induction n with
  | zero =>
    intro w1 w2 hf
    cases hf
  | succ n ih =>
    intro w1 w2 hf
    rw [lp_X2_blindSet_4] at hf
    refine v_iload_n G dX2_blindSet_4 2 rfl ?_
    refine v_aload_n G dX2_blindSet_5 0 rfl ?_
    refine gf_2_10 G h0 t_389 (Or.inl rfl) dX2_blindSet_6 ?_
    refine v_icmp_ge 40 G dX2_blindSet_9 (by decide) (fun h6 => ?_) (fun h6 => ?_)
    · replace hf := (if_pos h6).symm.trans hf
      refine v_iload_n G dX2_blindSet_40 1 rfl ?_
      obtain rfl := Option.some.inj hf
      exact v_iret G dX2_blindSet_41
    · replace hf := (if_neg h6).symm.trans hf
      refine v_iload_n G dX2_blindSet_12 1 rfl ?_
      refine v_aload_n G dX2_blindSet_13 0 rfl ?_
      refine gf_2_5 G h0 t_371 (Or.inl rfl) dX2_blindSet_14 ?_
      refine v_iload_n G dX2_blindSet_17 2 rfl ?_
      obtain ⟨g1, hf⟩ := gd_e hf
      refine al_Person G (kf_2_6 h0) g1 dX2_blindSet_18 ?_
      refine gf_7_3 G (ke_Person (kf_2_6 h0) (ix_lt g1)) t_315 (Or.inl rfl) dX2_blindSet_19 ?_
      obtain ⟨j32, ej32, hf⟩ := lt_j hf
      have hj32 : ∀ (x2 : Int32), j32 x2 = some y → KV ad cy x (some (.int y), M) 32 [(0, .ref (ad a0)), (2, .int w2)] [.int x2, .int w1] M := by
        intro x2 hf
        rw [ej32] at hf
        refine v_ior G dX2_blindSet_32 ?_
        refine v_nmi (fun v3 ev3 => ?_)
        replace hf := lt_e hf ev3
        refine v_istore_n [(1, .int v3), (0, .ref (ad a0)), (2, .int w2)] G dX2_blindSet_33 (by decide) rfl ?_
        obtain ⟨v4, ev4⟩ : ∃ q : Int32, q = w2 + (1 : Int32) := ⟨_, rfl⟩
        replace hf := lt_e hf ev4
        refine v_iinc v4 [(2, .int v4), (1, .int v3), (0, .ref (ad a0))] G dX2_blindSet_34 2 rfl (by rw [ev4]; rfl) (by decide) rfl ?_
        refine v_goto 4 G dX2_blindSet_37 (by decide) ?_
        refine v_sub _ [2, 1, 0] rfl ?_
        exact ih v3 v4 hf
      refine v_if_eq 29 G dX2_blindSet_22 (by decide) (fun h5 => ?_) (fun h5 => ?_)
      · replace hf := (if_pos h5).symm.trans hf
        refine v_iconst (1 : Int32) G dX2_blindSet_29 (by decide) ?_
        refine v_iload_n G dX2_blindSet_30 2 rfl ?_
        refine v_ishl G dX2_blindSet_31 ?_
        refine v_sub _ [0, 2] rfl ?_
        exact hj32 ((1 : Int32) <<< (w2 &&& 31)) hf
      · replace hf := (if_neg h5).symm.trans hf
        refine v_iconst (0 : Int32) G dX2_blindSet_25 (by decide) ?_
        refine v_goto 32 G dX2_blindSet_26 (by decide) ?_
        refine v_sub _ [0, 2] rfl ?_
        exact hj32 (0 : Int32) hf
set_option maxRecDepth 100000 in
set_option maxHeartbeats 4000000 in
theorem c_X2_blindSet {l : Launch} {ad : Nat → Nat} {cy : Nat → ClassId} {D : va_G} {z : Nat} (n : Nat) {a0 : Nat} {M : KM} {y : Int32} (h0 : kty a0 = 3) (hf : f_X2_blindSet n a0 M = some y) : KC l ad cy D z yX2_blindSet cX2_blindSet 3 (some .int) 1 [.ref (ad a0)] M (some (.int y), M) := by
  refine kv_enter (by decide +kernel) (Nat.le_of_ble_eq_true rfl) ?_
  intro x hl hD hz G
  subst hl hD hz
  unfold f_X2_blindSet at hf
  have G : KG ad cy x cX2_blindSet "NoonGuides$Land" 3 (some (some .int)) 1 := G
  show KV ad cy x (some (.int y), M) 0 [(0, .ref (ad a0))] [] M
  refine v_iconst (0 : Int32) G dX2_blindSet_0 (by decide) ?_
  refine v_istore_n [(1, .int (0 : Int32)), (0, .ref (ad a0))] G dX2_blindSet_1 (by decide) rfl ?_
  refine v_iconst (0 : Int32) G dX2_blindSet_2 (by decide) ?_
  refine v_istore_n [(2, .int (0 : Int32)), (1, .int (0 : Int32)), (0, .ref (ad a0))] G dX2_blindSet_3 (by decide) rfl ?_
  refine v_sub _ [2, 1, 0] rfl ?_
  refine s_X2_blindSet_4 G h0 n (0 : Int32) (0 : Int32) hf
abbrev cX2_walkingSet : ByteArray := prog_4_method_37_code
def yX2_walkingSet : MethodName := ⟨RX2, "walkingSet", "()I"⟩
theorem dX2_walkingSet_0 : dc cX2_walkingSet 0 (.iconst 0) 1 1 := ⟨by decide +kernel, rfl⟩
theorem dX2_walkingSet_1 : dc cX2_walkingSet 1 (.istore_n 1) 1 2 := ⟨by decide +kernel, rfl⟩
theorem dX2_walkingSet_2 : dc cX2_walkingSet 2 (.iconst 0) 1 3 := ⟨by decide +kernel, rfl⟩
theorem dX2_walkingSet_3 : dc cX2_walkingSet 3 (.istore_n 2) 1 4 := ⟨by decide +kernel, rfl⟩
theorem dX2_walkingSet_4 : dc cX2_walkingSet 4 (.iload_n 2) 1 5 := ⟨by decide +kernel, rfl⟩
theorem dX2_walkingSet_5 : dc cX2_walkingSet 5 (.aload_n 0) 1 6 := ⟨by decide +kernel, rfl⟩
theorem dX2_walkingSet_6 : dc cX2_walkingSet 6 (.getfield 69) 3 9 := ⟨by decide +kernel, rfl⟩
theorem dX2_walkingSet_9 : dc cX2_walkingSet 9 (.if_icmp .ge 31) 3 12 := ⟨by decide +kernel, rfl⟩
theorem dX2_walkingSet_12 : dc cX2_walkingSet 12 (.iload_n 1) 1 13 := ⟨by decide +kernel, rfl⟩
theorem dX2_walkingSet_13 : dc cX2_walkingSet 13 (.aload_n 0) 1 14 := ⟨by decide +kernel, rfl⟩
theorem dX2_walkingSet_14 : dc cX2_walkingSet 14 (.getfield 31) 3 17 := ⟨by decide +kernel, rfl⟩
theorem dX2_walkingSet_17 : dc cX2_walkingSet 17 (.iload_n 2) 1 18 := ⟨by decide +kernel, rfl⟩
theorem dX2_walkingSet_18 : dc cX2_walkingSet 18 (.aaload) 1 19 := ⟨by decide +kernel, rfl⟩
theorem dX2_walkingSet_19 : dc cX2_walkingSet 19 (.invokevirtual 228) 3 22 := ⟨by decide +kernel, rfl⟩
theorem dX2_walkingSet_22 : dc cX2_walkingSet 22 (.ifCond .eq 7) 3 25 := ⟨by decide +kernel, rfl⟩
theorem dX2_walkingSet_25 : dc cX2_walkingSet 25 (.iconst 0) 1 26 := ⟨by decide +kernel, rfl⟩
theorem dX2_walkingSet_26 : dc cX2_walkingSet 26 (.goto 6) 3 29 := ⟨by decide +kernel, rfl⟩
theorem dX2_walkingSet_29 : dc cX2_walkingSet 29 (.iconst 1) 1 30 := ⟨by decide +kernel, rfl⟩
theorem dX2_walkingSet_30 : dc cX2_walkingSet 30 (.iload_n 2) 1 31 := ⟨by decide +kernel, rfl⟩
theorem dX2_walkingSet_31 : dc cX2_walkingSet 31 (.ishl) 1 32 := ⟨by decide +kernel, rfl⟩
theorem dX2_walkingSet_32 : dc cX2_walkingSet 32 (.ior) 1 33 := ⟨by decide +kernel, rfl⟩
theorem dX2_walkingSet_33 : dc cX2_walkingSet 33 (.istore_n 1) 1 34 := ⟨by decide +kernel, rfl⟩
theorem dX2_walkingSet_34 : dc cX2_walkingSet 34 (.iinc 2 1) 3 37 := ⟨by decide +kernel, rfl⟩
theorem dX2_walkingSet_37 : dc cX2_walkingSet 37 (.goto (-33)) 3 40 := ⟨by decide +kernel, rfl⟩
theorem dX2_walkingSet_40 : dc cX2_walkingSet 40 (.iload_n 1) 1 41 := ⟨by decide +kernel, rfl⟩
theorem dX2_walkingSet_41 : dc cX2_walkingSet 41 (.ireturn) 1 42 := ⟨by decide +kernel, rfl⟩
theorem nm_X2_walkingSet : (yX2_walkingSet).cls ≠ "java/lang/invoke/MethodHandle" ∧ (yX2_walkingSet).cls ≠ "java/lang/invoke/VarHandle" ∧ (parseMethodDescriptor (yX2_walkingSet).desc).map (fun d => d.parameters.length) = some 0 := ⟨by decide +kernel, by decide +kernel, by decide +kernel⟩
set_option maxRecDepth 100000 in
set_option maxHeartbeats 4000000 in
theorem s_X2_walkingSet_4 {ad : Nat → Nat} {cy : Nat → ClassId} {x : KX} (G : KG ad cy x cX2_walkingSet "NoonGuides$Land" 3 (some (some .int)) 2) {a0 : Nat} {M : KM} (h0 : kty a0 = 3) {y : Int32} : ∀ (n : Nat) (w1 : Int32) (w2 : Int32), lp_X2_walkingSet_4 n a0 M w1 w2 = some y → KV ad cy x (some (.int y), M) 4 [(0, .ref (ad a0)), (1, .int w1), (2, .int w2)] [] M := by
  intro n
  induction n with
  | zero =>
    intro w1 w2 hf
    cases hf
  | succ n ih =>
    intro w1 w2 hf
    rw [lp_X2_walkingSet_4] at hf
    refine v_iload_n G dX2_walkingSet_4 2 rfl ?_
    refine v_aload_n G dX2_walkingSet_5 0 rfl ?_
    refine gf_2_10 G h0 t_389 (Or.inl rfl) dX2_walkingSet_6 ?_
    refine v_icmp_ge 40 G dX2_walkingSet_9 (by decide) (fun h7 => ?_) (fun h7 => ?_)
    · replace hf := (if_pos h7).symm.trans hf
      refine v_iload_n G dX2_walkingSet_40 1 rfl ?_
      obtain rfl := Option.some.inj hf
      exact v_iret G dX2_walkingSet_41
    · replace hf := (if_neg h7).symm.trans hf
      refine v_iload_n G dX2_walkingSet_12 1 rfl ?_
      refine v_aload_n G dX2_walkingSet_13 0 rfl ?_
      refine gf_2_5 G h0 t_371 (Or.inl rfl) dX2_walkingSet_14 ?_
      refine v_iload_n G dX2_walkingSet_17 2 rfl ?_
      obtain ⟨g1, hf⟩ := gd_e hf
      refine al_Person G (kf_2_6 h0) g1 dX2_walkingSet_18 ?_
      obtain ⟨v2, hcv2⟩ : ∃ q, f_X7_isAtPlace ((a0 + 6) + 8 + 3 * (w2).toNatClampNeg) M = q := ⟨_, rfl⟩
      replace hf := lt_e hf hcv2.symm
      refine v_callV [] G (c_X7_isAtPlace (ke_Person (kf_2_6 h0) (ix_lt g1)) hcv2) (ke_Person (kf_2_6 h0) (ix_lt g1)) (by decide) rfl rfl rfl t_545 t_546 t_547 t_15 t_548 nm_X7_isAtPlace (by decide) (by decide) rfl rfl (Nat.le_of_ble_eq_true rfl) dX2_walkingSet_19 (kv_ri ?_)
      obtain ⟨j32, ej32, hf⟩ := lt_j hf
      have hj32 : ∀ (x3 : Int32), j32 x3 = some y → KV ad cy x (some (.int y), M) 32 [(0, .ref (ad a0)), (2, .int w2)] [.int x3, .int w1] M := by
        intro x3 hf
        rw [ej32] at hf
        refine v_ior G dX2_walkingSet_32 ?_
        refine v_nmi (fun v4 ev4 => ?_)
        replace hf := lt_e hf ev4
        refine v_istore_n [(1, .int v4), (0, .ref (ad a0)), (2, .int w2)] G dX2_walkingSet_33 (by decide) rfl ?_
        obtain ⟨v5, ev5⟩ : ∃ q : Int32, q = w2 + (1 : Int32) := ⟨_, rfl⟩
        replace hf := lt_e hf ev5
        refine v_iinc v5 [(2, .int v5), (1, .int v4), (0, .ref (ad a0))] G dX2_walkingSet_34 2 rfl (by rw [ev5]; rfl) (by decide) rfl ?_
        refine v_goto 4 G dX2_walkingSet_37 (by decide) ?_
        refine v_sub _ [2, 1, 0] rfl ?_
        exact ih v4 v5 hf
      refine v_if_eq 29 G dX2_walkingSet_22 (by decide) (fun h6 => ?_) (fun h6 => ?_)
      · replace hf := (if_pos h6).symm.trans hf
        refine v_iconst (1 : Int32) G dX2_walkingSet_29 (by decide) ?_
        refine v_iload_n G dX2_walkingSet_30 2 rfl ?_
        refine v_ishl G dX2_walkingSet_31 ?_
        refine v_sub _ [0, 2] rfl ?_
        exact hj32 ((1 : Int32) <<< (w2 &&& 31)) hf
      · replace hf := (if_neg h6).symm.trans hf
        refine v_iconst (0 : Int32) G dX2_walkingSet_25 (by decide) ?_
        refine v_goto 32 G dX2_walkingSet_26 (by decide) ?_
        refine v_sub _ [0, 2] rfl ?_
        exact hj32 (0 : Int32) hf
set_option maxRecDepth 100000 in
set_option maxHeartbeats 4000000 in
theorem c_X2_walkingSet {l : Launch} {ad : Nat → Nat} {cy : Nat → ClassId} {D : va_G} {z : Nat} (n : Nat) {a0 : Nat} {M : KM} {y : Int32} (h0 : kty a0 = 3) (hf : f_X2_walkingSet n a0 M = some y) : KC l ad cy D z yX2_walkingSet cX2_walkingSet 3 (some .int) 2 [.ref (ad a0)] M (some (.int y), M) := by
  refine kv_enter (by decide +kernel) (Nat.le_of_ble_eq_true rfl) ?_
  intro x hl hD hz G
  subst hl hD hz
  unfold f_X2_walkingSet at hf
  have G : KG ad cy x cX2_walkingSet "NoonGuides$Land" 3 (some (some .int)) 2 := G
  show KV ad cy x (some (.int y), M) 0 [(0, .ref (ad a0))] [] M
  refine v_iconst (0 : Int32) G dX2_walkingSet_0 (by decide) ?_
  refine v_istore_n [(1, .int (0 : Int32)), (0, .ref (ad a0))] G dX2_walkingSet_1 (by decide) rfl ?_
  refine v_iconst (0 : Int32) G dX2_walkingSet_2 (by decide) ?_
  refine v_istore_n [(2, .int (0 : Int32)), (1, .int (0 : Int32)), (0, .ref (ad a0))] G dX2_walkingSet_3 (by decide) rfl ?_
  refine v_sub _ [2, 1, 0] rfl ?_
  refine s_X2_walkingSet_4 G h0 n (0 : Int32) (0 : Int32) hf
abbrev cX2_ledSet : ByteArray := prog_4_method_38_code
def yX2_ledSet : MethodName := ⟨RX2, "ledSet", "()I"⟩
theorem dX2_ledSet_0 : dc cX2_ledSet 0 (.iconst 0) 1 1 := ⟨by decide +kernel, rfl⟩
theorem dX2_ledSet_1 : dc cX2_ledSet 1 (.istore_n 1) 1 2 := ⟨by decide +kernel, rfl⟩
theorem dX2_ledSet_2 : dc cX2_ledSet 2 (.iconst 0) 1 3 := ⟨by decide +kernel, rfl⟩
theorem dX2_ledSet_3 : dc cX2_ledSet 3 (.istore_n 2) 1 4 := ⟨by decide +kernel, rfl⟩
theorem dX2_ledSet_4 : dc cX2_ledSet 4 (.iload_n 2) 1 5 := ⟨by decide +kernel, rfl⟩
theorem dX2_ledSet_5 : dc cX2_ledSet 5 (.aload_n 0) 1 6 := ⟨by decide +kernel, rfl⟩
theorem dX2_ledSet_6 : dc cX2_ledSet 6 (.getfield 69) 3 9 := ⟨by decide +kernel, rfl⟩
theorem dX2_ledSet_9 : dc cX2_ledSet 9 (.if_icmp .ge 32) 3 12 := ⟨by decide +kernel, rfl⟩
theorem dX2_ledSet_12 : dc cX2_ledSet 12 (.iload_n 1) 1 13 := ⟨by decide +kernel, rfl⟩
theorem dX2_ledSet_13 : dc cX2_ledSet 13 (.aload_n 0) 1 14 := ⟨by decide +kernel, rfl⟩
theorem dX2_ledSet_14 : dc cX2_ledSet 14 (.getfield 31) 3 17 := ⟨by decide +kernel, rfl⟩
theorem dX2_ledSet_17 : dc cX2_ledSet 17 (.iload_n 2) 1 18 := ⟨by decide +kernel, rfl⟩
theorem dX2_ledSet_18 : dc cX2_ledSet 18 (.aaload) 1 19 := ⟨by decide +kernel, rfl⟩
theorem dX2_ledSet_19 : dc cX2_ledSet 19 (.getfield 172) 3 22 := ⟨by decide +kernel, rfl⟩
theorem dX2_ledSet_22 : dc cX2_ledSet 22 (.iconst (-1)) 1 23 := ⟨by decide +kernel, rfl⟩
theorem dX2_ledSet_23 : dc cX2_ledSet 23 (.if_icmp .ne 7) 3 26 := ⟨by decide +kernel, rfl⟩
theorem dX2_ledSet_26 : dc cX2_ledSet 26 (.iconst 0) 1 27 := ⟨by decide +kernel, rfl⟩
theorem dX2_ledSet_27 : dc cX2_ledSet 27 (.goto 6) 3 30 := ⟨by decide +kernel, rfl⟩
theorem dX2_ledSet_30 : dc cX2_ledSet 30 (.iconst 1) 1 31 := ⟨by decide +kernel, rfl⟩
theorem dX2_ledSet_31 : dc cX2_ledSet 31 (.iload_n 2) 1 32 := ⟨by decide +kernel, rfl⟩
theorem dX2_ledSet_32 : dc cX2_ledSet 32 (.ishl) 1 33 := ⟨by decide +kernel, rfl⟩
theorem dX2_ledSet_33 : dc cX2_ledSet 33 (.ior) 1 34 := ⟨by decide +kernel, rfl⟩
theorem dX2_ledSet_34 : dc cX2_ledSet 34 (.istore_n 1) 1 35 := ⟨by decide +kernel, rfl⟩
theorem dX2_ledSet_35 : dc cX2_ledSet 35 (.iinc 2 1) 3 38 := ⟨by decide +kernel, rfl⟩
theorem dX2_ledSet_38 : dc cX2_ledSet 38 (.goto (-34)) 3 41 := ⟨by decide +kernel, rfl⟩
theorem dX2_ledSet_41 : dc cX2_ledSet 41 (.iload_n 1) 1 42 := ⟨by decide +kernel, rfl⟩
theorem dX2_ledSet_42 : dc cX2_ledSet 42 (.ireturn) 1 43 := ⟨by decide +kernel, rfl⟩
theorem nm_X2_ledSet : (yX2_ledSet).cls ≠ "java/lang/invoke/MethodHandle" ∧ (yX2_ledSet).cls ≠ "java/lang/invoke/VarHandle" ∧ (parseMethodDescriptor (yX2_ledSet).desc).map (fun d => d.parameters.length) = some 0 := ⟨by decide +kernel, by decide +kernel, by decide +kernel⟩
set_option maxRecDepth 100000 in
set_option maxHeartbeats 4000000 in
theorem s_X2_ledSet_4 {ad : Nat → Nat} {cy : Nat → ClassId} {x : KX} (G : KG ad cy x cX2_ledSet "NoonGuides$Land" 3 (some (some .int)) 1) {a0 : Nat} {M : KM} (h0 : kty a0 = 3) {y : Int32} : ∀ (n : Nat) (w1 : Int32) (w2 : Int32), lp_X2_ledSet_4 n a0 M w1 w2 = some y → KV ad cy x (some (.int y), M) 4 [(0, .ref (ad a0)), (1, .int w1), (2, .int w2)] [] M := by
  intro n
  induction n with
  | zero =>
    intro w1 w2 hf
    cases hf
  | succ n ih =>
    intro w1 w2 hf
    rw [lp_X2_ledSet_4] at hf
    refine v_iload_n G dX2_ledSet_4 2 rfl ?_
    refine v_aload_n G dX2_ledSet_5 0 rfl ?_
    refine gf_2_10 G h0 t_389 (Or.inl rfl) dX2_ledSet_6 ?_
    refine v_icmp_ge 41 G dX2_ledSet_9 (by decide) (fun h6 => ?_) (fun h6 => ?_)
    · replace hf := (if_pos h6).symm.trans hf
      refine v_iload_n G dX2_ledSet_41 1 rfl ?_
      obtain rfl := Option.some.inj hf
      exact v_iret G dX2_ledSet_42
    · replace hf := (if_neg h6).symm.trans hf
      refine v_iload_n G dX2_ledSet_12 1 rfl ?_
      refine v_aload_n G dX2_ledSet_13 0 rfl ?_
      refine gf_2_5 G h0 t_371 (Or.inl rfl) dX2_ledSet_14 ?_
      refine v_iload_n G dX2_ledSet_17 2 rfl ?_
      obtain ⟨g1, hf⟩ := gd_e hf
      refine al_Person G (kf_2_6 h0) g1 dX2_ledSet_18 ?_
      refine gf_7_9 G (ke_Person (kf_2_6 h0) (ix_lt g1)) t_331 (Or.inl rfl) dX2_ledSet_19 ?_
      refine v_iconst (-1 : Int32) G dX2_ledSet_22 (by decide) ?_
      obtain ⟨j33, ej33, hf⟩ := lt_j hf
      have hj33 : ∀ (x2 : Int32), j33 x2 = some y → KV ad cy x (some (.int y), M) 33 [(0, .ref (ad a0)), (2, .int w2)] [.int x2, .int w1] M := by
        intro x2 hf
        rw [ej33] at hf
        refine v_ior G dX2_ledSet_33 ?_
        refine v_nmi (fun v3 ev3 => ?_)
        replace hf := lt_e hf ev3
        refine v_istore_n [(1, .int v3), (0, .ref (ad a0)), (2, .int w2)] G dX2_ledSet_34 (by decide) rfl ?_
        obtain ⟨v4, ev4⟩ : ∃ q : Int32, q = w2 + (1 : Int32) := ⟨_, rfl⟩
        replace hf := lt_e hf ev4
        refine v_iinc v4 [(2, .int v4), (1, .int v3), (0, .ref (ad a0))] G dX2_ledSet_35 2 rfl (by rw [ev4]; rfl) (by decide) rfl ?_
        refine v_goto 4 G dX2_ledSet_38 (by decide) ?_
        refine v_sub _ [2, 1, 0] rfl ?_
        exact ih v3 v4 hf
      refine v_icmp_ne 30 G dX2_ledSet_23 (by decide) (fun h5 => ?_) (fun h5 => ?_)
      · replace hf := (if_neg h5).symm.trans hf
        refine v_iconst (1 : Int32) G dX2_ledSet_30 (by decide) ?_
        refine v_iload_n G dX2_ledSet_31 2 rfl ?_
        refine v_ishl G dX2_ledSet_32 ?_
        refine v_sub _ [0, 2] rfl ?_
        exact hj33 ((1 : Int32) <<< (w2 &&& 31)) hf
      · replace hf := (if_pos h5).symm.trans hf
        refine v_iconst (0 : Int32) G dX2_ledSet_26 (by decide) ?_
        refine v_goto 33 G dX2_ledSet_27 (by decide) ?_
        refine v_sub _ [0, 2] rfl ?_
        exact hj33 (0 : Int32) hf
set_option maxRecDepth 100000 in
set_option maxHeartbeats 4000000 in
theorem c_X2_ledSet {l : Launch} {ad : Nat → Nat} {cy : Nat → ClassId} {D : va_G} {z : Nat} (n : Nat) {a0 : Nat} {M : KM} {y : Int32} (h0 : kty a0 = 3) (hf : f_X2_ledSet n a0 M = some y) : KC l ad cy D z yX2_ledSet cX2_ledSet 3 (some .int) 1 [.ref (ad a0)] M (some (.int y), M) := by
  refine kv_enter (by decide +kernel) (Nat.le_of_ble_eq_true rfl) ?_
  intro x hl hD hz G
  subst hl hD hz
  unfold f_X2_ledSet at hf
  have G : KG ad cy x cX2_ledSet "NoonGuides$Land" 3 (some (some .int)) 1 := G
  show KV ad cy x (some (.int y), M) 0 [(0, .ref (ad a0))] [] M
  refine v_iconst (0 : Int32) G dX2_ledSet_0 (by decide) ?_
  refine v_istore_n [(1, .int (0 : Int32)), (0, .ref (ad a0))] G dX2_ledSet_1 (by decide) rfl ?_
  refine v_iconst (0 : Int32) G dX2_ledSet_2 (by decide) ?_
  refine v_istore_n [(2, .int (0 : Int32)), (1, .int (0 : Int32)), (0, .ref (ad a0))] G dX2_ledSet_3 (by decide) rfl ?_
  refine v_sub _ [2, 1, 0] rfl ?_
  refine s_X2_ledSet_4 G h0 n (0 : Int32) (0 : Int32) hf
abbrev cX2_canLeave : ByteArray := prog_4_method_41_code
def yX2_canLeave : MethodName := ⟨RX2, "canLeave", "(I)Z"⟩
theorem dX2_canLeave_0 : dc cX2_canLeave 0 (.iconst 0) 1 1 := ⟨by decide +kernel, rfl⟩
theorem dX2_canLeave_1 : dc cX2_canLeave 1 (.istore_n 2) 1 2 := ⟨by decide +kernel, rfl⟩
theorem dX2_canLeave_2 : dc cX2_canLeave 2 (.iload_n 2) 1 3 := ⟨by decide +kernel, rfl⟩
theorem dX2_canLeave_3 : dc cX2_canLeave 3 (.aload_n 0) 1 4 := ⟨by decide +kernel, rfl⟩
theorem dX2_canLeave_4 : dc cX2_canLeave 4 (.getfield 66) 3 7 := ⟨by decide +kernel, rfl⟩
theorem dX2_canLeave_7 : dc cX2_canLeave 7 (.if_icmp .ge 38) 3 10 := ⟨by decide +kernel, rfl⟩
theorem dX2_canLeave_10 : dc cX2_canLeave 10 (.aload_n 0) 1 11 := ⟨by decide +kernel, rfl⟩
theorem dX2_canLeave_11 : dc cX2_canLeave 11 (.iload_n 2) 1 12 := ⟨by decide +kernel, rfl⟩
theorem dX2_canLeave_12 : dc cX2_canLeave 12 (.aload_n 0) 1 13 := ⟨by decide +kernel, rfl⟩
theorem dX2_canLeave_13 : dc cX2_canLeave 13 (.getfield 31) 3 16 := ⟨by decide +kernel, rfl⟩
theorem dX2_canLeave_16 : dc cX2_canLeave 16 (.iload_n 1) 1 17 := ⟨by decide +kernel, rfl⟩
theorem dX2_canLeave_17 : dc cX2_canLeave 17 (.aaload) 1 18 := ⟨by decide +kernel, rfl⟩
theorem dX2_canLeave_18 : dc cX2_canLeave 18 (.getfield 118) 3 21 := ⟨by decide +kernel, rfl⟩
theorem dX2_canLeave_21 : dc cX2_canLeave 21 (.invokevirtual 110) 3 24 := ⟨by decide +kernel, rfl⟩
theorem dX2_canLeave_24 : dc cX2_canLeave 24 (.iconst (-1)) 1 25 := ⟨by decide +kernel, rfl⟩
theorem dX2_canLeave_25 : dc cX2_canLeave 25 (.if_icmp .eq 14) 3 28 := ⟨by decide +kernel, rfl⟩
theorem dX2_canLeave_28 : dc cX2_canLeave 28 (.aload_n 0) 1 29 := ⟨by decide +kernel, rfl⟩
theorem dX2_canLeave_29 : dc cX2_canLeave 29 (.iload_n 1) 1 30 := ⟨by decide +kernel, rfl⟩
theorem dX2_canLeave_30 : dc cX2_canLeave 30 (.iload_n 2) 1 31 := ⟨by decide +kernel, rfl⟩
theorem dX2_canLeave_31 : dc cX2_canLeave 31 (.invokevirtual 161) 3 34 := ⟨by decide +kernel, rfl⟩
theorem dX2_canLeave_34 : dc cX2_canLeave 34 (.ifCond .eq 5) 3 37 := ⟨by decide +kernel, rfl⟩
theorem dX2_canLeave_37 : dc cX2_canLeave 37 (.iconst 1) 1 38 := ⟨by decide +kernel, rfl⟩
theorem dX2_canLeave_38 : dc cX2_canLeave 38 (.ireturn) 1 39 := ⟨by decide +kernel, rfl⟩
theorem dX2_canLeave_39 : dc cX2_canLeave 39 (.iinc 2 1) 3 42 := ⟨by decide +kernel, rfl⟩
theorem dX2_canLeave_42 : dc cX2_canLeave 42 (.goto (-40)) 3 45 := ⟨by decide +kernel, rfl⟩
theorem dX2_canLeave_45 : dc cX2_canLeave 45 (.iconst 0) 1 46 := ⟨by decide +kernel, rfl⟩
theorem dX2_canLeave_46 : dc cX2_canLeave 46 (.ireturn) 1 47 := ⟨by decide +kernel, rfl⟩
theorem nm_X2_canLeave : (yX2_canLeave).cls ≠ "java/lang/invoke/MethodHandle" ∧ (yX2_canLeave).cls ≠ "java/lang/invoke/VarHandle" ∧ (parseMethodDescriptor (yX2_canLeave).desc).map (fun d => d.parameters.length) = some 1 := ⟨by decide +kernel, by decide +kernel, by decide +kernel⟩
theorem zs_X2_canLeave_2 {a0 : Nat} {c1 : Int32} {M : KM} {y : Int32} : ∀ (n : Nat) (w2 : Int32), lp_X2_canLeave_2 n a0 c1 M w2 = some y → (y = 0 ∨ y = 1) := by
  intro n
  induction n with
  | zero =>
    intro w2 hf
    cases hf
  | succ n ih =>
    intro w2 hf
    rw [lp_X2_canLeave_2] at hf
    by_cases h7 : (M.1 a0 9) ≤ w2
    · replace hf := (if_pos h7).symm.trans hf
      obtain rfl := Option.some.inj hf
      exact (Or.inl rfl)
    · replace hf := (if_neg h7).symm.trans hf
      obtain ⟨g1, hf⟩ := gd_e hf
      obtain ⟨v2, hcv2, hf⟩ := bd_e hf
      obtain ⟨j39, ej39, hf⟩ := lt_j hf
      have hj39 : j39 = some y → (y = 0 ∨ y = 1) := by
        intro hf
        rw [ej39] at hf
        obtain ⟨v3, ev3⟩ : ∃ q : Int32, q = w2 + (1 : Int32) := ⟨_, rfl⟩
        replace hf := lt_e hf ev3
        exact ih v3 hf
      by_cases h6 : v2 = (-1 : Int32)
      · replace hf := (if_pos h6).symm.trans hf
        exact hj39 hf
      · replace hf := (if_neg h6).symm.trans hf
        obtain ⟨v4, hcv4, hf⟩ := bd_e hf
        by_cases h5 : v4 = 0
        · replace hf := (if_pos h5).symm.trans hf
          exact hj39 hf
        · replace hf := (if_neg h5).symm.trans hf
          obtain rfl := Option.some.inj hf
          exact (Or.inr rfl)
set_option maxRecDepth 100000 in
theorem z_X2_canLeave (n : Nat) {a0 : Nat} {p1 : Int32} {M : KM} {y : Int32} (hf : f_X2_canLeave n a0 p1 M = some y) : (y = 0 ∨ y = 1) := by
  unfold f_X2_canLeave at hf
  refine zs_X2_canLeave_2 n (0 : Int32) hf
set_option maxRecDepth 100000 in
set_option maxHeartbeats 4000000 in
theorem s_X2_canLeave_2 {ad : Nat → Nat} {cy : Nat → ClassId} {x : KX} (G : KG ad cy x cX2_canLeave "NoonGuides$Land" 3 (some (some .boolean)) 3) {a0 : Nat} {c1 : Int32} {M : KM} (h0 : kty a0 = 3) {y : Int32} : ∀ (n : Nat) (w2 : Int32), lp_X2_canLeave_2 n a0 c1 M w2 = some y → KV ad cy x (some (.int y), M) 2 [(0, .ref (ad a0)), (1, .int c1), (2, .int w2)] [] M := by
  intro n
  induction n with
  | zero =>
    intro w2 hf
    cases hf
  | succ n ih =>
    intro w2 hf
    rw [lp_X2_canLeave_2] at hf
    refine v_iload_n G dX2_canLeave_2 2 rfl ?_
    refine v_aload_n G dX2_canLeave_3 0 rfl ?_
    refine gf_2_9 G h0 t_385 (Or.inl rfl) dX2_canLeave_4 ?_
    refine v_icmp_ge 45 G dX2_canLeave_7 (by decide) (fun h7 => ?_) (fun h7 => ?_)
    · replace hf := (if_pos h7).symm.trans hf
      refine v_iconst (0 : Int32) G dX2_canLeave_45 (by decide) ?_
      obtain rfl := Option.some.inj hf
      exact v_zret G (Or.inl rfl) dX2_canLeave_46
    · replace hf := (if_neg h7).symm.trans hf
      refine v_aload_n G dX2_canLeave_10 0 rfl ?_
      refine v_iload_n G dX2_canLeave_11 2 rfl ?_
      refine v_aload_n G dX2_canLeave_12 0 rfl ?_
      refine gf_2_5 G h0 t_371 (Or.inl rfl) dX2_canLeave_13 ?_
      refine v_iload_n G dX2_canLeave_16 1 rfl ?_
      obtain ⟨g1, hf⟩ := gd_e hf
      refine al_Person G (kf_2_6 h0) g1 dX2_canLeave_17 ?_
      refine gf_7_5 G (ke_Person (kf_2_6 h0) (ix_lt g1)) t_322 (Or.inl rfl) dX2_canLeave_18 ?_
      obtain ⟨v2, hcv2, hf⟩ := bd_e hf
      refine v_callV [.int w2, .int (M.1 ((a0 + 6) + 8 + 3 * (c1).toNatClampNeg) 5)] G (c_X2_otherEnd n h0 hcv2) h0 (by decide) rfl rfl rfl t_573 t_574 t_575 t_13 t_576 nm_X2_otherEnd (by decide) (by decide) rfl rfl (Nat.le_of_ble_eq_true rfl) dX2_canLeave_21 (kv_ri ?_)
      refine v_iconst (-1 : Int32) G dX2_canLeave_24 (by decide) ?_
      obtain ⟨j39, ej39, hf⟩ := lt_j hf
      have hj39 : j39 = some y → KV ad cy x (some (.int y), M) 39 [(0, .ref (ad a0)), (1, .int c1), (2, .int w2)] [] M := by
        intro hf
        rw [ej39] at hf
        obtain ⟨v3, ev3⟩ : ∃ q : Int32, q = w2 + (1 : Int32) := ⟨_, rfl⟩
        replace hf := lt_e hf ev3
        refine v_iinc v3 [(2, .int v3), (0, .ref (ad a0)), (1, .int c1)] G dX2_canLeave_39 2 rfl (by rw [ev3]; rfl) (by decide) rfl ?_
        refine v_goto 2 G dX2_canLeave_42 (by decide) ?_
        refine v_sub _ [1, 2, 0] rfl ?_
        exact ih v3 hf
      refine v_icmp_eq 39 G dX2_canLeave_25 (by decide) (fun h6 => ?_) (fun h6 => ?_)
      · replace hf := (if_pos h6).symm.trans hf
        refine v_sub _ [0, 1, 2] rfl ?_
        exact hj39 hf
      · replace hf := (if_neg h6).symm.trans hf
        refine v_aload_n G dX2_canLeave_28 0 rfl ?_
        refine v_iload_n G dX2_canLeave_29 1 rfl ?_
        refine v_iload_n G dX2_canLeave_30 2 rfl ?_
        obtain ⟨v4, hcv4, hf⟩ := bd_e hf
        refine v_callV [.int c1, .int w2] G (c_X2_isAble n h0 hcv4) h0 (by decide) rfl rfl rfl t_690 t_691 t_692 t_13 t_693 nm_X2_isAble (by decide) (by decide) rfl rfl (Nat.le_of_ble_eq_true rfl) dX2_canLeave_31 (kv_ri ?_)
        refine v_if_eq 39 G dX2_canLeave_34 (by decide) (fun h5 => ?_) (fun h5 => ?_)
        · replace hf := (if_pos h5).symm.trans hf
          refine v_sub _ [0, 1, 2] rfl ?_
          exact hj39 hf
        · replace hf := (if_neg h5).symm.trans hf
          refine v_iconst (1 : Int32) G dX2_canLeave_37 (by decide) ?_
          obtain rfl := Option.some.inj hf
          exact v_zret G (Or.inr rfl) dX2_canLeave_38
set_option maxRecDepth 100000 in
set_option maxHeartbeats 4000000 in
theorem c_X2_canLeave {l : Launch} {ad : Nat → Nat} {cy : Nat → ClassId} {D : va_G} {z : Nat} (n : Nat) {a0 : Nat} {p1 : Int32} {M : KM} {y : Int32} (h0 : kty a0 = 3) (hf : f_X2_canLeave n a0 p1 M = some y) : KC l ad cy D z yX2_canLeave cX2_canLeave 3 (some .boolean) 3 [.ref (ad a0), .int p1] M (some (.int y), M) := by
  refine kv_enter (by decide +kernel) (Nat.le_of_ble_eq_true rfl) ?_
  intro x hl hD hz G
  subst hl hD hz
  unfold f_X2_canLeave at hf
  have G : KG ad cy x cX2_canLeave "NoonGuides$Land" 3 (some (some .boolean)) 3 := G
  show KV ad cy x (some (.int y), M) 0 [(0, .ref (ad a0)), (1, .int p1)] [] M
  refine v_iconst (0 : Int32) G dX2_canLeave_0 (by decide) ?_
  refine v_istore_n [(2, .int (0 : Int32)), (0, .ref (ad a0)), (1, .int p1)] G dX2_canLeave_1 (by decide) rfl ?_
  refine v_sub _ [1, 2, 0] rfl ?_
  refine s_X2_canLeave_2 G h0 n (0 : Int32) hf
abbrev cX2_stuckSet : ByteArray := prog_4_method_40_code
def yX2_stuckSet : MethodName := ⟨RX2, "stuckSet", "()I"⟩
theorem dX2_stuckSet_0 : dc cX2_stuckSet 0 (.iconst 0) 1 1 := ⟨by decide +kernel, rfl⟩
theorem dX2_stuckSet_1 : dc cX2_stuckSet 1 (.istore_n 1) 1 2 := ⟨by decide +kernel, rfl⟩
theorem dX2_stuckSet_2 : dc cX2_stuckSet 2 (.iconst 0) 1 3 := ⟨by decide +kernel, rfl⟩
theorem dX2_stuckSet_3 : dc cX2_stuckSet 3 (.istore_n 2) 1 4 := ⟨by decide +kernel, rfl⟩
theorem dX2_stuckSet_4 : dc cX2_stuckSet 4 (.iload_n 2) 1 5 := ⟨by decide +kernel, rfl⟩
theorem dX2_stuckSet_5 : dc cX2_stuckSet 5 (.aload_n 0) 1 6 := ⟨by decide +kernel, rfl⟩
theorem dX2_stuckSet_6 : dc cX2_stuckSet 6 (.getfield 69) 3 9 := ⟨by decide +kernel, rfl⟩
theorem dX2_stuckSet_9 : dc cX2_stuckSet 9 (.if_icmp .ge 35) 3 12 := ⟨by decide +kernel, rfl⟩
theorem dX2_stuckSet_12 : dc cX2_stuckSet 12 (.aload_n 0) 1 13 := ⟨by decide +kernel, rfl⟩
theorem dX2_stuckSet_13 : dc cX2_stuckSet 13 (.getfield 31) 3 16 := ⟨by decide +kernel, rfl⟩
theorem dX2_stuckSet_16 : dc cX2_stuckSet 16 (.iload_n 2) 1 17 := ⟨by decide +kernel, rfl⟩
theorem dX2_stuckSet_17 : dc cX2_stuckSet 17 (.aaload) 1 18 := ⟨by decide +kernel, rfl⟩
theorem dX2_stuckSet_18 : dc cX2_stuckSet 18 (.invokevirtual 228) 3 21 := ⟨by decide +kernel, rfl⟩
theorem dX2_stuckSet_21 : dc cX2_stuckSet 21 (.ifCond .eq 17) 3 24 := ⟨by decide +kernel, rfl⟩
theorem dX2_stuckSet_24 : dc cX2_stuckSet 24 (.aload_n 0) 1 25 := ⟨by decide +kernel, rfl⟩
theorem dX2_stuckSet_25 : dc cX2_stuckSet 25 (.iload_n 2) 1 26 := ⟨by decide +kernel, rfl⟩
theorem dX2_stuckSet_26 : dc cX2_stuckSet 26 (.invokevirtual 231) 3 29 := ⟨by decide +kernel, rfl⟩
theorem dX2_stuckSet_29 : dc cX2_stuckSet 29 (.ifCond .ne 9) 3 32 := ⟨by decide +kernel, rfl⟩
theorem dX2_stuckSet_32 : dc cX2_stuckSet 32 (.iload_n 1) 1 33 := ⟨by decide +kernel, rfl⟩
theorem dX2_stuckSet_33 : dc cX2_stuckSet 33 (.iconst 1) 1 34 := ⟨by decide +kernel, rfl⟩
theorem dX2_stuckSet_34 : dc cX2_stuckSet 34 (.iload_n 2) 1 35 := ⟨by decide +kernel, rfl⟩
theorem dX2_stuckSet_35 : dc cX2_stuckSet 35 (.ishl) 1 36 := ⟨by decide +kernel, rfl⟩
theorem dX2_stuckSet_36 : dc cX2_stuckSet 36 (.ior) 1 37 := ⟨by decide +kernel, rfl⟩
theorem dX2_stuckSet_37 : dc cX2_stuckSet 37 (.istore_n 1) 1 38 := ⟨by decide +kernel, rfl⟩
theorem dX2_stuckSet_38 : dc cX2_stuckSet 38 (.iinc 2 1) 3 41 := ⟨by decide +kernel, rfl⟩
theorem dX2_stuckSet_41 : dc cX2_stuckSet 41 (.goto (-37)) 3 44 := ⟨by decide +kernel, rfl⟩
theorem dX2_stuckSet_44 : dc cX2_stuckSet 44 (.iload_n 1) 1 45 := ⟨by decide +kernel, rfl⟩
theorem dX2_stuckSet_45 : dc cX2_stuckSet 45 (.ireturn) 1 46 := ⟨by decide +kernel, rfl⟩
theorem nm_X2_stuckSet : (yX2_stuckSet).cls ≠ "java/lang/invoke/MethodHandle" ∧ (yX2_stuckSet).cls ≠ "java/lang/invoke/VarHandle" ∧ (parseMethodDescriptor (yX2_stuckSet).desc).map (fun d => d.parameters.length) = some 0 := ⟨by decide +kernel, by decide +kernel, by decide +kernel⟩
set_option maxRecDepth 100000 in
set_option maxHeartbeats 4000000 in
theorem s_X2_stuckSet_4 {ad : Nat → Nat} {cy : Nat → ClassId} {x : KX} (G : KG ad cy x cX2_stuckSet "NoonGuides$Land" 3 (some (some .int)) 4) {a0 : Nat} {M : KM} (h0 : kty a0 = 3) {y : Int32} : ∀ (n : Nat) (w1 : Int32) (w2 : Int32), lp_X2_stuckSet_4 n a0 M w1 w2 = some y → KV ad cy x (some (.int y), M) 4 [(0, .ref (ad a0)), (1, .int w1), (2, .int w2)] [] M := by
  intro n
  induction n with
  | zero =>
    intro w1 w2 hf
    cases hf
  | succ n ih =>
    intro w1 w2 hf
    rw [lp_X2_stuckSet_4] at hf
    refine v_iload_n G dX2_stuckSet_4 2 rfl ?_
    refine v_aload_n G dX2_stuckSet_5 0 rfl ?_
    refine gf_2_10 G h0 t_389 (Or.inl rfl) dX2_stuckSet_6 ?_
    refine v_icmp_ge 44 G dX2_stuckSet_9 (by decide) (fun h9 => ?_) (fun h9 => ?_)
    · replace hf := (if_pos h9).symm.trans hf
      refine v_iload_n G dX2_stuckSet_44 1 rfl ?_
      obtain rfl := Option.some.inj hf
      exact v_iret G dX2_stuckSet_45
    · replace hf := (if_neg h9).symm.trans hf
      refine v_aload_n G dX2_stuckSet_12 0 rfl ?_
      refine gf_2_5 G h0 t_371 (Or.inl rfl) dX2_stuckSet_13 ?_
      refine v_iload_n G dX2_stuckSet_16 2 rfl ?_
      obtain ⟨g1, hf⟩ := gd_e hf
      refine al_Person G (kf_2_6 h0) g1 dX2_stuckSet_17 ?_
      obtain ⟨v2, hcv2⟩ : ∃ q, f_X7_isAtPlace ((a0 + 6) + 8 + 3 * (w2).toNatClampNeg) M = q := ⟨_, rfl⟩
      replace hf := lt_e hf hcv2.symm
      refine v_callV [] G (c_X7_isAtPlace (ke_Person (kf_2_6 h0) (ix_lt g1)) hcv2) (ke_Person (kf_2_6 h0) (ix_lt g1)) (by decide) rfl rfl rfl t_545 t_546 t_547 t_15 t_548 nm_X7_isAtPlace (by decide) (by decide) rfl rfl (Nat.le_of_ble_eq_true rfl) dX2_stuckSet_18 (kv_ri ?_)
      obtain ⟨j38, ej38, hf⟩ := lt_j hf
      have hj38 : ∀ (x3 : Int32), j38 x3 = some y → KV ad cy x (some (.int y), M) 38 [(0, .ref (ad a0)), (1, .int x3), (2, .int w2)] [] M := by
        intro x3 hf
        rw [ej38] at hf
        obtain ⟨v4, ev4⟩ : ∃ q : Int32, q = w2 + (1 : Int32) := ⟨_, rfl⟩
        replace hf := lt_e hf ev4
        refine v_iinc v4 [(2, .int v4), (0, .ref (ad a0)), (1, .int x3)] G dX2_stuckSet_38 2 rfl (by rw [ev4]; rfl) (by decide) rfl ?_
        refine v_goto 4 G dX2_stuckSet_41 (by decide) ?_
        refine v_sub _ [1, 2, 0] rfl ?_
        exact ih x3 v4 hf
      refine v_if_eq 38 G dX2_stuckSet_21 (by decide) (fun h8 => ?_) (fun h8 => ?_)
      · replace hf := (if_pos h8).symm.trans hf
        refine v_sub _ [0, 1, 2] rfl ?_
        exact hj38 w1 hf
      · replace hf := (if_neg h8).symm.trans hf
        refine v_aload_n G dX2_stuckSet_24 0 rfl ?_
        refine v_iload_n G dX2_stuckSet_25 2 rfl ?_
        obtain ⟨v5, hcv5, hf⟩ := bd_e hf
        refine v_callV [.int w2] G (c_X2_canLeave n h0 hcv5) h0 (by decide) rfl rfl rfl t_746 t_748 t_p14 t_13 t_749 nm_X2_canLeave (by decide) (by decide) rfl rfl (Nat.le_of_ble_eq_true rfl) dX2_stuckSet_26 (kv_ri ?_)
        refine v_if_ne 38 G dX2_stuckSet_29 (by decide) (fun h7 => ?_) (fun h7 => ?_)
        · replace hf := (if_neg h7).symm.trans hf
          refine v_sub _ [0, 1, 2] rfl ?_
          exact hj38 w1 hf
        · replace hf := (if_pos h7).symm.trans hf
          refine v_iload_n G dX2_stuckSet_32 1 rfl ?_
          refine v_iconst (1 : Int32) G dX2_stuckSet_33 (by decide) ?_
          refine v_iload_n G dX2_stuckSet_34 2 rfl ?_
          refine v_ishl G dX2_stuckSet_35 ?_
          refine v_ior G dX2_stuckSet_36 ?_
          refine v_nmi (fun v6 ev6 => ?_)
          replace hf := lt_e hf ev6
          refine v_istore_n [(1, .int v6), (0, .ref (ad a0)), (2, .int w2)] G dX2_stuckSet_37 (by decide) rfl ?_
          refine v_sub _ [1, 0, 2] rfl ?_
          exact hj38 v6 hf
set_option maxRecDepth 100000 in
set_option maxHeartbeats 4000000 in
theorem c_X2_stuckSet {l : Launch} {ad : Nat → Nat} {cy : Nat → ClassId} {D : va_G} {z : Nat} (n : Nat) {a0 : Nat} {M : KM} {y : Int32} (h0 : kty a0 = 3) (hf : f_X2_stuckSet n a0 M = some y) : KC l ad cy D z yX2_stuckSet cX2_stuckSet 3 (some .int) 4 [.ref (ad a0)] M (some (.int y), M) := by
  refine kv_enter (by decide +kernel) (Nat.le_of_ble_eq_true rfl) ?_
  intro x hl hD hz G
  subst hl hD hz
  unfold f_X2_stuckSet at hf
  have G : KG ad cy x cX2_stuckSet "NoonGuides$Land" 3 (some (some .int)) 4 := G
  show KV ad cy x (some (.int y), M) 0 [(0, .ref (ad a0))] [] M
  refine v_iconst (0 : Int32) G dX2_stuckSet_0 (by decide) ?_
  refine v_istore_n [(1, .int (0 : Int32)), (0, .ref (ad a0))] G dX2_stuckSet_1 (by decide) rfl ?_
  refine v_iconst (0 : Int32) G dX2_stuckSet_2 (by decide) ?_
  refine v_istore_n [(2, .int (0 : Int32)), (1, .int (0 : Int32)), (0, .ref (ad a0))] G dX2_stuckSet_3 (by decide) rfl ?_
  refine v_sub _ [2, 1, 0] rfl ?_
  refine s_X2_stuckSet_4 G h0 n (0 : Int32) (0 : Int32) hf
abbrev cX2_reachSet : ByteArray := prog_4_method_42_code
def yX2_reachSet : MethodName := ⟨RX2, "reachSet", "(I)I"⟩
theorem dX2_reachSet_0 : dc cX2_reachSet 0 (.aload_n 0) 1 1 := ⟨by decide +kernel, rfl⟩
theorem dX2_reachSet_1 : dc cX2_reachSet 1 (.getfield 31) 3 4 := ⟨by decide +kernel, rfl⟩
theorem dX2_reachSet_4 : dc cX2_reachSet 4 (.iload_n 1) 1 5 := ⟨by decide +kernel, rfl⟩
theorem dX2_reachSet_5 : dc cX2_reachSet 5 (.aaload) 1 6 := ⟨by decide +kernel, rfl⟩
theorem dX2_reachSet_6 : dc cX2_reachSet 6 (.invokevirtual 228) 3 9 := ⟨by decide +kernel, rfl⟩
theorem dX2_reachSet_9 : dc cX2_reachSet 9 (.ifCond .ne 5) 3 12 := ⟨by decide +kernel, rfl⟩
theorem dX2_reachSet_12 : dc cX2_reachSet 12 (.iconst 0) 1 13 := ⟨by decide +kernel, rfl⟩
theorem dX2_reachSet_13 : dc cX2_reachSet 13 (.ireturn) 1 14 := ⟨by decide +kernel, rfl⟩
theorem dX2_reachSet_14 : dc cX2_reachSet 14 (.iconst 1) 1 15 := ⟨by decide +kernel, rfl⟩
theorem dX2_reachSet_15 : dc cX2_reachSet 15 (.aload_n 0) 1 16 := ⟨by decide +kernel, rfl⟩
theorem dX2_reachSet_16 : dc cX2_reachSet 16 (.getfield 31) 3 19 := ⟨by decide +kernel, rfl⟩
theorem dX2_reachSet_19 : dc cX2_reachSet 19 (.iload_n 1) 1 20 := ⟨by decide +kernel, rfl⟩
theorem dX2_reachSet_20 : dc cX2_reachSet 20 (.aaload) 1 21 := ⟨by decide +kernel, rfl⟩
theorem dX2_reachSet_21 : dc cX2_reachSet 21 (.getfield 118) 3 24 := ⟨by decide +kernel, rfl⟩
theorem dX2_reachSet_24 : dc cX2_reachSet 24 (.ishl) 1 25 := ⟨by decide +kernel, rfl⟩
theorem dX2_reachSet_25 : dc cX2_reachSet 25 (.istore_n 2) 1 26 := ⟨by decide +kernel, rfl⟩
theorem dX2_reachSet_26 : dc cX2_reachSet 26 (.iconst 1) 1 27 := ⟨by decide +kernel, rfl⟩
theorem dX2_reachSet_27 : dc cX2_reachSet 27 (.istore_n 3) 1 28 := ⟨by decide +kernel, rfl⟩
theorem dX2_reachSet_28 : dc cX2_reachSet 28 (.iload_n 3) 1 29 := ⟨by decide +kernel, rfl⟩
theorem dX2_reachSet_29 : dc cX2_reachSet 29 (.aload_n 0) 1 30 := ⟨by decide +kernel, rfl⟩
theorem dX2_reachSet_30 : dc cX2_reachSet 30 (.getfield 63) 3 33 := ⟨by decide +kernel, rfl⟩
theorem dX2_reachSet_33 : dc cX2_reachSet 33 (.if_icmp .ge 70) 3 36 := ⟨by decide +kernel, rfl⟩
theorem dX2_reachSet_36 : dc cX2_reachSet 36 (.iconst 0) 1 37 := ⟨by decide +kernel, rfl⟩
theorem dX2_reachSet_37 : dc cX2_reachSet 37 (.istore 4) 2 39 := ⟨by decide +kernel, rfl⟩
theorem dX2_reachSet_39 : dc cX2_reachSet 39 (.iload 4) 2 41 := ⟨by decide +kernel, rfl⟩
theorem dX2_reachSet_41 : dc cX2_reachSet 41 (.aload_n 0) 1 42 := ⟨by decide +kernel, rfl⟩
theorem dX2_reachSet_42 : dc cX2_reachSet 42 (.getfield 66) 3 45 := ⟨by decide +kernel, rfl⟩
theorem dX2_reachSet_45 : dc cX2_reachSet 45 (.if_icmp .ge 52) 3 48 := ⟨by decide +kernel, rfl⟩
theorem dX2_reachSet_48 : dc cX2_reachSet 48 (.iconst 1) 1 49 := ⟨by decide +kernel, rfl⟩
theorem dX2_reachSet_49 : dc cX2_reachSet 49 (.aload_n 0) 1 50 := ⟨by decide +kernel, rfl⟩
theorem dX2_reachSet_50 : dc cX2_reachSet 50 (.getfield 15) 3 53 := ⟨by decide +kernel, rfl⟩
theorem dX2_reachSet_53 : dc cX2_reachSet 53 (.iload 4) 2 55 := ⟨by decide +kernel, rfl⟩
theorem dX2_reachSet_55 : dc cX2_reachSet 55 (.iaload) 1 56 := ⟨by decide +kernel, rfl⟩
theorem dX2_reachSet_56 : dc cX2_reachSet 56 (.ishl) 1 57 := ⟨by decide +kernel, rfl⟩
theorem dX2_reachSet_57 : dc cX2_reachSet 57 (.iconst 1) 1 58 := ⟨by decide +kernel, rfl⟩
theorem dX2_reachSet_58 : dc cX2_reachSet 58 (.aload_n 0) 1 59 := ⟨by decide +kernel, rfl⟩
theorem dX2_reachSet_59 : dc cX2_reachSet 59 (.getfield 19) 3 62 := ⟨by decide +kernel, rfl⟩
theorem dX2_reachSet_62 : dc cX2_reachSet 62 (.iload 4) 2 64 := ⟨by decide +kernel, rfl⟩
theorem dX2_reachSet_64 : dc cX2_reachSet 64 (.iaload) 1 65 := ⟨by decide +kernel, rfl⟩
theorem dX2_reachSet_65 : dc cX2_reachSet 65 (.ishl) 1 66 := ⟨by decide +kernel, rfl⟩
theorem dX2_reachSet_66 : dc cX2_reachSet 66 (.ior) 1 67 := ⟨by decide +kernel, rfl⟩
theorem dX2_reachSet_67 : dc cX2_reachSet 67 (.istore 5) 2 69 := ⟨by decide +kernel, rfl⟩
theorem dX2_reachSet_69 : dc cX2_reachSet 69 (.iload_n 2) 1 70 := ⟨by decide +kernel, rfl⟩
theorem dX2_reachSet_70 : dc cX2_reachSet 70 (.iload 5) 2 72 := ⟨by decide +kernel, rfl⟩
theorem dX2_reachSet_72 : dc cX2_reachSet 72 (.iand) 1 73 := ⟨by decide +kernel, rfl⟩
theorem dX2_reachSet_73 : dc cX2_reachSet 73 (.ifCond .eq 18) 3 76 := ⟨by decide +kernel, rfl⟩
theorem dX2_reachSet_76 : dc cX2_reachSet 76 (.aload_n 0) 1 77 := ⟨by decide +kernel, rfl⟩
theorem dX2_reachSet_77 : dc cX2_reachSet 77 (.iload_n 1) 1 78 := ⟨by decide +kernel, rfl⟩
theorem dX2_reachSet_78 : dc cX2_reachSet 78 (.iload 4) 2 80 := ⟨by decide +kernel, rfl⟩
theorem dX2_reachSet_80 : dc cX2_reachSet 80 (.invokevirtual 161) 3 83 := ⟨by decide +kernel, rfl⟩
theorem dX2_reachSet_83 : dc cX2_reachSet 83 (.ifCond .eq 8) 3 86 := ⟨by decide +kernel, rfl⟩
theorem dX2_reachSet_86 : dc cX2_reachSet 86 (.iload_n 2) 1 87 := ⟨by decide +kernel, rfl⟩
theorem dX2_reachSet_87 : dc cX2_reachSet 87 (.iload 5) 2 89 := ⟨by decide +kernel, rfl⟩
theorem dX2_reachSet_89 : dc cX2_reachSet 89 (.ior) 1 90 := ⟨by decide +kernel, rfl⟩
theorem dX2_reachSet_90 : dc cX2_reachSet 90 (.istore_n 2) 1 91 := ⟨by decide +kernel, rfl⟩
theorem dX2_reachSet_91 : dc cX2_reachSet 91 (.iinc 4 1) 3 94 := ⟨by decide +kernel, rfl⟩
theorem dX2_reachSet_94 : dc cX2_reachSet 94 (.goto (-55)) 3 97 := ⟨by decide +kernel, rfl⟩
theorem dX2_reachSet_97 : dc cX2_reachSet 97 (.iinc 3 1) 3 100 := ⟨by decide +kernel, rfl⟩
theorem dX2_reachSet_100 : dc cX2_reachSet 100 (.goto (-72)) 3 103 := ⟨by decide +kernel, rfl⟩
theorem dX2_reachSet_103 : dc cX2_reachSet 103 (.iload_n 2) 1 104 := ⟨by decide +kernel, rfl⟩
theorem dX2_reachSet_104 : dc cX2_reachSet 104 (.ireturn) 1 105 := ⟨by decide +kernel, rfl⟩
theorem nm_X2_reachSet : (yX2_reachSet).cls ≠ "java/lang/invoke/MethodHandle" ∧ (yX2_reachSet).cls ≠ "java/lang/invoke/VarHandle" ∧ (parseMethodDescriptor (yX2_reachSet).desc).map (fun d => d.parameters.length) = some 1 := ⟨by decide +kernel, by decide +kernel, by decide +kernel⟩
set_option maxRecDepth 100000 in
set_option maxHeartbeats 4000000 in
theorem s_X2_reachSet_39 {ad : Nat → Nat} {cy : Nat → ClassId} {x : KX} (G : KG ad cy x cX2_reachSet "NoonGuides$Land" 6 (some (some .int)) 3) {a0 : Nat} {c1 : Int32} {c3 : Int32} {M : KM} (h0 : kty a0 = 3) {k97 : Int32 → Option Int32} {y : Int32} (hk97 : ∀ (u2 : Int32), k97 u2 = some y → KV ad cy x (some (.int y), M) 97 [(0, .ref (ad a0)), (1, .int c1), (2, .int u2), (3, .int c3)] [] M) : ∀ (n : Nat) (w2 : Int32) (w4 : Int32), lp_X2_reachSet_39 n a0 c1 c3 M w2 w4 k97 = some y → KV ad cy x (some (.int y), M) 39 [(0, .ref (ad a0)), (1, .int c1), (2, .int w2), (3, .int c3), (4, .int w4)] [] M := by
  intro n
  induction n with
  | zero =>
    intro w2 w4 hf
    cases hf
  | succ n ih =>
    intro w2 w4 hf
    rw [lp_X2_reachSet_39] at hf
    refine v_iload G dX2_reachSet_39 4 rfl ?_
    refine v_aload_n G dX2_reachSet_41 0 rfl ?_
    refine gf_2_9 G h0 t_385 (Or.inl rfl) dX2_reachSet_42 ?_
    refine v_icmp_ge 97 G dX2_reachSet_45 (by decide) (fun h14 => ?_) (fun h14 => ?_)
    · replace hf := (if_pos h14).symm.trans hf
      refine v_sub _ [0, 1, 2, 3] rfl ?_
      exact hk97 w2 hf
    · replace hf := (if_neg h14).symm.trans hf
      refine v_iconst (1 : Int32) G dX2_reachSet_48 (by decide) ?_
      refine v_aload_n G dX2_reachSet_49 0 rfl ?_
      refine gf_2_1 G h0 t_364 (Or.inl rfl) dX2_reachSet_50 ?_
      refine v_iload G dX2_reachSet_53 4 rfl ?_
      obtain ⟨g5, hf⟩ := gd_e hf
      refine al_30 G (kf_2_2 h0) g5 dX2_reachSet_55 ?_
      refine v_ishl G dX2_reachSet_56 ?_
      refine v_iconst (1 : Int32) G dX2_reachSet_57 (by decide) ?_
      refine v_aload_n G dX2_reachSet_58 0 rfl ?_
      refine gf_2_2 G h0 t_366 (Or.inl rfl) dX2_reachSet_59 ?_
      refine v_iload G dX2_reachSet_62 4 rfl ?_
      obtain ⟨g6, hf⟩ := gd_e hf
      refine al_30 G (kf_2_3 h0) g6 dX2_reachSet_64 ?_
      refine v_ishl G dX2_reachSet_65 ?_
      refine v_ior G dX2_reachSet_66 ?_
      refine v_nmi (fun v7 ev7 => ?_)
      replace hf := lt_e hf ev7
      refine v_istore [(5, .int v7), (0, .ref (ad a0)), (1, .int c1), (2, .int w2), (3, .int c3), (4, .int w4)] G dX2_reachSet_67 (by decide) rfl ?_
      refine v_iload_n G dX2_reachSet_69 3 rfl ?_
      refine v_iload G dX2_reachSet_70 0 rfl ?_
      refine v_iand G dX2_reachSet_72 ?_
      obtain ⟨j91, ej91, hf⟩ := lt_j hf
      have hj91 : ∀ (x8 : Int32), j91 x8 = some y → KV ad cy x (some (.int y), M) 91 [(0, .ref (ad a0)), (1, .int c1), (2, .int x8), (3, .int c3), (4, .int w4)] [] M := by
        intro x8 hf
        rw [ej91] at hf
        obtain ⟨v9, ev9⟩ : ∃ q : Int32, q = w4 + (1 : Int32) := ⟨_, rfl⟩
        replace hf := lt_e hf ev9
        refine v_iinc v9 [(4, .int v9), (0, .ref (ad a0)), (1, .int c1), (2, .int x8), (3, .int c3)] G dX2_reachSet_91 4 rfl (by rw [ev9]; rfl) (by decide) rfl ?_
        refine v_goto 39 G dX2_reachSet_94 (by decide) ?_
        refine v_sub _ [1, 2, 3, 4, 0] rfl ?_
        exact ih x8 v9 hf
      refine v_if_eq 91 G dX2_reachSet_73 (by decide) (fun h13 => ?_) (fun h13 => ?_)
      · replace hf := (if_pos h13).symm.trans hf
        refine v_sub _ [1, 2, 3, 4, 5] rfl ?_
        exact hj91 w2 hf
      · replace hf := (if_neg h13).symm.trans hf
        refine v_aload_n G dX2_reachSet_76 1 rfl ?_
        refine v_iload_n G dX2_reachSet_77 2 rfl ?_
        refine v_iload G dX2_reachSet_78 5 rfl ?_
        obtain ⟨v10, hcv10, hf⟩ := bd_e hf
        refine v_callV [.int c1, .int w4] G (c_X2_isAble n h0 hcv10) h0 (by decide) rfl rfl rfl t_690 t_691 t_692 t_13 t_693 nm_X2_isAble (by decide) (by decide) rfl rfl (Nat.le_of_ble_eq_true rfl) dX2_reachSet_80 (kv_ri ?_)
        refine v_if_eq 91 G dX2_reachSet_83 (by decide) (fun h12 => ?_) (fun h12 => ?_)
        · replace hf := (if_pos h12).symm.trans hf
          refine v_sub _ [1, 2, 3, 4, 5] rfl ?_
          exact hj91 w2 hf
        · replace hf := (if_neg h12).symm.trans hf
          refine v_iload_n G dX2_reachSet_86 3 rfl ?_
          refine v_iload G dX2_reachSet_87 0 rfl ?_
          refine v_ior G dX2_reachSet_89 ?_
          refine v_nmi (fun v11 ev11 => ?_)
          replace hf := lt_e hf ev11
          refine v_istore_n [(2, .int v11), (5, .int v7), (0, .ref (ad a0)), (1, .int c1), (3, .int c3), (4, .int w4)] G dX2_reachSet_90 (by decide) rfl ?_
          refine v_sub _ [2, 3, 0, 4, 5] rfl ?_
          exact hj91 v11 hf
set_option maxRecDepth 100000 in
set_option maxHeartbeats 4000000 in
theorem s_X2_reachSet_28 {ad : Nat → Nat} {cy : Nat → ClassId} {x : KX} (G : KG ad cy x cX2_reachSet "NoonGuides$Land" 6 (some (some .int)) 3) {a0 : Nat} {c1 : Int32} {M : KM} (h0 : kty a0 = 3) {y : Int32} : ∀ (n : Nat) (w2 : Int32) (w3 : Int32), lp_X2_reachSet_28 n a0 c1 M w2 w3 = some y → KV ad cy x (some (.int y), M) 28 [(0, .ref (ad a0)), (1, .int c1), (2, .int w2), (3, .int w3)] [] M := by
  intro n
  induction n with
  | zero =>
    intro w2 w3 hf
    cases hf
  | succ n ih =>
    intro w2 w3 hf
    rw [lp_X2_reachSet_28] at hf
    refine v_iload_n G dX2_reachSet_28 3 rfl ?_
    refine v_aload_n G dX2_reachSet_29 0 rfl ?_
    refine gf_2_8 G h0 t_381 (Or.inl rfl) dX2_reachSet_30 ?_
    refine v_icmp_ge 103 G dX2_reachSet_33 (by decide) (fun h17 => ?_) (fun h17 => ?_)
    · replace hf := (if_pos h17).symm.trans hf
      refine v_iload_n G dX2_reachSet_103 2 rfl ?_
      obtain rfl := Option.some.inj hf
      exact v_iret G dX2_reachSet_104
    · replace hf := (if_neg h17).symm.trans hf
      refine v_iconst (0 : Int32) G dX2_reachSet_36 (by decide) ?_
      refine v_istore [(4, .int (0 : Int32)), (0, .ref (ad a0)), (1, .int c1), (2, .int w2), (3, .int w3)] G dX2_reachSet_37 (by decide) rfl ?_
      refine v_sub _ [1, 2, 3, 4, 0] rfl ?_
      refine s_X2_reachSet_39 G h0 (fun u15 hf => ?_) n w2 (0 : Int32) hf
      · obtain ⟨v16, ev16⟩ : ∃ q : Int32, q = w3 + (1 : Int32) := ⟨_, rfl⟩
        replace hf := lt_e hf ev16
        refine v_iinc v16 [(3, .int v16), (0, .ref (ad a0)), (1, .int c1), (2, .int u15)] G dX2_reachSet_97 3 rfl (by rw [ev16]; rfl) (by decide) rfl ?_
        refine v_goto 28 G dX2_reachSet_100 (by decide) ?_
        refine v_sub _ [1, 2, 3, 0] rfl ?_
        exact ih u15 v16 hf
set_option maxRecDepth 100000 in
set_option maxHeartbeats 4000000 in
theorem c_X2_reachSet {l : Launch} {ad : Nat → Nat} {cy : Nat → ClassId} {D : va_G} {z : Nat} (n : Nat) {a0 : Nat} {p1 : Int32} {M : KM} {y : Int32} (h0 : kty a0 = 3) (hf : f_X2_reachSet n a0 p1 M = some y) : KC l ad cy D z yX2_reachSet cX2_reachSet 6 (some .int) 3 [.ref (ad a0), .int p1] M (some (.int y), M) := by
  refine kv_enter (by decide +kernel) (Nat.le_of_ble_eq_true rfl) ?_
  intro x hl hD hz G
  subst hl hD hz
  unfold f_X2_reachSet at hf
  have G : KG ad cy x cX2_reachSet "NoonGuides$Land" 6 (some (some .int)) 3 := G
  show KV ad cy x (some (.int y), M) 0 [(0, .ref (ad a0)), (1, .int p1)] [] M
  refine v_aload_n G dX2_reachSet_0 0 rfl ?_
  refine gf_2_5 G h0 t_371 (Or.inl rfl) dX2_reachSet_1 ?_
  refine v_iload_n G dX2_reachSet_4 1 rfl ?_
  obtain ⟨g1, hf⟩ := gd_e hf
  refine al_Person G (kf_2_6 h0) g1 dX2_reachSet_5 ?_
  obtain ⟨v2, hcv2⟩ : ∃ q, f_X7_isAtPlace ((a0 + 6) + 8 + 3 * (p1).toNatClampNeg) M = q := ⟨_, rfl⟩
  replace hf := lt_e hf hcv2.symm
  refine v_callV [] G (c_X7_isAtPlace (ke_Person (kf_2_6 h0) (ix_lt g1)) hcv2) (ke_Person (kf_2_6 h0) (ix_lt g1)) (by decide) rfl rfl rfl t_545 t_546 t_547 t_15 t_548 nm_X7_isAtPlace (by decide) (by decide) rfl rfl (Nat.le_of_ble_eq_true rfl) dX2_reachSet_6 (kv_ri ?_)
  refine v_if_ne 14 G dX2_reachSet_9 (by decide) (fun h18 => ?_) (fun h18 => ?_)
  · replace hf := (if_neg h18).symm.trans hf
    refine v_iconst (1 : Int32) G dX2_reachSet_14 (by decide) ?_
    refine v_aload_n G dX2_reachSet_15 0 rfl ?_
    refine gf_2_5 G h0 t_371 (Or.inl rfl) dX2_reachSet_16 ?_
    refine v_iload_n G dX2_reachSet_19 1 rfl ?_
    obtain ⟨g3, hf⟩ := gd_e hf
    refine al_Person G (kf_2_6 h0) g3 dX2_reachSet_20 ?_
    refine gf_7_5 G (ke_Person (kf_2_6 h0) (ix_lt g3)) t_322 (Or.inl rfl) dX2_reachSet_21 ?_
    refine v_ishl G dX2_reachSet_24 ?_
    refine v_nmi (fun v4 ev4 => ?_)
    replace hf := lt_e hf ev4
    refine v_istore_n [(2, .int v4), (0, .ref (ad a0)), (1, .int p1)] G dX2_reachSet_25 (by decide) rfl ?_
    refine v_iconst (1 : Int32) G dX2_reachSet_26 (by decide) ?_
    refine v_istore_n [(3, .int (1 : Int32)), (2, .int v4), (0, .ref (ad a0)), (1, .int p1)] G dX2_reachSet_27 (by decide) rfl ?_
    refine v_sub _ [2, 3, 1, 0] rfl ?_
    refine s_X2_reachSet_28 G h0 n v4 (1 : Int32) hf
  · replace hf := (if_pos h18).symm.trans hf
    refine v_iconst (0 : Int32) G dX2_reachSet_12 (by decide) ?_
    obtain rfl := Option.some.inj hf
    exact v_iret G dX2_reachSet_13
