abbrev cX12_status : ByteArray := prog_14_method_3_code
def yX12_status : MethodName := ⟨RX12, "status", "()I"⟩
theorem dX12_status_0 : dc cX12_status 0 (.aload_n 0) 1 1 := ⟨by decide +kernel, rfl⟩
theorem dX12_status_1 : dc cX12_status 1 (.iconst 0) 1 2 := ⟨by decide +kernel, rfl⟩
theorem dX12_status_2 : dc cX12_status 2 (.putfield 75) 3 5 := ⟨by decide +kernel, rfl⟩
theorem dX12_status_5 : dc cX12_status 5 (.aload_n 0) 1 6 := ⟨by decide +kernel, rfl⟩
theorem dX12_status_6 : dc cX12_status 6 (.getfield 78) 3 9 := ⟨by decide +kernel, rfl⟩
theorem dX12_status_9 : dc cX12_status 9 (.ireturn) 1 10 := ⟨by decide +kernel, rfl⟩
theorem nm_X12_status : (yX12_status).cls ≠ "java/lang/invoke/MethodHandle" ∧ (yX12_status).cls ≠ "java/lang/invoke/VarHandle" ∧ (parseMethodDescriptor (yX12_status).desc).map (fun d => d.parameters.length) = some 0 := ⟨by decide +kernel, by decide +kernel, by decide +kernel⟩
set_option maxRecDepth 100000 in
set_option maxHeartbeats 4000000 in
theorem c_X12_status {l : Launch} {ad : Nat → Nat} {cy : Nat → ClassId} {D : va_G} {z : Nat} {a0 : Nat} {M : KM} {y : (Int32 × KM)} (h0 : kty a0 = 12) (hf : f_X12_status a0 M = y) : KC l ad cy D z yX12_status cX12_status 1 (some .int) 1 [.ref (ad a0)] M (some (.int y.1), y.2) := by
  refine kv_enter (by decide +kernel) (Nat.le_of_ble_eq_true rfl) ?_
  intro x hl hD hz G
  subst hl hD hz
  unfold f_X12_status at hf
  have G : KG ad cy x cX12_status "NoonGuidesModel" 1 (some (some .int)) 1 := G
  show KV ad cy x (some (.int y.1), y.2) 0 [(0, .ref (ad a0))] [] M
  refine v_aload_n G dX12_status_0 0 rfl ?_
  refine v_iconst (0 : Int32) G dX12_status_1 (by decide) ?_
  refine pf_12_1 G h0 t_1492 (Or.inl rfl) dX12_status_2 ?_
  refine v_nmM (fun M1 eM1 => ?_)
  replace hf := lt_e hf eM1
  refine v_aload_n G dX12_status_5 0 rfl ?_
  refine gf_12_0 G h0 t_1491 (Or.inl rfl) dX12_status_6 ?_
  obtain rfl := hf
  exact v_iret G dX12_status_9
abbrev cX12_top : ByteArray := prog_14_method_4_code
def yX12_top : MethodName := ⟨RX12, "top", "()J"⟩
theorem dX12_top_0 : dc cX12_top 0 (.aload_n 0) 1 1 := ⟨by decide +kernel, rfl⟩
theorem dX12_top_1 : dc cX12_top 1 (.iconst 0) 1 2 := ⟨by decide +kernel, rfl⟩
theorem dX12_top_2 : dc cX12_top 2 (.putfield 75) 3 5 := ⟨by decide +kernel, rfl⟩
theorem dX12_top_5 : dc cX12_top 5 (.aload_n 0) 1 6 := ⟨by decide +kernel, rfl⟩
theorem dX12_top_6 : dc cX12_top 6 (.getfield 81) 3 9 := ⟨by decide +kernel, rfl⟩
theorem dX12_top_9 : dc cX12_top 9 (.lreturn) 1 10 := ⟨by decide +kernel, rfl⟩
theorem nm_X12_top : (yX12_top).cls ≠ "java/lang/invoke/MethodHandle" ∧ (yX12_top).cls ≠ "java/lang/invoke/VarHandle" ∧ (parseMethodDescriptor (yX12_top).desc).map (fun d => d.parameters.length) = some 0 := ⟨by decide +kernel, by decide +kernel, by decide +kernel⟩
set_option maxRecDepth 100000 in
set_option maxHeartbeats 4000000 in
theorem c_X12_top {l : Launch} {ad : Nat → Nat} {cy : Nat → ClassId} {D : va_G} {z : Nat} {a0 : Nat} {M : KM} {y : (Int64 × KM)} (h0 : kty a0 = 12) (hf : f_X12_top a0 M = y) : KC l ad cy D z yX12_top cX12_top 1 (some .long) 1 [.ref (ad a0)] M (some (.long y.1), y.2) := by
  refine kv_enter (by decide +kernel) (Nat.le_of_ble_eq_true rfl) ?_
  intro x hl hD hz G
  subst hl hD hz
  unfold f_X12_top at hf
  have G : KG ad cy x cX12_top "NoonGuidesModel" 1 (some (some .long)) 1 := G
  show KV ad cy x (some (.long y.1), y.2) 0 [(0, .ref (ad a0))] [] M
  refine v_aload_n G dX12_top_0 0 rfl ?_
  refine v_iconst (0 : Int32) G dX12_top_1 (by decide) ?_
  refine pf_12_1 G h0 t_1492 (Or.inl rfl) dX12_top_2 ?_
  refine v_nmM (fun M1 eM1 => ?_)
  replace hf := lt_e hf eM1
  refine v_aload_n G dX12_top_5 0 rfl ?_
  refine gf_12_2 G h0 t_1493 (Or.inl rfl) dX12_top_6 ?_
  obtain rfl := hf
  exact v_lret G dX12_top_9
abbrev cX12_bottom : ByteArray := prog_14_method_5_code
def yX12_bottom : MethodName := ⟨RX12, "bottom", "()J"⟩
theorem dX12_bottom_0 : dc cX12_bottom 0 (.aload_n 0) 1 1 := ⟨by decide +kernel, rfl⟩
theorem dX12_bottom_1 : dc cX12_bottom 1 (.iconst 0) 1 2 := ⟨by decide +kernel, rfl⟩
theorem dX12_bottom_2 : dc cX12_bottom 2 (.putfield 75) 3 5 := ⟨by decide +kernel, rfl⟩
theorem dX12_bottom_5 : dc cX12_bottom 5 (.aload_n 0) 1 6 := ⟨by decide +kernel, rfl⟩
theorem dX12_bottom_6 : dc cX12_bottom 6 (.getfield 7) 3 9 := ⟨by decide +kernel, rfl⟩
theorem dX12_bottom_9 : dc cX12_bottom 9 (.lreturn) 1 10 := ⟨by decide +kernel, rfl⟩
theorem nm_X12_bottom : (yX12_bottom).cls ≠ "java/lang/invoke/MethodHandle" ∧ (yX12_bottom).cls ≠ "java/lang/invoke/VarHandle" ∧ (parseMethodDescriptor (yX12_bottom).desc).map (fun d => d.parameters.length) = some 0 := ⟨by decide +kernel, by decide +kernel, by decide +kernel⟩
set_option maxRecDepth 100000 in
set_option maxHeartbeats 4000000 in
theorem c_X12_bottom {l : Launch} {ad : Nat → Nat} {cy : Nat → ClassId} {D : va_G} {z : Nat} {a0 : Nat} {M : KM} {y : (Int64 × KM)} (h0 : kty a0 = 12) (hf : f_X12_bottom a0 M = y) : KC l ad cy D z yX12_bottom cX12_bottom 1 (some .long) 1 [.ref (ad a0)] M (some (.long y.1), y.2) := by
  refine kv_enter (by decide +kernel) (Nat.le_of_ble_eq_true rfl) ?_
  intro x hl hD hz G
  subst hl hD hz
  unfold f_X12_bottom at hf
  have G : KG ad cy x cX12_bottom "NoonGuidesModel" 1 (some (some .long)) 1 := G
  show KV ad cy x (some (.long y.1), y.2) 0 [(0, .ref (ad a0))] [] M
  refine v_aload_n G dX12_bottom_0 0 rfl ?_
  refine v_iconst (0 : Int32) G dX12_bottom_1 (by decide) ?_
  refine pf_12_1 G h0 t_1492 (Or.inl rfl) dX12_bottom_2 ?_
  refine v_nmM (fun M1 eM1 => ?_)
  replace hf := lt_e hf eM1
  refine v_aload_n G dX12_bottom_5 0 rfl ?_
  refine gf_12_3 G h0 t_1494 (Or.inl rfl) dX12_bottom_6 ?_
  obtain rfl := hf
  exact v_lret G dX12_bottom_9
abbrev cX12_refuse : ByteArray := prog_14_method_6_code
def yX12_refuse : MethodName := ⟨RX12, "refuse", "(I)I"⟩
theorem dX12_refuse_0 : dc cX12_refuse 0 (.aload_n 0) 1 1 := ⟨by decide +kernel, rfl⟩
theorem dX12_refuse_1 : dc cX12_refuse 1 (.iload_n 1) 1 2 := ⟨by decide +kernel, rfl⟩
theorem dX12_refuse_2 : dc cX12_refuse 2 (.putfield 78) 3 5 := ⟨by decide +kernel, rfl⟩
theorem dX12_refuse_5 : dc cX12_refuse 5 (.iconst (-1)) 1 6 := ⟨by decide +kernel, rfl⟩
theorem dX12_refuse_6 : dc cX12_refuse 6 (.ireturn) 1 7 := ⟨by decide +kernel, rfl⟩
theorem nm_X12_refuse : (yX12_refuse).cls ≠ "java/lang/invoke/MethodHandle" ∧ (yX12_refuse).cls ≠ "java/lang/invoke/VarHandle" ∧ (parseMethodDescriptor (yX12_refuse).desc).map (fun d => d.parameters.length) = some 1 := ⟨by decide +kernel, by decide +kernel, by decide +kernel⟩
set_option maxRecDepth 100000 in
set_option maxHeartbeats 4000000 in
theorem c_X12_refuse {l : Launch} {ad : Nat → Nat} {cy : Nat → ClassId} {D : va_G} {z : Nat} {a0 : Nat} {p1 : Int32} {M : KM} {y : (Int32 × KM)} (h0 : kty a0 = 12) (hf : f_X12_refuse a0 p1 M = y) : KC l ad cy D z yX12_refuse cX12_refuse 2 (some .int) 1 [.ref (ad a0), .int p1] M (some (.int y.1), y.2) := by
  refine kv_enter (by decide +kernel) (Nat.le_of_ble_eq_true rfl) ?_
  intro x hl hD hz G
  subst hl hD hz
  unfold f_X12_refuse at hf
  have G : KG ad cy x cX12_refuse "NoonGuidesModel" 2 (some (some .int)) 1 := G
  show KV ad cy x (some (.int y.1), y.2) 0 [(0, .ref (ad a0)), (1, .int p1)] [] M
  refine v_aload_n G dX12_refuse_0 0 rfl ?_
  refine v_iload_n G dX12_refuse_1 1 rfl ?_
  refine pf_12_0 G h0 t_1491 (Or.inl rfl) dX12_refuse_2 ?_
  refine v_nmM (fun M1 eM1 => ?_)
  replace hf := lt_e hf eM1
  refine v_iconst (-1 : Int32) G dX12_refuse_5 (by decide) ?_
  obtain rfl := hf
  exact v_iret G dX12_refuse_6
abbrev cX12_no : ByteArray := prog_14_method_7_code
def yX12_no : MethodName := ⟨RX12, "no", "(I)Z"⟩
theorem dX12_no_0 : dc cX12_no 0 (.aload_n 0) 1 1 := ⟨by decide +kernel, rfl⟩
theorem dX12_no_1 : dc cX12_no 1 (.iload_n 1) 1 2 := ⟨by decide +kernel, rfl⟩
theorem dX12_no_2 : dc cX12_no 2 (.putfield 78) 3 5 := ⟨by decide +kernel, rfl⟩
theorem dX12_no_5 : dc cX12_no 5 (.iconst 0) 1 6 := ⟨by decide +kernel, rfl⟩
theorem dX12_no_6 : dc cX12_no 6 (.ireturn) 1 7 := ⟨by decide +kernel, rfl⟩
theorem nm_X12_no : (yX12_no).cls ≠ "java/lang/invoke/MethodHandle" ∧ (yX12_no).cls ≠ "java/lang/invoke/VarHandle" ∧ (parseMethodDescriptor (yX12_no).desc).map (fun d => d.parameters.length) = some 1 := ⟨by decide +kernel, by decide +kernel, by decide +kernel⟩
set_option maxRecDepth 100000 in
theorem z_X12_no {a0 : Nat} {p1 : Int32} {M : KM} {y : (Int32 × KM)} (hf : f_X12_no a0 p1 M = y) : (y.1 = 0 ∨ y.1 = 1) := by
  unfold f_X12_no at hf
  obtain ⟨M1, eM1⟩ : ∃ q : KM, q = (uI M a0 0 p1) := ⟨_, rfl⟩
  replace hf := lt_e hf eM1
  obtain rfl := hf
  exact (Or.inl rfl)
set_option maxRecDepth 100000 in
set_option maxHeartbeats 4000000 in
theorem c_X12_no {l : Launch} {ad : Nat → Nat} {cy : Nat → ClassId} {D : va_G} {z : Nat} {a0 : Nat} {p1 : Int32} {M : KM} {y : (Int32 × KM)} (h0 : kty a0 = 12) (hf : f_X12_no a0 p1 M = y) : KC l ad cy D z yX12_no cX12_no 2 (some .boolean) 1 [.ref (ad a0), .int p1] M (some (.int y.1), y.2) := by
  refine kv_enter (by decide +kernel) (Nat.le_of_ble_eq_true rfl) ?_
  intro x hl hD hz G
  subst hl hD hz
  unfold f_X12_no at hf
  have G : KG ad cy x cX12_no "NoonGuidesModel" 2 (some (some .boolean)) 1 := G
  show KV ad cy x (some (.int y.1), y.2) 0 [(0, .ref (ad a0)), (1, .int p1)] [] M
  refine v_aload_n G dX12_no_0 0 rfl ?_
  refine v_iload_n G dX12_no_1 1 rfl ?_
  refine pf_12_0 G h0 t_1491 (Or.inl rfl) dX12_no_2 ?_
  refine v_nmM (fun M1 eM1 => ?_)
  replace hf := lt_e hf eM1
  refine v_iconst (0 : Int32) G dX12_no_5 (by decide) ?_
  obtain rfl := hf
  exact v_zret G (Or.inl rfl) dX12_no_6
abbrev cX12_isIn : ByteArray := prog_14_method_8_code
def yX12_isIn : MethodName := ⟨RX12, "isIn", "(JJJ)Z"⟩
theorem dX12_isIn_0 : dc cX12_isIn 0 (.lload_n 0) 1 1 := ⟨by decide +kernel, rfl⟩
theorem dX12_isIn_1 : dc cX12_isIn 1 (.lload_n 2) 1 2 := ⟨by decide +kernel, rfl⟩
theorem dX12_isIn_2 : dc cX12_isIn 2 (.lcmp) 1 3 := ⟨by decide +kernel, rfl⟩
theorem dX12_isIn_3 : dc cX12_isIn 3 (.ifCond .lt 14) 3 6 := ⟨by decide +kernel, rfl⟩
theorem dX12_isIn_6 : dc cX12_isIn 6 (.lload_n 0) 1 7 := ⟨by decide +kernel, rfl⟩
theorem dX12_isIn_7 : dc cX12_isIn 7 (.lload 4) 2 9 := ⟨by decide +kernel, rfl⟩
theorem dX12_isIn_9 : dc cX12_isIn 9 (.lcmp) 1 10 := ⟨by decide +kernel, rfl⟩
theorem dX12_isIn_10 : dc cX12_isIn 10 (.ifCond .gt 7) 3 13 := ⟨by decide +kernel, rfl⟩
theorem dX12_isIn_13 : dc cX12_isIn 13 (.iconst 1) 1 14 := ⟨by decide +kernel, rfl⟩
theorem dX12_isIn_14 : dc cX12_isIn 14 (.goto 4) 3 17 := ⟨by decide +kernel, rfl⟩
theorem dX12_isIn_17 : dc cX12_isIn 17 (.iconst 0) 1 18 := ⟨by decide +kernel, rfl⟩
theorem dX12_isIn_18 : dc cX12_isIn 18 (.ireturn) 1 19 := ⟨by decide +kernel, rfl⟩
theorem nm_X12_isIn : (yX12_isIn).cls ≠ "java/lang/invoke/MethodHandle" ∧ (yX12_isIn).cls ≠ "java/lang/invoke/VarHandle" ∧ (parseMethodDescriptor (yX12_isIn).desc).map (fun d => d.parameters.length) = some 3 := ⟨by decide +kernel, by decide +kernel, by decide +kernel⟩
set_option maxRecDepth 100000 in
theorem z_X12_isIn {p0 : Int64} {p2 : Int64} {p4 : Int64} {M : KM} {y : Int32} (hf : f_X12_isIn p0 p2 p4 M = y) : (y = 0 ∨ y = 1) := by
  unfold f_X12_isIn at hf
  by_cases h2 : (lg_cmp p0 p2) < 0
  · replace hf := (if_pos h2).symm.trans hf
    obtain rfl := hf
    exact (Or.inl rfl)
  · replace hf := (if_neg h2).symm.trans hf
    by_cases h1 : 0 < (lg_cmp p0 p4)
    · replace hf := (if_pos h1).symm.trans hf
      obtain rfl := hf
      exact (Or.inl rfl)
    · replace hf := (if_neg h1).symm.trans hf
      obtain rfl := hf
      exact (Or.inr rfl)
set_option maxRecDepth 100000 in
set_option maxHeartbeats 4000000 in
theorem c_X12_isIn {l : Launch} {ad : Nat → Nat} {cy : Nat → ClassId} {D : va_G} {z : Nat} {p0 : Int64} {p2 : Int64} {p4 : Int64} {M : KM} {y : Int32} (hf : f_X12_isIn p0 p2 p4 M = y) : KC l ad cy D z yX12_isIn cX12_isIn 6 (some .boolean) 1 [.long p0, .long p2, .long p4] M (some (.int y), M) := by
  refine kv_enter (by decide +kernel) (Nat.le_of_ble_eq_true rfl) ?_
  intro x hl hD hz G
  subst hl hD hz
  unfold f_X12_isIn at hf
  have G : KG ad cy x cX12_isIn "NoonGuidesModel" 6 (some (some .boolean)) 1 := G
  show KV ad cy x (some (.int y), M) 0 [(0, .long p0), (2, .long p2), (4, .long p4)] [] M
  refine v_lload_n G dX12_isIn_0 0 rfl ?_
  refine v_lload_n G dX12_isIn_1 1 rfl ?_
  refine v_lcmp G dX12_isIn_2 ?_
  refine v_if_lt 17 G dX12_isIn_3 (by decide) (fun h2 => ?_) (fun h2 => ?_)
  · replace hf := (if_pos h2).symm.trans hf
    refine v_iconst (0 : Int32) G dX12_isIn_17 (by decide) ?_
    obtain rfl := hf
    exact v_zret G (Or.inl rfl) dX12_isIn_18
  · replace hf := (if_neg h2).symm.trans hf
    refine v_lload_n G dX12_isIn_6 0 rfl ?_
    refine v_lload G dX12_isIn_7 2 rfl ?_
    refine v_lcmp G dX12_isIn_9 ?_
    refine v_if_gt 17 G dX12_isIn_10 (by decide) (fun h1 => ?_) (fun h1 => ?_)
    · replace hf := (if_pos h1).symm.trans hf
      refine v_iconst (0 : Int32) G dX12_isIn_17 (by decide) ?_
      obtain rfl := hf
      exact v_zret G (Or.inl rfl) dX12_isIn_18
    · replace hf := (if_neg h1).symm.trans hf
      refine v_iconst (1 : Int32) G dX12_isIn_13 (by decide) ?_
      refine v_goto 18 G dX12_isIn_14 (by decide) ?_
      obtain rfl := hf
      exact v_zret G (Or.inr rfl) dX12_isIn_18
abbrev cX12_fraction : ByteArray := prog_14_method_9_code
def yX12_fraction : MethodName := ⟨RX12, "fraction", "(JJ)Z"⟩
theorem dX12_fraction_0 : dc cX12_fraction 0 (.lload_n 1) 1 1 := ⟨by decide +kernel, rfl⟩
theorem dX12_fraction_1 : dc cX12_fraction 1 (.invokestatic 84) 3 4 := ⟨by decide +kernel, rfl⟩
theorem dX12_fraction_4 : dc cX12_fraction 4 (.lstore 5) 2 6 := ⟨by decide +kernel, rfl⟩
theorem dX12_fraction_6 : dc cX12_fraction 6 (.lload_n 3) 1 7 := ⟨by decide +kernel, rfl⟩
theorem dX12_fraction_7 : dc cX12_fraction 7 (.lstore 7) 2 9 := ⟨by decide +kernel, rfl⟩
theorem dX12_fraction_9 : dc cX12_fraction 9 (.lload 7) 2 11 := ⟨by decide +kernel, rfl⟩
theorem dX12_fraction_11 : dc cX12_fraction 11 (.lconst 0) 1 12 := ⟨by decide +kernel, rfl⟩
theorem dX12_fraction_12 : dc cX12_fraction 12 (.lcmp) 1 13 := ⟨by decide +kernel, rfl⟩
theorem dX12_fraction_13 : dc cX12_fraction 13 (.ifCond .eq 21) 3 16 := ⟨by decide +kernel, rfl⟩
theorem dX12_fraction_16 : dc cX12_fraction 16 (.lload 5) 2 18 := ⟨by decide +kernel, rfl⟩
theorem dX12_fraction_18 : dc cX12_fraction 18 (.lload 7) 2 20 := ⟨by decide +kernel, rfl⟩
theorem dX12_fraction_20 : dc cX12_fraction 20 (.lrem) 1 21 := ⟨by decide +kernel, rfl⟩
theorem dX12_fraction_21 : dc cX12_fraction 21 (.lstore 9) 2 23 := ⟨by decide +kernel, rfl⟩
theorem dX12_fraction_23 : dc cX12_fraction 23 (.lload 7) 2 25 := ⟨by decide +kernel, rfl⟩
theorem dX12_fraction_25 : dc cX12_fraction 25 (.lstore 5) 2 27 := ⟨by decide +kernel, rfl⟩
theorem dX12_fraction_27 : dc cX12_fraction 27 (.lload 9) 2 29 := ⟨by decide +kernel, rfl⟩
theorem dX12_fraction_29 : dc cX12_fraction 29 (.lstore 7) 2 31 := ⟨by decide +kernel, rfl⟩
theorem dX12_fraction_31 : dc cX12_fraction 31 (.goto (-22)) 3 34 := ⟨by decide +kernel, rfl⟩
theorem dX12_fraction_34 : dc cX12_fraction 34 (.aload_n 0) 1 35 := ⟨by decide +kernel, rfl⟩
theorem dX12_fraction_35 : dc cX12_fraction 35 (.lload_n 1) 1 36 := ⟨by decide +kernel, rfl⟩
theorem dX12_fraction_36 : dc cX12_fraction 36 (.lload 5) 2 38 := ⟨by decide +kernel, rfl⟩
theorem dX12_fraction_38 : dc cX12_fraction 38 (.ldiv) 1 39 := ⟨by decide +kernel, rfl⟩
theorem dX12_fraction_39 : dc cX12_fraction 39 (.putfield 81) 3 42 := ⟨by decide +kernel, rfl⟩
theorem dX12_fraction_42 : dc cX12_fraction 42 (.aload_n 0) 1 43 := ⟨by decide +kernel, rfl⟩
theorem dX12_fraction_43 : dc cX12_fraction 43 (.lload_n 3) 1 44 := ⟨by decide +kernel, rfl⟩
theorem dX12_fraction_44 : dc cX12_fraction 44 (.lload 5) 2 46 := ⟨by decide +kernel, rfl⟩
theorem dX12_fraction_46 : dc cX12_fraction 46 (.ldiv) 1 47 := ⟨by decide +kernel, rfl⟩
theorem dX12_fraction_47 : dc cX12_fraction 47 (.putfield 7) 3 50 := ⟨by decide +kernel, rfl⟩
theorem dX12_fraction_50 : dc cX12_fraction 50 (.iconst 1) 1 51 := ⟨by decide +kernel, rfl⟩
theorem dX12_fraction_51 : dc cX12_fraction 51 (.ireturn) 1 52 := ⟨by decide +kernel, rfl⟩
theorem nm_X12_fraction : (yX12_fraction).cls ≠ "java/lang/invoke/MethodHandle" ∧ (yX12_fraction).cls ≠ "java/lang/invoke/VarHandle" ∧ (parseMethodDescriptor (yX12_fraction).desc).map (fun d => d.parameters.length) = some 2 := ⟨by decide +kernel, by decide +kernel, by decide +kernel⟩
theorem zs_X12_fraction_9 {a0 : Nat} {c1 : Int64} {c3 : Int64} {M : KM} {k34 : Int64 → Option (Int32 × KM)} {y : (Int32 × KM)} (hk34 : ∀ (u5 : Int64), k34 u5 = some y → (y.1 = 0 ∨ y.1 = 1)) : ∀ (n : Nat) (w5 : Int64) (w7 : Int64), lp_X12_fraction_9 n a0 c1 c3 M w5 w7 k34 = some y → (y.1 = 0 ∨ y.1 = 1) := by
  intro n
  induction n with
  | zero =>
    intro w5 w7 hf
    cases hf
  | succ n ih =>
    intro w5 w7 hf
    rw [lp_X12_fraction_9] at hf
    by_cases h4 : (lg_cmp w7 (0 : Int64)) = 0
    · replace hf := (if_pos h4).symm.trans hf
      exact hk34 w5 hf
    · replace hf := (if_neg h4).symm.trans hf
      obtain ⟨g2, hf⟩ := gd_e hf
      obtain ⟨v3, ev3⟩ : ∃ q, q = ((w5 - w5 / w7 * w7) : Int64) := ⟨_, rfl⟩
      replace hf := lt_e hf ev3
      exact ih w7 v3 hf
set_option maxRecDepth 100000 in
theorem z_X12_fraction (n : Nat) {a0 : Nat} {p1 : Int64} {p3 : Int64} {M : KM} {y : (Int32 × KM)} (hf : f_X12_fraction n a0 p1 p3 M = some y) : (y.1 = 0 ∨ y.1 = 1) := by
  unfold f_X12_fraction at hf
  obtain ⟨v1, ev1⟩ : ∃ q, q = ((if 0 < p1 then p1 else -p1) : Int64) := ⟨_, rfl⟩
  replace hf := lt_e hf ev1
  refine zs_X12_fraction_9 (fun u5 hf => ?_) n v1 p3 hf
  · obtain ⟨g6, hf⟩ := gd_e hf
    obtain ⟨M7, eM7⟩ : ∃ q : KM, q = (uJ M a0 2 (p1 / u5)) := ⟨_, rfl⟩
    replace hf := lt_e hf eM7
    obtain ⟨g8, hf⟩ := gd_e hf
    obtain ⟨M9, eM9⟩ : ∃ q : KM, q = (uJ M7 a0 3 (p3 / u5)) := ⟨_, rfl⟩
    replace hf := lt_e hf eM9
    obtain rfl := Option.some.inj hf
    exact (Or.inr rfl)
set_option maxRecDepth 100000 in
set_option maxHeartbeats 4000000 in
theorem s_X12_fraction_9 {ad : Nat → Nat} {cy : Nat → ClassId} {x : KX} (G : KG ad cy x cX12_fraction "NoonGuidesModel" 11 (some (some .boolean)) 1) {a0 : Nat} {c1 : Int64} {c3 : Int64} {M : KM} (h0 : kty a0 = 12) {k34 : Int64 → Option (Int32 × KM)} {y : (Int32 × KM)} (hk34 : ∀ (u5 : Int64), k34 u5 = some y → KV ad cy x (some (.int y.1), y.2) 34 [(0, .ref (ad a0)), (1, .long c1), (3, .long c3), (5, .long u5)] [] M) : ∀ (n : Nat) (w5 : Int64) (w7 : Int64), lp_X12_fraction_9 n a0 c1 c3 M w5 w7 k34 = some y → KV ad cy x (some (.int y.1), y.2) 9 [(0, .ref (ad a0)), (1, .long c1), (3, .long c3), (5, .long w5), (7, .long w7)] [] M := by
  intro n
  induction n with
  | zero =>
    intro w5 w7 hf
    cases hf
  | succ n ih =>
    intro w5 w7 hf
    rw [lp_X12_fraction_9] at hf
    refine v_lload G dX12_fraction_9 4 rfl ?_
    refine v_lconst (0 : Int64) G dX12_fraction_11 (by decide) ?_
    refine v_lcmp G dX12_fraction_12 ?_
    refine v_if_eq 34 G dX12_fraction_13 (by decide) (fun h4 => ?_) (fun h4 => ?_)
    · replace hf := (if_pos h4).symm.trans hf
      refine v_sub _ [0, 1, 2, 3] rfl ?_
      exact hk34 w5 hf
    · replace hf := (if_neg h4).symm.trans hf
      refine v_lload G dX12_fraction_16 3 rfl ?_
      refine v_lload G dX12_fraction_18 4 rfl ?_
      obtain ⟨g2, hf⟩ := gd_e hf
      refine v_lrem G dX12_fraction_20 g2 ?_
      refine v_nml (fun v3 ev3 => ?_)
      replace hf := lt_e hf ev3
      refine v_lstore [(9, .long v3), (0, .ref (ad a0)), (1, .long c1), (3, .long c3), (5, .long w5), (7, .long w7)] G dX12_fraction_21 (by decide) rfl ?_
      refine v_lload G dX12_fraction_23 5 rfl ?_
      refine v_lstore [(5, .long w7), (9, .long v3), (0, .ref (ad a0)), (1, .long c1), (3, .long c3), (7, .long w7)] G dX12_fraction_25 (by decide) rfl ?_
      refine v_lload G dX12_fraction_27 1 rfl ?_
      refine v_lstore [(7, .long v3), (5, .long w7), (9, .long v3), (0, .ref (ad a0)), (1, .long c1), (3, .long c3)] G dX12_fraction_29 (by decide) rfl ?_
      refine v_goto 9 G dX12_fraction_31 (by decide) ?_
      refine v_sub _ [3, 4, 5, 1, 0] rfl ?_
      exact ih w7 v3 hf
set_option maxRecDepth 100000 in
set_option maxHeartbeats 4000000 in
theorem c_X12_fraction {l : Launch} {ad : Nat → Nat} {cy : Nat → ClassId} {D : va_G} {z : Nat} (n : Nat) {a0 : Nat} {p1 : Int64} {p3 : Int64} {M : KM} {y : (Int32 × KM)} (h0 : kty a0 = 12) (hf : f_X12_fraction n a0 p1 p3 M = some y) : KC l ad cy D z yX12_fraction cX12_fraction 11 (some .boolean) 1 [.ref (ad a0), .long p1, .long p3] M (some (.int y.1), y.2) := by
  refine kv_enter (by decide +kernel) (Nat.le_of_ble_eq_true rfl) ?_
  intro x hl hD hz G
  subst hl hD hz
  unfold f_X12_fraction at hf
  have G : KG ad cy x cX12_fraction "NoonGuidesModel" 11 (some (some .boolean)) 1 := G
  show KV ad cy x (some (.int y.1), y.2) 0 [(0, .ref (ad a0)), (1, .long p1), (3, .long p3)] [] M
  refine v_lload_n G dX12_fraction_0 1 rfl ?_
  refine v_mabsl G (by decide) t_2244 t_2245 t_19 t_2246 (Nat.le_of_ble_eq_true rfl) dX12_fraction_1 ?_
  refine v_nml (fun v1 ev1 => ?_)
  replace hf := lt_e hf ev1
  refine v_lstore [(5, .long v1), (0, .ref (ad a0)), (1, .long p1), (3, .long p3)] G dX12_fraction_4 (by decide) rfl ?_
  refine v_lload_n G dX12_fraction_6 3 rfl ?_
  refine v_lstore [(7, .long p3), (5, .long v1), (0, .ref (ad a0)), (1, .long p1), (3, .long p3)] G dX12_fraction_7 (by decide) rfl ?_
  refine v_sub _ [2, 3, 4, 1, 0] rfl ?_
  refine s_X12_fraction_9 G h0 (fun u5 hf => ?_) n v1 p3 hf
  · refine v_aload_n G dX12_fraction_34 0 rfl ?_
    refine v_lload_n G dX12_fraction_35 1 rfl ?_
    refine v_lload G dX12_fraction_36 3 rfl ?_
    obtain ⟨g6, hf⟩ := gd_e hf
    refine v_ldiv G dX12_fraction_38 g6 ?_
    refine pf_12_2 G h0 t_1493 (Or.inl rfl) dX12_fraction_39 ?_
    refine v_nmM (fun M7 eM7 => ?_)
    replace hf := lt_e hf eM7
    refine v_aload_n G dX12_fraction_42 0 rfl ?_
    refine v_lload_n G dX12_fraction_43 2 rfl ?_
    refine v_lload G dX12_fraction_44 3 rfl ?_
    obtain ⟨g8, hf⟩ := gd_e hf
    refine v_ldiv G dX12_fraction_46 g8 ?_
    refine pf_12_3 G h0 t_1494 (Or.inl rfl) dX12_fraction_47 ?_
    refine v_nmM (fun M9 eM9 => ?_)
    replace hf := lt_e hf eM9
    refine v_iconst (1 : Int32) G dX12_fraction_50 (by decide) ?_
    obtain rfl := Option.some.inj hf
    exact v_zret G (Or.inr rfl) dX12_fraction_51
abbrev cX12_cut : ByteArray := prog_14_method_10_code
def yX12_cut : MethodName := ⟨RX12, "cut", "(IJ)J"⟩
theorem dX12_cut_0 : dc cX12_cut 0 (.iload_n 0) 1 1 := ⟨by decide +kernel, rfl⟩
theorem dX12_cut_1 : dc cX12_cut 1 (.ifCond .ne 10) 3 4 := ⟨by decide +kernel, rfl⟩
theorem dX12_cut_4 : dc cX12_cut 4 (.lload_n 1) 1 5 := ⟨by decide +kernel, rfl⟩
theorem dX12_cut_5 : dc cX12_cut 5 (.l2i) 1 6 := ⟨by decide +kernel, rfl⟩
theorem dX12_cut_6 : dc cX12_cut 6 (.i2b) 1 7 := ⟨by decide +kernel, rfl⟩
theorem dX12_cut_7 : dc cX12_cut 7 (.i2l) 1 8 := ⟨by decide +kernel, rfl⟩
theorem dX12_cut_8 : dc cX12_cut 8 (.goto 27) 3 11 := ⟨by decide +kernel, rfl⟩
theorem dX12_cut_11 : dc cX12_cut 11 (.iload_n 0) 1 12 := ⟨by decide +kernel, rfl⟩
theorem dX12_cut_12 : dc cX12_cut 12 (.iconst 1) 1 13 := ⟨by decide +kernel, rfl⟩
theorem dX12_cut_13 : dc cX12_cut 13 (.if_icmp .ne 10) 3 16 := ⟨by decide +kernel, rfl⟩
theorem dX12_cut_16 : dc cX12_cut 16 (.lload_n 1) 1 17 := ⟨by decide +kernel, rfl⟩
theorem dX12_cut_17 : dc cX12_cut 17 (.l2i) 1 18 := ⟨by decide +kernel, rfl⟩
theorem dX12_cut_18 : dc cX12_cut 18 (.i2s) 1 19 := ⟨by decide +kernel, rfl⟩
theorem dX12_cut_19 : dc cX12_cut 19 (.i2l) 1 20 := ⟨by decide +kernel, rfl⟩
theorem dX12_cut_20 : dc cX12_cut 20 (.goto 15) 3 23 := ⟨by decide +kernel, rfl⟩
theorem dX12_cut_23 : dc cX12_cut 23 (.iload_n 0) 1 24 := ⟨by decide +kernel, rfl⟩
theorem dX12_cut_24 : dc cX12_cut 24 (.iconst 2) 1 25 := ⟨by decide +kernel, rfl⟩
theorem dX12_cut_25 : dc cX12_cut 25 (.if_icmp .ne 9) 3 28 := ⟨by decide +kernel, rfl⟩
theorem dX12_cut_28 : dc cX12_cut 28 (.lload_n 1) 1 29 := ⟨by decide +kernel, rfl⟩
theorem dX12_cut_29 : dc cX12_cut 29 (.l2i) 1 30 := ⟨by decide +kernel, rfl⟩
theorem dX12_cut_30 : dc cX12_cut 30 (.i2l) 1 31 := ⟨by decide +kernel, rfl⟩
theorem dX12_cut_31 : dc cX12_cut 31 (.goto 4) 3 34 := ⟨by decide +kernel, rfl⟩
theorem dX12_cut_34 : dc cX12_cut 34 (.lload_n 1) 1 35 := ⟨by decide +kernel, rfl⟩
theorem dX12_cut_35 : dc cX12_cut 35 (.lreturn) 1 36 := ⟨by decide +kernel, rfl⟩
theorem nm_X12_cut : (yX12_cut).cls ≠ "java/lang/invoke/MethodHandle" ∧ (yX12_cut).cls ≠ "java/lang/invoke/VarHandle" ∧ (parseMethodDescriptor (yX12_cut).desc).map (fun d => d.parameters.length) = some 2 := ⟨by decide +kernel, by decide +kernel, by decide +kernel⟩
set_option maxRecDepth 100000 in
set_option maxHeartbeats 4000000 in
theorem c_X12_cut {l : Launch} {ad : Nat → Nat} {cy : Nat → ClassId} {D : va_G} {z : Nat} {p0 : Int32} {p1 : Int64} {M : KM} {y : Int64} (hf : f_X12_cut p0 p1 M = y) : KC l ad cy D z yX12_cut cX12_cut 3 (some .long) 1 [.int p0, .long p1] M (some (.long y), M) := by
  refine kv_enter (by decide +kernel) (Nat.le_of_ble_eq_true rfl) ?_
  intro x hl hD hz G
  subst hl hD hz
  unfold f_X12_cut at hf
  have G : KG ad cy x cX12_cut "NoonGuidesModel" 3 (some (some .long)) 1 := G
  show KV ad cy x (some (.long y), M) 0 [(0, .int p0), (1, .long p1)] [] M
  refine v_iload_n G dX12_cut_0 0 rfl ?_
  refine v_if_ne 11 G dX12_cut_1 (by decide) (fun h3 => ?_) (fun h3 => ?_)
  · replace hf := (if_neg h3).symm.trans hf
    refine v_iload_n G dX12_cut_11 0 rfl ?_
    refine v_iconst (1 : Int32) G dX12_cut_12 (by decide) ?_
    refine v_icmp_ne 23 G dX12_cut_13 (by decide) (fun h2 => ?_) (fun h2 => ?_)
    · replace hf := (if_neg h2).symm.trans hf
      refine v_iload_n G dX12_cut_23 0 rfl ?_
      refine v_iconst (2 : Int32) G dX12_cut_24 (by decide) ?_
      refine v_icmp_ne 34 G dX12_cut_25 (by decide) (fun h1 => ?_) (fun h1 => ?_)
      · replace hf := (if_neg h1).symm.trans hf
        refine v_lload_n G dX12_cut_34 1 rfl ?_
        obtain rfl := hf
        exact v_lret G dX12_cut_35
      · replace hf := (if_pos h1).symm.trans hf
        refine v_lload_n G dX12_cut_28 1 rfl ?_
        refine v_l2i G dX12_cut_29 ?_
        refine v_i2l G dX12_cut_30 ?_
        refine v_goto 35 G dX12_cut_31 (by decide) ?_
        obtain rfl := hf
        exact v_lret G dX12_cut_35
    · replace hf := (if_pos h2).symm.trans hf
      refine v_lload_n G dX12_cut_16 1 rfl ?_
      refine v_l2i G dX12_cut_17 ?_
      refine v_i2s G dX12_cut_18 ?_
      refine v_i2l G dX12_cut_19 ?_
      refine v_goto 35 G dX12_cut_20 (by decide) ?_
      obtain rfl := hf
      exact v_lret G dX12_cut_35
  · replace hf := (if_pos h3).symm.trans hf
    refine v_lload_n G dX12_cut_4 1 rfl ?_
    refine v_l2i G dX12_cut_5 ?_
    refine v_i2b G dX12_cut_6 ?_
    refine v_i2l G dX12_cut_7 ?_
    refine v_goto 35 G dX12_cut_8 (by decide) ?_
    obtain rfl := hf
    exact v_lret G dX12_cut_35
abbrev cX12_tray : ByteArray := prog_14_method_11_code
def yX12_tray : MethodName := ⟨RX12, "tray", "(III)Z"⟩
theorem dX12_tray_0 : dc cX12_tray 0 (.aload_n 0) 1 1 := ⟨by decide +kernel, rfl⟩
theorem dX12_tray_1 : dc cX12_tray 1 (.iconst 0) 1 2 := ⟨by decide +kernel, rfl⟩
theorem dX12_tray_2 : dc cX12_tray 2 (.putfield 75) 3 5 := ⟨by decide +kernel, rfl⟩
theorem dX12_tray_5 : dc cX12_tray 5 (.aload_n 0) 1 6 := ⟨by decide +kernel, rfl⟩
theorem dX12_tray_6 : dc cX12_tray 6 (.iconst 0) 1 7 := ⟨by decide +kernel, rfl⟩
theorem dX12_tray_7 : dc cX12_tray 7 (.putfield 78) 3 10 := ⟨by decide +kernel, rfl⟩
theorem dX12_tray_10 : dc cX12_tray 10 (.iload_n 1) 1 11 := ⟨by decide +kernel, rfl⟩
theorem dX12_tray_11 : dc cX12_tray 11 (.ifCond .lt 17) 3 14 := ⟨by decide +kernel, rfl⟩
theorem dX12_tray_14 : dc cX12_tray 14 (.iload_n 1) 1 15 := ⟨by decide +kernel, rfl⟩
theorem dX12_tray_15 : dc cX12_tray 15 (.iconst 4) 1 16 := ⟨by decide +kernel, rfl⟩
theorem dX12_tray_16 : dc cX12_tray 16 (.if_icmp .ge 12) 3 19 := ⟨by decide +kernel, rfl⟩
theorem dX12_tray_19 : dc cX12_tray 19 (.iload_n 2) 1 20 := ⟨by decide +kernel, rfl⟩
theorem dX12_tray_20 : dc cX12_tray 20 (.ifCond .lt 8) 3 23 := ⟨by decide +kernel, rfl⟩
theorem dX12_tray_23 : dc cX12_tray 23 (.iload_n 2) 1 24 := ⟨by decide +kernel, rfl⟩
theorem dX12_tray_24 : dc cX12_tray 24 (.iconst 3) 1 25 := ⟨by decide +kernel, rfl⟩
theorem dX12_tray_25 : dc cX12_tray 25 (.if_icmp .le 9) 3 28 := ⟨by decide +kernel, rfl⟩
theorem dX12_tray_28 : dc cX12_tray 28 (.aload_n 0) 1 29 := ⟨by decide +kernel, rfl⟩
theorem dX12_tray_29 : dc cX12_tray 29 (.iconst 1) 1 30 := ⟨by decide +kernel, rfl⟩
theorem dX12_tray_30 : dc cX12_tray 30 (.invokevirtual 90) 3 33 := ⟨by decide +kernel, rfl⟩
theorem dX12_tray_33 : dc cX12_tray 33 (.ireturn) 1 34 := ⟨by decide +kernel, rfl⟩
theorem dX12_tray_34 : dc cX12_tray 34 (.iload_n 3) 1 35 := ⟨by decide +kernel, rfl⟩
theorem dX12_tray_35 : dc cX12_tray 35 (.bipush 60) 2 37 := ⟨by decide +kernel, rfl⟩
theorem dX12_tray_37 : dc cX12_tray 37 (.if_icmp .le 9) 3 40 := ⟨by decide +kernel, rfl⟩
theorem dX12_tray_40 : dc cX12_tray 40 (.aload_n 0) 1 41 := ⟨by decide +kernel, rfl⟩
theorem dX12_tray_41 : dc cX12_tray 41 (.iconst 5) 1 42 := ⟨by decide +kernel, rfl⟩
theorem dX12_tray_42 : dc cX12_tray 42 (.invokevirtual 90) 3 45 := ⟨by decide +kernel, rfl⟩
theorem dX12_tray_45 : dc cX12_tray 45 (.ireturn) 1 46 := ⟨by decide +kernel, rfl⟩
theorem dX12_tray_46 : dc cX12_tray 46 (.iload_n 3) 1 47 := ⟨by decide +kernel, rfl⟩
theorem dX12_tray_47 : dc cX12_tray 47 (.ifCond .ge 10) 3 50 := ⟨by decide +kernel, rfl⟩
theorem dX12_tray_50 : dc cX12_tray 50 (.aload_n 0) 1 51 := ⟨by decide +kernel, rfl⟩
theorem dX12_tray_51 : dc cX12_tray 51 (.bipush 6) 2 53 := ⟨by decide +kernel, rfl⟩
theorem dX12_tray_53 : dc cX12_tray 53 (.invokevirtual 90) 3 56 := ⟨by decide +kernel, rfl⟩
theorem dX12_tray_56 : dc cX12_tray 56 (.ireturn) 1 57 := ⟨by decide +kernel, rfl⟩
theorem dX12_tray_57 : dc cX12_tray 57 (.aload_n 0) 1 58 := ⟨by decide +kernel, rfl⟩
theorem dX12_tray_58 : dc cX12_tray 58 (.getfield 13) 3 61 := ⟨by decide +kernel, rfl⟩
theorem dX12_tray_61 : dc cX12_tray 61 (.iload_n 1) 1 62 := ⟨by decide +kernel, rfl⟩
theorem dX12_tray_62 : dc cX12_tray 62 (.iload_n 2) 1 63 := ⟨by decide +kernel, rfl⟩
theorem dX12_tray_63 : dc cX12_tray 63 (.iastore) 1 64 := ⟨by decide +kernel, rfl⟩
theorem dX12_tray_64 : dc cX12_tray 64 (.aload_n 0) 1 65 := ⟨by decide +kernel, rfl⟩
theorem dX12_tray_65 : dc cX12_tray 65 (.getfield 17) 3 68 := ⟨by decide +kernel, rfl⟩
theorem dX12_tray_68 : dc cX12_tray 68 (.iload_n 1) 1 69 := ⟨by decide +kernel, rfl⟩
theorem dX12_tray_69 : dc cX12_tray 69 (.iload_n 3) 1 70 := ⟨by decide +kernel, rfl⟩
theorem dX12_tray_70 : dc cX12_tray 70 (.iastore) 1 71 := ⟨by decide +kernel, rfl⟩
theorem dX12_tray_71 : dc cX12_tray 71 (.iconst 0) 1 72 := ⟨by decide +kernel, rfl⟩
theorem dX12_tray_72 : dc cX12_tray 72 (.istore 4) 2 74 := ⟨by decide +kernel, rfl⟩
theorem dX12_tray_74 : dc cX12_tray 74 (.iload 4) 2 76 := ⟨by decide +kernel, rfl⟩
theorem dX12_tray_76 : dc cX12_tray 76 (.iload_n 3) 1 77 := ⟨by decide +kernel, rfl⟩
theorem dX12_tray_77 : dc cX12_tray 77 (.if_icmp .ge 22) 3 80 := ⟨by decide +kernel, rfl⟩
theorem dX12_tray_80 : dc cX12_tray 80 (.aload_n 0) 1 81 := ⟨by decide +kernel, rfl⟩
theorem dX12_tray_81 : dc cX12_tray 81 (.getfield 20) 3 84 := ⟨by decide +kernel, rfl⟩
theorem dX12_tray_84 : dc cX12_tray 84 (.bipush 60) 2 86 := ⟨by decide +kernel, rfl⟩
theorem dX12_tray_86 : dc cX12_tray 86 (.iload_n 1) 1 87 := ⟨by decide +kernel, rfl⟩
theorem dX12_tray_87 : dc cX12_tray 87 (.imul) 1 88 := ⟨by decide +kernel, rfl⟩
theorem dX12_tray_88 : dc cX12_tray 88 (.iload 4) 2 90 := ⟨by decide +kernel, rfl⟩
theorem dX12_tray_90 : dc cX12_tray 90 (.iadd) 1 91 := ⟨by decide +kernel, rfl⟩
theorem dX12_tray_91 : dc cX12_tray 91 (.lconst 0) 1 92 := ⟨by decide +kernel, rfl⟩
theorem dX12_tray_92 : dc cX12_tray 92 (.lastore) 1 93 := ⟨by decide +kernel, rfl⟩
theorem dX12_tray_93 : dc cX12_tray 93 (.iinc 4 1) 3 96 := ⟨by decide +kernel, rfl⟩
theorem dX12_tray_96 : dc cX12_tray 96 (.goto (-22)) 3 99 := ⟨by decide +kernel, rfl⟩
theorem dX12_tray_99 : dc cX12_tray 99 (.iconst 1) 1 100 := ⟨by decide +kernel, rfl⟩
theorem dX12_tray_100 : dc cX12_tray 100 (.ireturn) 1 101 := ⟨by decide +kernel, rfl⟩
theorem nm_X12_tray : (yX12_tray).cls ≠ "java/lang/invoke/MethodHandle" ∧ (yX12_tray).cls ≠ "java/lang/invoke/VarHandle" ∧ (parseMethodDescriptor (yX12_tray).desc).map (fun d => d.parameters.length) = some 3 := ⟨by decide +kernel, by decide +kernel, by decide +kernel⟩
theorem zs_X12_tray_74 {a0 : Nat} {c1 : Int32} {c3 : Int32} {y : (Int32 × KM)} : ∀ (n : Nat) (w4 : Int32) (M : KM), lp_X12_tray_74 n a0 c1 c3 w4 M = some y → (y.1 = 0 ∨ y.1 = 1) := by
  intro n
  induction n with
  | zero =>
    intro w4 M hf
    cases hf
  | succ n ih =>
    intro w4 M hf
    rw [lp_X12_tray_74] at hf
    by_cases h11 : c3 ≤ w4
    · replace hf := (if_pos h11).symm.trans hf
      obtain rfl := Option.some.inj hf
      exact (Or.inr rfl)
    · replace hf := (if_neg h11).symm.trans hf
      obtain ⟨g8, hf⟩ := gd_e hf
      obtain ⟨M9, eM9⟩ : ∃ q : KM, q = (uJ M (a0 + 3) ((((60 : Int32) * c1) + w4)).toNatClampNeg (0 : Int64)) := ⟨_, rfl⟩
      replace hf := lt_e hf eM9
      obtain ⟨v10, ev10⟩ : ∃ q : Int32, q = w4 + (1 : Int32) := ⟨_, rfl⟩
      replace hf := lt_e hf ev10
      exact ih v10 M9 hf
set_option maxRecDepth 100000 in
theorem z_X12_tray (n : Nat) {a0 : Nat} {p1 : Int32} {p2 : Int32} {p3 : Int32} {M : KM} {y : (Int32 × KM)} (hf : f_X12_tray n a0 p1 p2 p3 M = some y) : (y.1 = 0 ∨ y.1 = 1) := by
  unfold f_X12_tray at hf
  obtain ⟨M1, eM1⟩ : ∃ q : KM, q = (uI M a0 1 (0 : Int32)) := ⟨_, rfl⟩
  replace hf := lt_e hf eM1
  obtain ⟨M2, eM2⟩ : ∃ q : KM, q = (uI M1 a0 0 (0 : Int32)) := ⟨_, rfl⟩
  replace hf := lt_e hf eM2
  obtain ⟨j28, ej28, hf⟩ := lt_j hf
  have hj28 : j28 = some y → (y.1 = 0 ∨ y.1 = 1) := by
    intro hf
    rw [ej28] at hf
    obtain ⟨v3, hcv3⟩ : ∃ q, f_X12_no a0 (1 : Int32) M2 = q := ⟨_, rfl⟩
    replace hf := lt_e hf hcv3.symm
    obtain rfl := Option.some.inj hf
    exact (z_X12_no hcv3)
  by_cases h19 : p1 < 0
  · replace hf := (if_pos h19).symm.trans hf
    exact hj28 hf
  · replace hf := (if_neg h19).symm.trans hf
    by_cases h18 : (4 : Int32) ≤ p1
    · replace hf := (if_pos h18).symm.trans hf
      exact hj28 hf
    · replace hf := (if_neg h18).symm.trans hf
      by_cases h17 : p2 < 0
      · replace hf := (if_pos h17).symm.trans hf
        exact hj28 hf
      · replace hf := (if_neg h17).symm.trans hf
        by_cases h16 : p2 ≤ (3 : Int32)
        · replace hf := (if_pos h16).symm.trans hf
          by_cases h15 : p3 ≤ (60 : Int32)
          · replace hf := (if_pos h15).symm.trans hf
            by_cases h13 : 0 ≤ p3
            · replace hf := (if_pos h13).symm.trans hf
              obtain ⟨g4, hf⟩ := gd_e hf
              obtain ⟨M5, eM5⟩ : ∃ q : KM, q = (uI M2 (a0 + 1) (p1).toNatClampNeg p2) := ⟨_, rfl⟩
              replace hf := lt_e hf eM5
              obtain ⟨g6, hf⟩ := gd_e hf
              obtain ⟨M7, eM7⟩ : ∃ q : KM, q = (uI M5 (a0 + 2) (p1).toNatClampNeg p3) := ⟨_, rfl⟩
              replace hf := lt_e hf eM7
              refine zs_X12_tray_74 n (0 : Int32) M7 hf
            · replace hf := (if_neg h13).symm.trans hf
              obtain ⟨v12, hcv12⟩ : ∃ q, f_X12_no a0 (6 : Int32) M2 = q := ⟨_, rfl⟩
              replace hf := lt_e hf hcv12.symm
              obtain rfl := Option.some.inj hf
              exact (z_X12_no hcv12)
          · replace hf := (if_neg h15).symm.trans hf
            obtain ⟨v14, hcv14⟩ : ∃ q, f_X12_no a0 (5 : Int32) M2 = q := ⟨_, rfl⟩
            replace hf := lt_e hf hcv14.symm
            obtain rfl := Option.some.inj hf
            exact (z_X12_no hcv14)
        · replace hf := (if_neg h16).symm.trans hf
          exact hj28 hf
set_option maxRecDepth 100000 in
set_option maxHeartbeats 4000000 in
theorem s_X12_tray_74 {ad : Nat → Nat} {cy : Nat → ClassId} {x : KX} (G : KG ad cy x cX12_tray "NoonGuidesModel" 5 (some (some .boolean)) 2) {a0 : Nat} {c1 : Int32} {c3 : Int32} (h0 : kty a0 = 12) {y : (Int32 × KM)} : ∀ (n : Nat) (w4 : Int32) (M : KM), lp_X12_tray_74 n a0 c1 c3 w4 M = some y → KV ad cy x (some (.int y.1), y.2) 74 [(0, .ref (ad a0)), (1, .int c1), (3, .int c3), (4, .int w4)] [] M := by
  intro n
  induction n with
  | zero =>
    intro w4 M hf
    cases hf
  | succ n ih =>
    intro w4 M hf
    rw [lp_X12_tray_74] at hf
    refine v_iload G dX12_tray_74 3 rfl ?_
    refine v_iload_n G dX12_tray_76 2 rfl ?_
    refine v_icmp_ge 99 G dX12_tray_77 (by decide) (fun h11 => ?_) (fun h11 => ?_)
    · replace hf := (if_pos h11).symm.trans hf
      refine v_iconst (1 : Int32) G dX12_tray_99 (by decide) ?_
      obtain rfl := Option.some.inj hf
      exact v_zret G (Or.inr rfl) dX12_tray_100
    · replace hf := (if_neg h11).symm.trans hf
      refine v_aload_n G dX12_tray_80 0 rfl ?_
      refine gf_12_6 G h0 t_1497 (Or.inl rfl) dX12_tray_81 ?_
      refine v_bipush (60 : Int32) G dX12_tray_84 (by decide) ?_
      refine v_iload_n G dX12_tray_86 1 rfl ?_
      refine v_imul G dX12_tray_87 ?_
      refine v_iload G dX12_tray_88 3 rfl ?_
      refine v_iadd G dX12_tray_90 ?_
      refine v_lconst (0 : Int64) G dX12_tray_91 (by decide) ?_
      obtain ⟨g8, hf⟩ := gd_e hf
      refine as_35 G (kf_12_3 h0) g8 dX12_tray_92 ?_
      refine v_nmM (fun M9 eM9 => ?_)
      replace hf := lt_e hf eM9
      obtain ⟨v10, ev10⟩ : ∃ q : Int32, q = w4 + (1 : Int32) := ⟨_, rfl⟩
      replace hf := lt_e hf ev10
      refine v_iinc v10 [(4, .int v10), (0, .ref (ad a0)), (1, .int c1), (3, .int c3)] G dX12_tray_93 3 rfl (by rw [ev10]; rfl) (by decide) rfl ?_
      refine v_goto 74 G dX12_tray_96 (by decide) ?_
      refine v_sub _ [1, 2, 3, 0] rfl ?_
      exact ih v10 M9 hf
set_option maxRecDepth 100000 in
set_option maxHeartbeats 4000000 in
theorem c_X12_tray {l : Launch} {ad : Nat → Nat} {cy : Nat → ClassId} {D : va_G} {z : Nat} (n : Nat) {a0 : Nat} {p1 : Int32} {p2 : Int32} {p3 : Int32} {M : KM} {y : (Int32 × KM)} (h0 : kty a0 = 12) (hf : f_X12_tray n a0 p1 p2 p3 M = some y) : KC l ad cy D z yX12_tray cX12_tray 5 (some .boolean) 2 [.ref (ad a0), .int p1, .int p2, .int p3] M (some (.int y.1), y.2) := by
  refine kv_enter (by decide +kernel) (Nat.le_of_ble_eq_true rfl) ?_
  intro x hl hD hz G
  subst hl hD hz
  unfold f_X12_tray at hf
  have G : KG ad cy x cX12_tray "NoonGuidesModel" 5 (some (some .boolean)) 2 := G
  show KV ad cy x (some (.int y.1), y.2) 0 [(0, .ref (ad a0)), (1, .int p1), (2, .int p2), (3, .int p3)] [] M
  refine v_aload_n G dX12_tray_0 0 rfl ?_
  refine v_iconst (0 : Int32) G dX12_tray_1 (by decide) ?_
  refine pf_12_1 G h0 t_1492 (Or.inl rfl) dX12_tray_2 ?_
  refine v_nmM (fun M1 eM1 => ?_)
  replace hf := lt_e hf eM1
  refine v_aload_n G dX12_tray_5 0 rfl ?_
  refine v_iconst (0 : Int32) G dX12_tray_6 (by decide) ?_
  refine pf_12_0 G h0 t_1491 (Or.inl rfl) dX12_tray_7 ?_
  refine v_nmM (fun M2 eM2 => ?_)
  replace hf := lt_e hf eM2
  refine v_iload_n G dX12_tray_10 1 rfl ?_
  obtain ⟨j28, ej28, hf⟩ := lt_j hf
  have hj28 : j28 = some y → KV ad cy x (some (.int y.1), y.2) 28 [(0, .ref (ad a0))] [] M2 := by
    intro hf
    rw [ej28] at hf
    refine v_aload_n G dX12_tray_28 0 rfl ?_
    refine v_iconst (1 : Int32) G dX12_tray_29 (by decide) ?_
    obtain ⟨v3, hcv3⟩ : ∃ q, f_X12_no a0 (1 : Int32) M2 = q := ⟨_, rfl⟩
    replace hf := lt_e hf hcv3.symm
    refine v_callV [.int (1 : Int32)] G (c_X12_no h0 hcv3) h0 (by decide) rfl rfl rfl t_1649 t_1651 t_p55 t_17 t_1652 nm_X12_no (by decide) (by decide) rfl rfl (Nat.le_of_ble_eq_true rfl) dX12_tray_30 (kv_ri ?_)
    obtain rfl := Option.some.inj hf
    exact v_zret G (z_X12_no hcv3) dX12_tray_33
  refine v_if_lt 28 G dX12_tray_11 (by decide) (fun h19 => ?_) (fun h19 => ?_)
  · replace hf := (if_pos h19).symm.trans hf
    refine v_sub _ [0] rfl ?_
    exact hj28 hf
  · replace hf := (if_neg h19).symm.trans hf
    refine v_iload_n G dX12_tray_14 1 rfl ?_
    refine v_iconst (4 : Int32) G dX12_tray_15 (by decide) ?_
    refine v_icmp_ge 28 G dX12_tray_16 (by decide) (fun h18 => ?_) (fun h18 => ?_)
    · replace hf := (if_pos h18).symm.trans hf
      refine v_sub _ [0] rfl ?_
      exact hj28 hf
    · replace hf := (if_neg h18).symm.trans hf
      refine v_iload_n G dX12_tray_19 2 rfl ?_
      refine v_if_lt 28 G dX12_tray_20 (by decide) (fun h17 => ?_) (fun h17 => ?_)
      · replace hf := (if_pos h17).symm.trans hf
        refine v_sub _ [0] rfl ?_
        exact hj28 hf
      · replace hf := (if_neg h17).symm.trans hf
        refine v_iload_n G dX12_tray_23 2 rfl ?_
        refine v_iconst (3 : Int32) G dX12_tray_24 (by decide) ?_
        refine v_icmp_le 34 G dX12_tray_25 (by decide) (fun h16 => ?_) (fun h16 => ?_)
        · replace hf := (if_pos h16).symm.trans hf
          refine v_iload_n G dX12_tray_34 3 rfl ?_
          refine v_bipush (60 : Int32) G dX12_tray_35 (by decide) ?_
          refine v_icmp_le 46 G dX12_tray_37 (by decide) (fun h15 => ?_) (fun h15 => ?_)
          · replace hf := (if_pos h15).symm.trans hf
            refine v_iload_n G dX12_tray_46 3 rfl ?_
            refine v_if_ge 57 G dX12_tray_47 (by decide) (fun h13 => ?_) (fun h13 => ?_)
            · replace hf := (if_pos h13).symm.trans hf
              refine v_aload_n G dX12_tray_57 0 rfl ?_
              refine gf_12_4 G h0 t_1495 (Or.inl rfl) dX12_tray_58 ?_
              refine v_iload_n G dX12_tray_61 1 rfl ?_
              refine v_iload_n G dX12_tray_62 2 rfl ?_
              obtain ⟨g4, hf⟩ := gd_e hf
              refine as_34 G (kf_12_1 h0) g4 dX12_tray_63 ?_
              refine v_nmM (fun M5 eM5 => ?_)
              replace hf := lt_e hf eM5
              refine v_aload_n G dX12_tray_64 0 rfl ?_
              refine gf_12_5 G h0 t_1496 (Or.inl rfl) dX12_tray_65 ?_
              refine v_iload_n G dX12_tray_68 1 rfl ?_
              refine v_iload_n G dX12_tray_69 3 rfl ?_
              obtain ⟨g6, hf⟩ := gd_e hf
              refine as_34 G (kf_12_2 h0) g6 dX12_tray_70 ?_
              refine v_nmM (fun M7 eM7 => ?_)
              replace hf := lt_e hf eM7
              refine v_iconst (0 : Int32) G dX12_tray_71 (by decide) ?_
              refine v_istore [(4, .int (0 : Int32)), (0, .ref (ad a0)), (1, .int p1), (2, .int p2), (3, .int p3)] G dX12_tray_72 (by decide) rfl ?_
              refine v_sub _ [1, 2, 4, 0] rfl ?_
              refine s_X12_tray_74 G h0 n (0 : Int32) M7 hf
            · replace hf := (if_neg h13).symm.trans hf
              refine v_aload_n G dX12_tray_50 0 rfl ?_
              refine v_bipush (6 : Int32) G dX12_tray_51 (by decide) ?_
              obtain ⟨v12, hcv12⟩ : ∃ q, f_X12_no a0 (6 : Int32) M2 = q := ⟨_, rfl⟩
              replace hf := lt_e hf hcv12.symm
              refine v_callV [.int (6 : Int32)] G (c_X12_no h0 hcv12) h0 (by decide) rfl rfl rfl t_1649 t_1651 t_p55 t_17 t_1652 nm_X12_no (by decide) (by decide) rfl rfl (Nat.le_of_ble_eq_true rfl) dX12_tray_53 (kv_ri ?_)
              obtain rfl := Option.some.inj hf
              exact v_zret G (z_X12_no hcv12) dX12_tray_56
          · replace hf := (if_neg h15).symm.trans hf
            refine v_aload_n G dX12_tray_40 0 rfl ?_
            refine v_iconst (5 : Int32) G dX12_tray_41 (by decide) ?_
            obtain ⟨v14, hcv14⟩ : ∃ q, f_X12_no a0 (5 : Int32) M2 = q := ⟨_, rfl⟩
            replace hf := lt_e hf hcv14.symm
            refine v_callV [.int (5 : Int32)] G (c_X12_no h0 hcv14) h0 (by decide) rfl rfl rfl t_1649 t_1651 t_p55 t_17 t_1652 nm_X12_no (by decide) (by decide) rfl rfl (Nat.le_of_ble_eq_true rfl) dX12_tray_42 (kv_ri ?_)
            obtain rfl := Option.some.inj hf
            exact v_zret G (z_X12_no hcv14) dX12_tray_45
        · replace hf := (if_neg h16).symm.trans hf
          refine v_sub _ [0] rfl ?_
          exact hj28 hf
abbrev cX12_trayed : ByteArray := prog_14_method_12_code
def yX12_trayed : MethodName := ⟨RX12, "trayed", "(I)I"⟩
theorem dX12_trayed_0 : dc cX12_trayed 0 (.iload_n 1) 1 1 := ⟨by decide +kernel, rfl⟩
theorem dX12_trayed_1 : dc cX12_trayed 1 (.ifCond .lt 8) 3 4 := ⟨by decide +kernel, rfl⟩
theorem dX12_trayed_4 : dc cX12_trayed 4 (.iload_n 1) 1 5 := ⟨by decide +kernel, rfl⟩
theorem dX12_trayed_5 : dc cX12_trayed 5 (.iconst 4) 1 6 := ⟨by decide +kernel, rfl⟩
theorem dX12_trayed_6 : dc cX12_trayed 6 (.if_icmp .lt 7) 3 9 := ⟨by decide +kernel, rfl⟩
theorem dX12_trayed_9 : dc cX12_trayed 9 (.iconst 1) 1 10 := ⟨by decide +kernel, rfl⟩
theorem dX12_trayed_10 : dc cX12_trayed 10 (.goto 17) 3 13 := ⟨by decide +kernel, rfl⟩
theorem dX12_trayed_13 : dc cX12_trayed 13 (.aload_n 0) 1 14 := ⟨by decide +kernel, rfl⟩
theorem dX12_trayed_14 : dc cX12_trayed 14 (.getfield 17) 3 17 := ⟨by decide +kernel, rfl⟩
theorem dX12_trayed_17 : dc cX12_trayed 17 (.iload_n 1) 1 18 := ⟨by decide +kernel, rfl⟩
theorem dX12_trayed_18 : dc cX12_trayed 18 (.iaload) 1 19 := ⟨by decide +kernel, rfl⟩
theorem dX12_trayed_19 : dc cX12_trayed 19 (.ifCond .ge 7) 3 22 := ⟨by decide +kernel, rfl⟩
theorem dX12_trayed_22 : dc cX12_trayed 22 (.iconst 3) 1 23 := ⟨by decide +kernel, rfl⟩
theorem dX12_trayed_23 : dc cX12_trayed 23 (.goto 4) 3 26 := ⟨by decide +kernel, rfl⟩
theorem dX12_trayed_26 : dc cX12_trayed 26 (.iconst 0) 1 27 := ⟨by decide +kernel, rfl⟩
theorem dX12_trayed_27 : dc cX12_trayed 27 (.ireturn) 1 28 := ⟨by decide +kernel, rfl⟩
theorem nm_X12_trayed : (yX12_trayed).cls ≠ "java/lang/invoke/MethodHandle" ∧ (yX12_trayed).cls ≠ "java/lang/invoke/VarHandle" ∧ (parseMethodDescriptor (yX12_trayed).desc).map (fun d => d.parameters.length) = some 1 := ⟨by decide +kernel, by decide +kernel, by decide +kernel⟩
set_option maxRecDepth 100000 in
set_option maxHeartbeats 4000000 in
theorem c_X12_trayed {l : Launch} {ad : Nat → Nat} {cy : Nat → ClassId} {D : va_G} {z : Nat} (n : Nat) {a0 : Nat} {p1 : Int32} {M : KM} {y : Int32} (h0 : kty a0 = 12) (hf : f_X12_trayed n a0 p1 M = some y) : KC l ad cy D z yX12_trayed cX12_trayed 2 (some .int) 1 [.ref (ad a0), .int p1] M (some (.int y), M) := by
  refine kv_enter (by decide +kernel) (Nat.le_of_ble_eq_true rfl) ?_
  intro x hl hD hz G
  subst hl hD hz
  unfold f_X12_trayed at hf
  have G : KG ad cy x cX12_trayed "NoonGuidesModel" 2 (some (some .int)) 1 := G
  show KV ad cy x (some (.int y), M) 0 [(0, .ref (ad a0)), (1, .int p1)] [] M
  refine v_iload_n G dX12_trayed_0 1 rfl ?_
  obtain ⟨j9, ej9, hf⟩ := lt_j hf
  have hj9 : j9 = some y → KV ad cy x (some (.int y), M) 9 [] [] M := by
    intro hf
    rw [ej9] at hf
    refine v_iconst (1 : Int32) G dX12_trayed_9 (by decide) ?_
    refine v_goto 27 G dX12_trayed_10 (by decide) ?_
    obtain rfl := Option.some.inj hf
    exact v_iret G dX12_trayed_27
  refine v_if_lt 9 G dX12_trayed_1 (by decide) (fun h4 => ?_) (fun h4 => ?_)
  · replace hf := (if_pos h4).symm.trans hf
    refine v_sub _ [] rfl ?_
    exact hj9 hf
  · replace hf := (if_neg h4).symm.trans hf
    refine v_iload_n G dX12_trayed_4 1 rfl ?_
    refine v_iconst (4 : Int32) G dX12_trayed_5 (by decide) ?_
    refine v_icmp_lt 13 G dX12_trayed_6 (by decide) (fun h3 => ?_) (fun h3 => ?_)
    · replace hf := (if_pos h3).symm.trans hf
      refine v_aload_n G dX12_trayed_13 0 rfl ?_
      refine gf_12_5 G h0 t_1496 (Or.inl rfl) dX12_trayed_14 ?_
      refine v_iload_n G dX12_trayed_17 1 rfl ?_
      obtain ⟨g1, hf⟩ := gd_e hf
      refine al_34 G (kf_12_2 h0) g1 dX12_trayed_18 ?_
      refine v_if_ge 26 G dX12_trayed_19 (by decide) (fun h2 => ?_) (fun h2 => ?_)
      · replace hf := (if_pos h2).symm.trans hf
        refine v_iconst (0 : Int32) G dX12_trayed_26 (by decide) ?_
        obtain rfl := Option.some.inj hf
        exact v_iret G dX12_trayed_27
      · replace hf := (if_neg h2).symm.trans hf
        refine v_iconst (3 : Int32) G dX12_trayed_22 (by decide) ?_
        refine v_goto 27 G dX12_trayed_23 (by decide) ?_
        obtain rfl := Option.some.inj hf
        exact v_iret G dX12_trayed_27
    · replace hf := (if_neg h3).symm.trans hf
      refine v_sub _ [] rfl ?_
      exact hj9 hf
abbrev cX12_placed : ByteArray := prog_14_method_13_code
def yX12_placed : MethodName := ⟨RX12, "placed", "(II)I"⟩
theorem dX12_placed_0 : dc cX12_placed 0 (.aload_n 0) 1 1 := ⟨by decide +kernel, rfl⟩
theorem dX12_placed_1 : dc cX12_placed 1 (.iload_n 1) 1 2 := ⟨by decide +kernel, rfl⟩
theorem dX12_placed_2 : dc cX12_placed 2 (.invokevirtual 94) 3 5 := ⟨by decide +kernel, rfl⟩
theorem dX12_placed_5 : dc cX12_placed 5 (.istore_n 3) 1 6 := ⟨by decide +kernel, rfl⟩
theorem dX12_placed_6 : dc cX12_placed 6 (.iload_n 3) 1 7 := ⟨by decide +kernel, rfl⟩
theorem dX12_placed_7 : dc cX12_placed 7 (.ifCond .le 7) 3 10 := ⟨by decide +kernel, rfl⟩
theorem dX12_placed_10 : dc cX12_placed 10 (.iload_n 3) 1 11 := ⟨by decide +kernel, rfl⟩
theorem dX12_placed_11 : dc cX12_placed 11 (.goto 22) 3 14 := ⟨by decide +kernel, rfl⟩
theorem dX12_placed_14 : dc cX12_placed 14 (.iload_n 2) 1 15 := ⟨by decide +kernel, rfl⟩
theorem dX12_placed_15 : dc cX12_placed 15 (.ifCond .lt 13) 3 18 := ⟨by decide +kernel, rfl⟩
theorem dX12_placed_18 : dc cX12_placed 18 (.iload_n 2) 1 19 := ⟨by decide +kernel, rfl⟩
theorem dX12_placed_19 : dc cX12_placed 19 (.aload_n 0) 1 20 := ⟨by decide +kernel, rfl⟩
theorem dX12_placed_20 : dc cX12_placed 20 (.getfield 17) 3 23 := ⟨by decide +kernel, rfl⟩
theorem dX12_placed_23 : dc cX12_placed 23 (.iload_n 1) 1 24 := ⟨by decide +kernel, rfl⟩
theorem dX12_placed_24 : dc cX12_placed 24 (.iaload) 1 25 := ⟨by decide +kernel, rfl⟩
theorem dX12_placed_25 : dc cX12_placed 25 (.if_icmp .lt 7) 3 28 := ⟨by decide +kernel, rfl⟩
theorem dX12_placed_28 : dc cX12_placed 28 (.iconst 4) 1 29 := ⟨by decide +kernel, rfl⟩
theorem dX12_placed_29 : dc cX12_placed 29 (.goto 4) 3 32 := ⟨by decide +kernel, rfl⟩
theorem dX12_placed_32 : dc cX12_placed 32 (.iconst 0) 1 33 := ⟨by decide +kernel, rfl⟩
theorem dX12_placed_33 : dc cX12_placed 33 (.ireturn) 1 34 := ⟨by decide +kernel, rfl⟩
theorem nm_X12_placed : (yX12_placed).cls ≠ "java/lang/invoke/MethodHandle" ∧ (yX12_placed).cls ≠ "java/lang/invoke/VarHandle" ∧ (parseMethodDescriptor (yX12_placed).desc).map (fun d => d.parameters.length) = some 2 := ⟨by decide +kernel, by decide +kernel, by decide +kernel⟩
set_option maxRecDepth 100000 in
set_option maxHeartbeats 4000000 in
theorem c_X12_placed {l : Launch} {ad : Nat → Nat} {cy : Nat → ClassId} {D : va_G} {z : Nat} (n : Nat) {a0 : Nat} {p1 : Int32} {p2 : Int32} {M : KM} {y : Int32} (h0 : kty a0 = 12) (hf : f_X12_placed n a0 p1 p2 M = some y) : KC l ad cy D z yX12_placed cX12_placed 4 (some .int) 2 [.ref (ad a0), .int p1, .int p2] M (some (.int y), M) := by
  refine kv_enter (by decide +kernel) (Nat.le_of_ble_eq_true rfl) ?_
  intro x hl hD hz G
  subst hl hD hz
  unfold f_X12_placed at hf
  have G : KG ad cy x cX12_placed "NoonGuidesModel" 4 (some (some .int)) 2 := G
  show KV ad cy x (some (.int y), M) 0 [(0, .ref (ad a0)), (1, .int p1), (2, .int p2)] [] M
  refine v_aload_n G dX12_placed_0 0 rfl ?_
  refine v_iload_n G dX12_placed_1 1 rfl ?_
  obtain ⟨v1, hcv1, hf⟩ := bd_e hf
  refine v_callV [.int p1] G (c_X12_trayed n h0 hcv1) h0 (by decide) rfl rfl rfl t_1661 t_1663 t_p57 t_17 t_1664 nm_X12_trayed (by decide) (by decide) rfl rfl (Nat.le_of_ble_eq_true rfl) dX12_placed_2 (kv_ri ?_)
  refine v_istore_n [(3, .int v1), (0, .ref (ad a0)), (1, .int p1), (2, .int p2)] G dX12_placed_5 (by decide) rfl ?_
  refine v_iload_n G dX12_placed_6 0 rfl ?_
  refine v_if_le 14 G dX12_placed_7 (by decide) (fun h5 => ?_) (fun h5 => ?_)
  · replace hf := (if_pos h5).symm.trans hf
    refine v_iload_n G dX12_placed_14 3 rfl ?_
    obtain ⟨j28, ej28, hf⟩ := lt_j hf
    have hj28 : j28 = some y → KV ad cy x (some (.int y), M) 28 [] [] M := by
      intro hf
      rw [ej28] at hf
      refine v_iconst (4 : Int32) G dX12_placed_28 (by decide) ?_
      refine v_goto 33 G dX12_placed_29 (by decide) ?_
      obtain rfl := Option.some.inj hf
      exact v_iret G dX12_placed_33
    refine v_if_lt 28 G dX12_placed_15 (by decide) (fun h4 => ?_) (fun h4 => ?_)
    · replace hf := (if_pos h4).symm.trans hf
      refine v_sub _ [] rfl ?_
      exact hj28 hf
    · replace hf := (if_neg h4).symm.trans hf
      refine v_iload_n G dX12_placed_18 3 rfl ?_
      refine v_aload_n G dX12_placed_19 1 rfl ?_
      refine gf_12_5 G h0 t_1496 (Or.inl rfl) dX12_placed_20 ?_
      refine v_iload_n G dX12_placed_23 2 rfl ?_
      obtain ⟨g2, hf⟩ := gd_e hf
      refine al_34 G (kf_12_2 h0) g2 dX12_placed_24 ?_
      refine v_icmp_lt 32 G dX12_placed_25 (by decide) (fun h3 => ?_) (fun h3 => ?_)
      · replace hf := (if_pos h3).symm.trans hf
        refine v_iconst (0 : Int32) G dX12_placed_32 (by decide) ?_
        obtain rfl := Option.some.inj hf
        exact v_iret G dX12_placed_33
      · replace hf := (if_neg h3).symm.trans hf
        refine v_sub _ [] rfl ?_
        exact hj28 hf
  · replace hf := (if_neg h5).symm.trans hf
    refine v_iload_n G dX12_placed_10 0 rfl ?_
    refine v_goto 33 G dX12_placed_11 (by decide) ?_
    obtain rfl := Option.some.inj hf
    exact v_iret G dX12_placed_33
abbrev cX12_write : ByteArray := prog_14_method_14_code
def yX12_write : MethodName := ⟨RX12, "write", "(IIJ)Z"⟩
theorem dX12_write_0 : dc cX12_write 0 (.aload_n 0) 1 1 := ⟨by decide +kernel, rfl⟩
theorem dX12_write_1 : dc cX12_write 1 (.iconst 0) 1 2 := ⟨by decide +kernel, rfl⟩
theorem dX12_write_2 : dc cX12_write 2 (.putfield 75) 3 5 := ⟨by decide +kernel, rfl⟩
theorem dX12_write_5 : dc cX12_write 5 (.aload_n 0) 1 6 := ⟨by decide +kernel, rfl⟩
theorem dX12_write_6 : dc cX12_write 6 (.aload_n 0) 1 7 := ⟨by decide +kernel, rfl⟩
theorem dX12_write_7 : dc cX12_write 7 (.iload_n 1) 1 8 := ⟨by decide +kernel, rfl⟩
theorem dX12_write_8 : dc cX12_write 8 (.iload_n 2) 1 9 := ⟨by decide +kernel, rfl⟩
theorem dX12_write_9 : dc cX12_write 9 (.invokevirtual 98) 3 12 := ⟨by decide +kernel, rfl⟩
theorem dX12_write_12 : dc cX12_write 12 (.putfield 78) 3 15 := ⟨by decide +kernel, rfl⟩
theorem dX12_write_15 : dc cX12_write 15 (.aload_n 0) 1 16 := ⟨by decide +kernel, rfl⟩
theorem dX12_write_16 : dc cX12_write 16 (.getfield 78) 3 19 := ⟨by decide +kernel, rfl⟩
theorem dX12_write_19 : dc cX12_write 19 (.ifCond .le 5) 3 22 := ⟨by decide +kernel, rfl⟩
theorem dX12_write_22 : dc cX12_write 22 (.iconst 0) 1 23 := ⟨by decide +kernel, rfl⟩
theorem dX12_write_23 : dc cX12_write 23 (.ireturn) 1 24 := ⟨by decide +kernel, rfl⟩
theorem dX12_write_24 : dc cX12_write 24 (.aload_n 0) 1 25 := ⟨by decide +kernel, rfl⟩
theorem dX12_write_25 : dc cX12_write 25 (.getfield 20) 3 28 := ⟨by decide +kernel, rfl⟩
theorem dX12_write_28 : dc cX12_write 28 (.bipush 60) 2 30 := ⟨by decide +kernel, rfl⟩
theorem dX12_write_30 : dc cX12_write 30 (.iload_n 1) 1 31 := ⟨by decide +kernel, rfl⟩
theorem dX12_write_31 : dc cX12_write 31 (.imul) 1 32 := ⟨by decide +kernel, rfl⟩
theorem dX12_write_32 : dc cX12_write 32 (.iload_n 2) 1 33 := ⟨by decide +kernel, rfl⟩
theorem dX12_write_33 : dc cX12_write 33 (.iadd) 1 34 := ⟨by decide +kernel, rfl⟩
theorem dX12_write_34 : dc cX12_write 34 (.aload_n 0) 1 35 := ⟨by decide +kernel, rfl⟩
theorem dX12_write_35 : dc cX12_write 35 (.getfield 13) 3 38 := ⟨by decide +kernel, rfl⟩
theorem dX12_write_38 : dc cX12_write 38 (.iload_n 1) 1 39 := ⟨by decide +kernel, rfl⟩
theorem dX12_write_39 : dc cX12_write 39 (.iaload) 1 40 := ⟨by decide +kernel, rfl⟩
theorem dX12_write_40 : dc cX12_write 40 (.lload_n 3) 1 41 := ⟨by decide +kernel, rfl⟩
theorem dX12_write_41 : dc cX12_write 41 (.invokestatic 102) 3 44 := ⟨by decide +kernel, rfl⟩
theorem dX12_write_44 : dc cX12_write 44 (.lastore) 1 45 := ⟨by decide +kernel, rfl⟩
theorem dX12_write_45 : dc cX12_write 45 (.iconst 1) 1 46 := ⟨by decide +kernel, rfl⟩
theorem dX12_write_46 : dc cX12_write 46 (.ireturn) 1 47 := ⟨by decide +kernel, rfl⟩
theorem nm_X12_write : (yX12_write).cls ≠ "java/lang/invoke/MethodHandle" ∧ (yX12_write).cls ≠ "java/lang/invoke/VarHandle" ∧ (parseMethodDescriptor (yX12_write).desc).map (fun d => d.parameters.length) = some 3 := ⟨by decide +kernel, by decide +kernel, by decide +kernel⟩
set_option maxRecDepth 100000 in
theorem z_X12_write (n : Nat) {a0 : Nat} {p1 : Int32} {p2 : Int32} {p3 : Int64} {M : KM} {y : (Int32 × KM)} (hf : f_X12_write n a0 p1 p2 p3 M = some y) : (y.1 = 0 ∨ y.1 = 1) := by
  unfold f_X12_write at hf
  obtain ⟨M1, eM1⟩ : ∃ q : KM, q = (uI M a0 1 (0 : Int32)) := ⟨_, rfl⟩
  replace hf := lt_e hf eM1
  obtain ⟨v2, hcv2, hf⟩ := bd_e hf
  obtain ⟨M3, eM3⟩ : ∃ q : KM, q = (uI M1 a0 0 v2) := ⟨_, rfl⟩
  replace hf := lt_e hf eM3
  by_cases h8 : (M3.1 a0 0) ≤ 0
  · replace hf := (if_pos h8).symm.trans hf
    obtain ⟨g4, hf⟩ := gd_e hf
    obtain ⟨v5, hcv5⟩ : ∃ q, f_X12_cut (M3.1 (a0 + 1) (p1).toNatClampNeg) p3 M3 = q := ⟨_, rfl⟩
    replace hf := lt_e hf hcv5.symm
    obtain ⟨g6, hf⟩ := gd_e hf
    obtain ⟨M7, eM7⟩ : ∃ q : KM, q = (uJ M3 (a0 + 3) ((((60 : Int32) * p1) + p2)).toNatClampNeg v5) := ⟨_, rfl⟩
    replace hf := lt_e hf eM7
    obtain rfl := Option.some.inj hf
    exact (Or.inr rfl)
  · replace hf := (if_neg h8).symm.trans hf
    obtain rfl := Option.some.inj hf
    exact (Or.inl rfl)
set_option maxRecDepth 100000 in
set_option maxHeartbeats 4000000 in
theorem c_X12_write {l : Launch} {ad : Nat → Nat} {cy : Nat → ClassId} {D : va_G} {z : Nat} (n : Nat) {a0 : Nat} {p1 : Int32} {p2 : Int32} {p3 : Int64} {M : KM} {y : (Int32 × KM)} (h0 : kty a0 = 12) (hf : f_X12_write n a0 p1 p2 p3 M = some y) : KC l ad cy D z yX12_write cX12_write 5 (some .boolean) 3 [.ref (ad a0), .int p1, .int p2, .long p3] M (some (.int y.1), y.2) := by
  refine kv_enter (by decide +kernel) (Nat.le_of_ble_eq_true rfl) ?_
  intro x hl hD hz G
  subst hl hD hz
  unfold f_X12_write at hf
  have G : KG ad cy x cX12_write "NoonGuidesModel" 5 (some (some .boolean)) 3 := G
  show KV ad cy x (some (.int y.1), y.2) 0 [(0, .ref (ad a0)), (1, .int p1), (2, .int p2), (3, .long p3)] [] M
  refine v_aload_n G dX12_write_0 0 rfl ?_
  refine v_iconst (0 : Int32) G dX12_write_1 (by decide) ?_
  refine pf_12_1 G h0 t_1492 (Or.inl rfl) dX12_write_2 ?_
  refine v_nmM (fun M1 eM1 => ?_)
  replace hf := lt_e hf eM1
  refine v_aload_n G dX12_write_5 0 rfl ?_
  refine v_aload_n G dX12_write_6 0 rfl ?_
  refine v_iload_n G dX12_write_7 1 rfl ?_
  refine v_iload_n G dX12_write_8 2 rfl ?_
  obtain ⟨v2, hcv2, hf⟩ := bd_e hf
  refine v_callV [.int p1, .int p2] G (c_X12_placed n h0 hcv2) h0 (by decide) rfl rfl rfl t_1657 t_1659 t_p56 t_17 t_1660 nm_X12_placed (by decide) (by decide) rfl rfl (Nat.le_of_ble_eq_true rfl) dX12_write_9 (kv_ri ?_)
  refine pf_12_0 G h0 t_1491 (Or.inl rfl) dX12_write_12 ?_
  refine v_nmM (fun M3 eM3 => ?_)
  replace hf := lt_e hf eM3
  refine v_aload_n G dX12_write_15 0 rfl ?_
  refine gf_12_0 G h0 t_1491 (Or.inl rfl) dX12_write_16 ?_
  refine v_if_le 24 G dX12_write_19 (by decide) (fun h8 => ?_) (fun h8 => ?_)
  · replace hf := (if_pos h8).symm.trans hf
    refine v_aload_n G dX12_write_24 0 rfl ?_
    refine gf_12_6 G h0 t_1497 (Or.inl rfl) dX12_write_25 ?_
    refine v_bipush (60 : Int32) G dX12_write_28 (by decide) ?_
    refine v_iload_n G dX12_write_30 1 rfl ?_
    refine v_imul G dX12_write_31 ?_
    refine v_iload_n G dX12_write_32 2 rfl ?_
    refine v_iadd G dX12_write_33 ?_
    refine v_aload_n G dX12_write_34 0 rfl ?_
    refine gf_12_4 G h0 t_1495 (Or.inl rfl) dX12_write_35 ?_
    refine v_iload_n G dX12_write_38 1 rfl ?_
    obtain ⟨g4, hf⟩ := gd_e hf
    refine al_34 G (kf_12_1 h0) g4 dX12_write_39 ?_
    refine v_lload_n G dX12_write_40 3 rfl ?_
    obtain ⟨v5, hcv5⟩ : ∃ q, f_X12_cut (M3.1 (a0 + 1) (p1).toNatClampNeg) p3 M3 = q := ⟨_, rfl⟩
    replace hf := lt_e hf hcv5.symm
    refine v_callS [.int (M3.1 (a0 + 1) (p1).toNatClampNeg), .long p3] G (c_X12_cut hcv5) t_1665 t_1666 t_17 t_1667 nm_X12_cut (by decide) (by decide) rfl rfl (Nat.le_of_ble_eq_true rfl) dX12_write_41 (kv_rl ?_)
    obtain ⟨g6, hf⟩ := gd_e hf
    refine as_35 G (kf_12_3 h0) g6 dX12_write_44 ?_
    refine v_nmM (fun M7 eM7 => ?_)
    replace hf := lt_e hf eM7
    refine v_iconst (1 : Int32) G dX12_write_45 (by decide) ?_
    obtain rfl := Option.some.inj hf
    exact v_zret G (Or.inr rfl) dX12_write_46
  · replace hf := (if_neg h8).symm.trans hf
    refine v_iconst (0 : Int32) G dX12_write_22 (by decide) ?_
    obtain rfl := Option.some.inj hf
    exact v_zret G (Or.inl rfl) dX12_write_23
abbrev cX12_read : ByteArray := prog_14_method_15_code
def yX12_read : MethodName := ⟨RX12, "read", "(II)J"⟩
theorem dX12_read_0 : dc cX12_read 0 (.aload_n 0) 1 1 := ⟨by decide +kernel, rfl⟩
theorem dX12_read_1 : dc cX12_read 1 (.iconst 0) 1 2 := ⟨by decide +kernel, rfl⟩
theorem dX12_read_2 : dc cX12_read 2 (.putfield 75) 3 5 := ⟨by decide +kernel, rfl⟩
theorem dX12_read_5 : dc cX12_read 5 (.aload_n 0) 1 6 := ⟨by decide +kernel, rfl⟩
theorem dX12_read_6 : dc cX12_read 6 (.aload_n 0) 1 7 := ⟨by decide +kernel, rfl⟩
theorem dX12_read_7 : dc cX12_read 7 (.iload_n 1) 1 8 := ⟨by decide +kernel, rfl⟩
theorem dX12_read_8 : dc cX12_read 8 (.iload_n 2) 1 9 := ⟨by decide +kernel, rfl⟩
theorem dX12_read_9 : dc cX12_read 9 (.invokevirtual 98) 3 12 := ⟨by decide +kernel, rfl⟩
theorem dX12_read_12 : dc cX12_read 12 (.putfield 78) 3 15 := ⟨by decide +kernel, rfl⟩
theorem dX12_read_15 : dc cX12_read 15 (.aload_n 0) 1 16 := ⟨by decide +kernel, rfl⟩
theorem dX12_read_16 : dc cX12_read 16 (.getfield 78) 3 19 := ⟨by decide +kernel, rfl⟩
theorem dX12_read_19 : dc cX12_read 19 (.ifCond .le 9) 3 22 := ⟨by decide +kernel, rfl⟩
theorem dX12_read_22 : dc cX12_read 22 (.ldc2_w 106) 3 25 := ⟨by decide +kernel, rfl⟩
theorem dX12_read_25 : dc cX12_read 25 (.goto 14) 3 28 := ⟨by decide +kernel, rfl⟩
theorem dX12_read_28 : dc cX12_read 28 (.aload_n 0) 1 29 := ⟨by decide +kernel, rfl⟩
theorem dX12_read_29 : dc cX12_read 29 (.getfield 20) 3 32 := ⟨by decide +kernel, rfl⟩
theorem dX12_read_32 : dc cX12_read 32 (.bipush 60) 2 34 := ⟨by decide +kernel, rfl⟩
theorem dX12_read_34 : dc cX12_read 34 (.iload_n 1) 1 35 := ⟨by decide +kernel, rfl⟩
theorem dX12_read_35 : dc cX12_read 35 (.imul) 1 36 := ⟨by decide +kernel, rfl⟩
theorem dX12_read_36 : dc cX12_read 36 (.iload_n 2) 1 37 := ⟨by decide +kernel, rfl⟩
theorem dX12_read_37 : dc cX12_read 37 (.iadd) 1 38 := ⟨by decide +kernel, rfl⟩
theorem dX12_read_38 : dc cX12_read 38 (.laload) 1 39 := ⟨by decide +kernel, rfl⟩
theorem dX12_read_39 : dc cX12_read 39 (.lreturn) 1 40 := ⟨by decide +kernel, rfl⟩
theorem nm_X12_read : (yX12_read).cls ≠ "java/lang/invoke/MethodHandle" ∧ (yX12_read).cls ≠ "java/lang/invoke/VarHandle" ∧ (parseMethodDescriptor (yX12_read).desc).map (fun d => d.parameters.length) = some 2 := ⟨by decide +kernel, by decide +kernel, by decide +kernel⟩
set_option maxRecDepth 100000 in
set_option maxHeartbeats 4000000 in
theorem c_X12_read {l : Launch} {ad : Nat → Nat} {cy : Nat → ClassId} {D : va_G} {z : Nat} (n : Nat) {a0 : Nat} {p1 : Int32} {p2 : Int32} {M : KM} {y : (Int64 × KM)} (h0 : kty a0 = 12) (hf : f_X12_read n a0 p1 p2 M = some y) : KC l ad cy D z yX12_read cX12_read 3 (some .long) 3 [.ref (ad a0), .int p1, .int p2] M (some (.long y.1), y.2) := by
  refine kv_enter (by decide +kernel) (Nat.le_of_ble_eq_true rfl) ?_
  intro x hl hD hz G
  subst hl hD hz
  unfold f_X12_read at hf
  have G : KG ad cy x cX12_read "NoonGuidesModel" 3 (some (some .long)) 3 := G
  show KV ad cy x (some (.long y.1), y.2) 0 [(0, .ref (ad a0)), (1, .int p1), (2, .int p2)] [] M
  refine v_aload_n G dX12_read_0 0 rfl ?_
  refine v_iconst (0 : Int32) G dX12_read_1 (by decide) ?_
  refine pf_12_1 G h0 t_1492 (Or.inl rfl) dX12_read_2 ?_
  refine v_nmM (fun M1 eM1 => ?_)
  replace hf := lt_e hf eM1
  refine v_aload_n G dX12_read_5 0 rfl ?_
  refine v_aload_n G dX12_read_6 0 rfl ?_
  refine v_iload_n G dX12_read_7 1 rfl ?_
  refine v_iload_n G dX12_read_8 2 rfl ?_
  obtain ⟨v2, hcv2, hf⟩ := bd_e hf
  refine v_callV [.int p1, .int p2] G (c_X12_placed n h0 hcv2) h0 (by decide) rfl rfl rfl t_1657 t_1659 t_p56 t_17 t_1660 nm_X12_placed (by decide) (by decide) rfl rfl (Nat.le_of_ble_eq_true rfl) dX12_read_9 (kv_ri ?_)
  refine pf_12_0 G h0 t_1491 (Or.inl rfl) dX12_read_12 ?_
  refine v_nmM (fun M3 eM3 => ?_)
  replace hf := lt_e hf eM3
  refine v_aload_n G dX12_read_15 0 rfl ?_
  refine gf_12_0 G h0 t_1491 (Or.inl rfl) dX12_read_16 ?_
  refine v_if_le 28 G dX12_read_19 (by decide) (fun h5 => ?_) (fun h5 => ?_)
  · replace hf := (if_pos h5).symm.trans hf
    refine v_aload_n G dX12_read_28 0 rfl ?_
    refine gf_12_6 G h0 t_1497 (Or.inl rfl) dX12_read_29 ?_
    refine v_bipush (60 : Int32) G dX12_read_32 (by decide) ?_
    refine v_iload_n G dX12_read_34 1 rfl ?_
    refine v_imul G dX12_read_35 ?_
    refine v_iload_n G dX12_read_36 2 rfl ?_
    refine v_iadd G dX12_read_37 ?_
    obtain ⟨g4, hf⟩ := gd_e hf
    refine al_35 G (kf_12_3 h0) g4 dX12_read_38 ?_
    obtain rfl := Option.some.inj hf
    exact v_lret G dX12_read_39
  · replace hf := (if_neg h5).symm.trans hf
    refine v_ldc2 G dX12_read_22 t_1672 ?_
    refine v_goto 39 G dX12_read_25 (by decide) ?_
    obtain rfl := Option.some.inj hf
    exact v_lret G dX12_read_39
abbrev cX12_pour : ByteArray := prog_14_method_16_code
def yX12_pour : MethodName := ⟨RX12, "pour", "(IIIII)Z"⟩
theorem dX12_pour_0 : dc cX12_pour 0 (.aload_n 0) 1 1 := ⟨by decide +kernel, rfl⟩
theorem dX12_pour_1 : dc cX12_pour 1 (.iconst 0) 1 2 := ⟨by decide +kernel, rfl⟩
theorem dX12_pour_2 : dc cX12_pour 2 (.putfield 75) 3 5 := ⟨by decide +kernel, rfl⟩
theorem dX12_pour_5 : dc cX12_pour 5 (.aload_n 0) 1 6 := ⟨by decide +kernel, rfl⟩
theorem dX12_pour_6 : dc cX12_pour 6 (.iconst 0) 1 7 := ⟨by decide +kernel, rfl⟩
theorem dX12_pour_7 : dc cX12_pour 7 (.putfield 78) 3 10 := ⟨by decide +kernel, rfl⟩
theorem dX12_pour_10 : dc cX12_pour 10 (.iload_n 1) 1 11 := ⟨by decide +kernel, rfl⟩
theorem dX12_pour_11 : dc cX12_pour 11 (.ifCond .lt 17) 3 14 := ⟨by decide +kernel, rfl⟩
theorem dX12_pour_14 : dc cX12_pour 14 (.iload_n 1) 1 15 := ⟨by decide +kernel, rfl⟩
theorem dX12_pour_15 : dc cX12_pour 15 (.iconst 4) 1 16 := ⟨by decide +kernel, rfl⟩
theorem dX12_pour_16 : dc cX12_pour 16 (.if_icmp .ge 12) 3 19 := ⟨by decide +kernel, rfl⟩
theorem dX12_pour_19 : dc cX12_pour 19 (.iload_n 3) 1 20 := ⟨by decide +kernel, rfl⟩
theorem dX12_pour_20 : dc cX12_pour 20 (.ifCond .lt 8) 3 23 := ⟨by decide +kernel, rfl⟩
theorem dX12_pour_23 : dc cX12_pour 23 (.iload_n 3) 1 24 := ⟨by decide +kernel, rfl⟩
theorem dX12_pour_24 : dc cX12_pour 24 (.iconst 4) 1 25 := ⟨by decide +kernel, rfl⟩
theorem dX12_pour_25 : dc cX12_pour 25 (.if_icmp .lt 9) 3 28 := ⟨by decide +kernel, rfl⟩
theorem dX12_pour_28 : dc cX12_pour 28 (.aload_n 0) 1 29 := ⟨by decide +kernel, rfl⟩
theorem dX12_pour_29 : dc cX12_pour 29 (.iconst 1) 1 30 := ⟨by decide +kernel, rfl⟩
theorem dX12_pour_30 : dc cX12_pour 30 (.invokevirtual 90) 3 33 := ⟨by decide +kernel, rfl⟩
theorem dX12_pour_33 : dc cX12_pour 33 (.ireturn) 1 34 := ⟨by decide +kernel, rfl⟩
theorem dX12_pour_34 : dc cX12_pour 34 (.aload_n 0) 1 35 := ⟨by decide +kernel, rfl⟩
theorem dX12_pour_35 : dc cX12_pour 35 (.getfield 17) 3 38 := ⟨by decide +kernel, rfl⟩
theorem dX12_pour_38 : dc cX12_pour 38 (.iload_n 1) 1 39 := ⟨by decide +kernel, rfl⟩
theorem dX12_pour_39 : dc cX12_pour 39 (.iaload) 1 40 := ⟨by decide +kernel, rfl⟩
theorem dX12_pour_40 : dc cX12_pour 40 (.ifCond .lt 12) 3 43 := ⟨by decide +kernel, rfl⟩
theorem dX12_pour_43 : dc cX12_pour 43 (.aload_n 0) 1 44 := ⟨by decide +kernel, rfl⟩
theorem dX12_pour_44 : dc cX12_pour 44 (.getfield 17) 3 47 := ⟨by decide +kernel, rfl⟩
theorem dX12_pour_47 : dc cX12_pour 47 (.iload_n 3) 1 48 := ⟨by decide +kernel, rfl⟩
theorem dX12_pour_48 : dc cX12_pour 48 (.iaload) 1 49 := ⟨by decide +kernel, rfl⟩
theorem dX12_pour_49 : dc cX12_pour 49 (.ifCond .ge 9) 3 52 := ⟨by decide +kernel, rfl⟩
theorem dX12_pour_52 : dc cX12_pour 52 (.aload_n 0) 1 53 := ⟨by decide +kernel, rfl⟩
theorem dX12_pour_53 : dc cX12_pour 53 (.iconst 3) 1 54 := ⟨by decide +kernel, rfl⟩
theorem dX12_pour_54 : dc cX12_pour 54 (.invokevirtual 90) 3 57 := ⟨by decide +kernel, rfl⟩
theorem dX12_pour_57 : dc cX12_pour 57 (.ireturn) 1 58 := ⟨by decide +kernel, rfl⟩
theorem dX12_pour_58 : dc cX12_pour 58 (.aload_n 0) 1 59 := ⟨by decide +kernel, rfl⟩
theorem dX12_pour_59 : dc cX12_pour 59 (.getfield 13) 3 62 := ⟨by decide +kernel, rfl⟩
theorem dX12_pour_62 : dc cX12_pour 62 (.iload_n 1) 1 63 := ⟨by decide +kernel, rfl⟩
theorem dX12_pour_63 : dc cX12_pour 63 (.iaload) 1 64 := ⟨by decide +kernel, rfl⟩
theorem dX12_pour_64 : dc cX12_pour 64 (.aload_n 0) 1 65 := ⟨by decide +kernel, rfl⟩
theorem dX12_pour_65 : dc cX12_pour 65 (.getfield 13) 3 68 := ⟨by decide +kernel, rfl⟩
theorem dX12_pour_68 : dc cX12_pour 68 (.iload_n 3) 1 69 := ⟨by decide +kernel, rfl⟩
theorem dX12_pour_69 : dc cX12_pour 69 (.iaload) 1 70 := ⟨by decide +kernel, rfl⟩
theorem dX12_pour_70 : dc cX12_pour 70 (.if_icmp .eq 10) 3 73 := ⟨by decide +kernel, rfl⟩
theorem dX12_pour_73 : dc cX12_pour 73 (.aload_n 0) 1 74 := ⟨by decide +kernel, rfl⟩
theorem dX12_pour_74 : dc cX12_pour 74 (.bipush 11) 2 76 := ⟨by decide +kernel, rfl⟩
theorem dX12_pour_76 : dc cX12_pour 76 (.invokevirtual 90) 3 79 := ⟨by decide +kernel, rfl⟩
theorem dX12_pour_79 : dc cX12_pour 79 (.ireturn) 1 80 := ⟨by decide +kernel, rfl⟩
theorem dX12_pour_80 : dc cX12_pour 80 (.iload 5) 2 82 := ⟨by decide +kernel, rfl⟩
theorem dX12_pour_82 : dc cX12_pour 82 (.ifCond .ge 10) 3 85 := ⟨by decide +kernel, rfl⟩
theorem dX12_pour_85 : dc cX12_pour 85 (.aload_n 0) 1 86 := ⟨by decide +kernel, rfl⟩
theorem dX12_pour_86 : dc cX12_pour 86 (.bipush 6) 2 88 := ⟨by decide +kernel, rfl⟩
theorem dX12_pour_88 : dc cX12_pour 88 (.invokevirtual 90) 3 91 := ⟨by decide +kernel, rfl⟩
theorem dX12_pour_91 : dc cX12_pour 91 (.ireturn) 1 92 := ⟨by decide +kernel, rfl⟩
theorem dX12_pour_92 : dc cX12_pour 92 (.iload_n 2) 1 93 := ⟨by decide +kernel, rfl⟩
theorem dX12_pour_93 : dc cX12_pour 93 (.ifCond .lt 43) 3 96 := ⟨by decide +kernel, rfl⟩
theorem dX12_pour_96 : dc cX12_pour 96 (.iload 4) 2 98 := ⟨by decide +kernel, rfl⟩
theorem dX12_pour_98 : dc cX12_pour 98 (.ifCond .lt 38) 3 101 := ⟨by decide +kernel, rfl⟩
theorem dX12_pour_101 : dc cX12_pour 101 (.iload_n 2) 1 102 := ⟨by decide +kernel, rfl⟩
theorem dX12_pour_102 : dc cX12_pour 102 (.i2l) 1 103 := ⟨by decide +kernel, rfl⟩
theorem dX12_pour_103 : dc cX12_pour 103 (.iload 5) 2 105 := ⟨by decide +kernel, rfl⟩
theorem dX12_pour_105 : dc cX12_pour 105 (.i2l) 1 106 := ⟨by decide +kernel, rfl⟩
theorem dX12_pour_106 : dc cX12_pour 106 (.ladd) 1 107 := ⟨by decide +kernel, rfl⟩
theorem dX12_pour_107 : dc cX12_pour 107 (.aload_n 0) 1 108 := ⟨by decide +kernel, rfl⟩
theorem dX12_pour_108 : dc cX12_pour 108 (.getfield 17) 3 111 := ⟨by decide +kernel, rfl⟩
theorem dX12_pour_111 : dc cX12_pour 111 (.iload_n 1) 1 112 := ⟨by decide +kernel, rfl⟩
theorem dX12_pour_112 : dc cX12_pour 112 (.iaload) 1 113 := ⟨by decide +kernel, rfl⟩
theorem dX12_pour_113 : dc cX12_pour 113 (.i2l) 1 114 := ⟨by decide +kernel, rfl⟩
theorem dX12_pour_114 : dc cX12_pour 114 (.lcmp) 1 115 := ⟨by decide +kernel, rfl⟩
theorem dX12_pour_115 : dc cX12_pour 115 (.ifCond .gt 21) 3 118 := ⟨by decide +kernel, rfl⟩
theorem dX12_pour_118 : dc cX12_pour 118 (.iload 4) 2 120 := ⟨by decide +kernel, rfl⟩
theorem dX12_pour_120 : dc cX12_pour 120 (.i2l) 1 121 := ⟨by decide +kernel, rfl⟩
theorem dX12_pour_121 : dc cX12_pour 121 (.iload 5) 2 123 := ⟨by decide +kernel, rfl⟩
theorem dX12_pour_123 : dc cX12_pour 123 (.i2l) 1 124 := ⟨by decide +kernel, rfl⟩
theorem dX12_pour_124 : dc cX12_pour 124 (.ladd) 1 125 := ⟨by decide +kernel, rfl⟩
theorem dX12_pour_125 : dc cX12_pour 125 (.aload_n 0) 1 126 := ⟨by decide +kernel, rfl⟩
theorem dX12_pour_126 : dc cX12_pour 126 (.getfield 17) 3 129 := ⟨by decide +kernel, rfl⟩
theorem dX12_pour_129 : dc cX12_pour 129 (.iload_n 3) 1 130 := ⟨by decide +kernel, rfl⟩
theorem dX12_pour_130 : dc cX12_pour 130 (.iaload) 1 131 := ⟨by decide +kernel, rfl⟩
theorem dX12_pour_131 : dc cX12_pour 131 (.i2l) 1 132 := ⟨by decide +kernel, rfl⟩
theorem dX12_pour_132 : dc cX12_pour 132 (.lcmp) 1 133 := ⟨by decide +kernel, rfl⟩
theorem dX12_pour_133 : dc cX12_pour 133 (.ifCond .le 9) 3 136 := ⟨by decide +kernel, rfl⟩
theorem dX12_pour_136 : dc cX12_pour 136 (.aload_n 0) 1 137 := ⟨by decide +kernel, rfl⟩
theorem dX12_pour_137 : dc cX12_pour 137 (.iconst 4) 1 138 := ⟨by decide +kernel, rfl⟩
theorem dX12_pour_138 : dc cX12_pour 138 (.invokevirtual 90) 3 141 := ⟨by decide +kernel, rfl⟩
theorem dX12_pour_141 : dc cX12_pour 141 (.ireturn) 1 142 := ⟨by decide +kernel, rfl⟩
theorem dX12_pour_142 : dc cX12_pour 142 (.iload_n 2) 1 143 := ⟨by decide +kernel, rfl⟩
theorem dX12_pour_143 : dc cX12_pour 143 (.iload 4) 2 145 := ⟨by decide +kernel, rfl⟩
theorem dX12_pour_145 : dc cX12_pour 145 (.if_icmp .ge 7) 3 148 := ⟨by decide +kernel, rfl⟩
theorem dX12_pour_148 : dc cX12_pour 148 (.iconst 1) 1 149 := ⟨by decide +kernel, rfl⟩
theorem dX12_pour_149 : dc cX12_pour 149 (.goto 4) 3 152 := ⟨by decide +kernel, rfl⟩
theorem dX12_pour_152 : dc cX12_pour 152 (.iconst 0) 1 153 := ⟨by decide +kernel, rfl⟩
theorem dX12_pour_153 : dc cX12_pour 153 (.istore 6) 2 155 := ⟨by decide +kernel, rfl⟩
theorem dX12_pour_155 : dc cX12_pour 155 (.iconst 0) 1 156 := ⟨by decide +kernel, rfl⟩
theorem dX12_pour_156 : dc cX12_pour 156 (.istore 7) 2 158 := ⟨by decide +kernel, rfl⟩
theorem dX12_pour_158 : dc cX12_pour 158 (.iload 7) 2 160 := ⟨by decide +kernel, rfl⟩
theorem dX12_pour_160 : dc cX12_pour 160 (.iload 5) 2 162 := ⟨by decide +kernel, rfl⟩
theorem dX12_pour_162 : dc cX12_pour 162 (.if_icmp .ge 57) 3 165 := ⟨by decide +kernel, rfl⟩
theorem dX12_pour_165 : dc cX12_pour 165 (.iload 6) 2 167 := ⟨by decide +kernel, rfl⟩
theorem dX12_pour_167 : dc cX12_pour 167 (.ifCond .eq 13) 3 170 := ⟨by decide +kernel, rfl⟩
theorem dX12_pour_170 : dc cX12_pour 170 (.iload 5) 2 172 := ⟨by decide +kernel, rfl⟩
theorem dX12_pour_172 : dc cX12_pour 172 (.iconst 1) 1 173 := ⟨by decide +kernel, rfl⟩
theorem dX12_pour_173 : dc cX12_pour 173 (.isub) 1 174 := ⟨by decide +kernel, rfl⟩
theorem dX12_pour_174 : dc cX12_pour 174 (.iload 7) 2 176 := ⟨by decide +kernel, rfl⟩
theorem dX12_pour_176 : dc cX12_pour 176 (.isub) 1 177 := ⟨by decide +kernel, rfl⟩
theorem dX12_pour_177 : dc cX12_pour 177 (.goto 5) 3 180 := ⟨by decide +kernel, rfl⟩
theorem dX12_pour_180 : dc cX12_pour 180 (.iload 7) 2 182 := ⟨by decide +kernel, rfl⟩
theorem dX12_pour_182 : dc cX12_pour 182 (.istore 8) 2 184 := ⟨by decide +kernel, rfl⟩
theorem dX12_pour_184 : dc cX12_pour 184 (.aload_n 0) 1 185 := ⟨by decide +kernel, rfl⟩
theorem dX12_pour_185 : dc cX12_pour 185 (.getfield 20) 3 188 := ⟨by decide +kernel, rfl⟩
theorem dX12_pour_188 : dc cX12_pour 188 (.bipush 60) 2 190 := ⟨by decide +kernel, rfl⟩
theorem dX12_pour_190 : dc cX12_pour 190 (.iload_n 3) 1 191 := ⟨by decide +kernel, rfl⟩
theorem dX12_pour_191 : dc cX12_pour 191 (.imul) 1 192 := ⟨by decide +kernel, rfl⟩
theorem dX12_pour_192 : dc cX12_pour 192 (.iload 4) 2 194 := ⟨by decide +kernel, rfl⟩
theorem dX12_pour_194 : dc cX12_pour 194 (.iadd) 1 195 := ⟨by decide +kernel, rfl⟩
theorem dX12_pour_195 : dc cX12_pour 195 (.iload 8) 2 197 := ⟨by decide +kernel, rfl⟩
theorem dX12_pour_197 : dc cX12_pour 197 (.iadd) 1 198 := ⟨by decide +kernel, rfl⟩
theorem dX12_pour_198 : dc cX12_pour 198 (.aload_n 0) 1 199 := ⟨by decide +kernel, rfl⟩
theorem dX12_pour_199 : dc cX12_pour 199 (.getfield 20) 3 202 := ⟨by decide +kernel, rfl⟩
theorem dX12_pour_202 : dc cX12_pour 202 (.bipush 60) 2 204 := ⟨by decide +kernel, rfl⟩
theorem dX12_pour_204 : dc cX12_pour 204 (.iload_n 1) 1 205 := ⟨by decide +kernel, rfl⟩
theorem dX12_pour_205 : dc cX12_pour 205 (.imul) 1 206 := ⟨by decide +kernel, rfl⟩
theorem dX12_pour_206 : dc cX12_pour 206 (.iload_n 2) 1 207 := ⟨by decide +kernel, rfl⟩
theorem dX12_pour_207 : dc cX12_pour 207 (.iadd) 1 208 := ⟨by decide +kernel, rfl⟩
theorem dX12_pour_208 : dc cX12_pour 208 (.iload 8) 2 210 := ⟨by decide +kernel, rfl⟩
theorem dX12_pour_210 : dc cX12_pour 210 (.iadd) 1 211 := ⟨by decide +kernel, rfl⟩
theorem dX12_pour_211 : dc cX12_pour 211 (.laload) 1 212 := ⟨by decide +kernel, rfl⟩
theorem dX12_pour_212 : dc cX12_pour 212 (.lastore) 1 213 := ⟨by decide +kernel, rfl⟩
theorem dX12_pour_213 : dc cX12_pour 213 (.iinc 7 1) 3 216 := ⟨by decide +kernel, rfl⟩
theorem dX12_pour_216 : dc cX12_pour 216 (.goto (-58)) 3 219 := ⟨by decide +kernel, rfl⟩
theorem dX12_pour_219 : dc cX12_pour 219 (.iconst 1) 1 220 := ⟨by decide +kernel, rfl⟩
theorem dX12_pour_220 : dc cX12_pour 220 (.ireturn) 1 221 := ⟨by decide +kernel, rfl⟩
theorem nm_X12_pour : (yX12_pour).cls ≠ "java/lang/invoke/MethodHandle" ∧ (yX12_pour).cls ≠ "java/lang/invoke/VarHandle" ∧ (parseMethodDescriptor (yX12_pour).desc).map (fun d => d.parameters.length) = some 5 := ⟨by decide +kernel, by decide +kernel, by decide +kernel⟩
theorem zs_X12_pour_158 {a0 : Nat} {c1 : Int32} {c2 : Int32} {c3 : Int32} {c4 : Int32} {c5 : Int32} {c6 : Int32} {y : (Int32 × KM)} : ∀ (n : Nat) (w7 : Int32) (M : KM), lp_X12_pour_158 n a0 c1 c2 c3 c4 c5 c6 w7 M = some y → (y.1 = 0 ∨ y.1 = 1) := by
  intro n
  induction n with
  | zero =>
    intro w7 M hf
    cases hf
  | succ n ih =>
    intro w7 M hf
    rw [lp_X12_pour_158] at hf
    by_cases h19 : c5 ≤ w7
    · replace hf := (if_pos h19).symm.trans hf
      obtain rfl := Option.some.inj hf
      exact (Or.inr rfl)
    · replace hf := (if_neg h19).symm.trans hf
      obtain ⟨j182, ej182, hf⟩ := lt_j hf
      have hj182 : ∀ (x13 : Int32), j182 x13 = some y → (y.1 = 0 ∨ y.1 = 1) := by
        intro x13 hf
        rw [ej182] at hf
        obtain ⟨g14, hf⟩ := gd_e hf
        obtain ⟨g15, hf⟩ := gd_e hf
        obtain ⟨M16, eM16⟩ : ∃ q : KM, q = (uJ M (a0 + 3) (((((60 : Int32) * c3) + c4) + x13)).toNatClampNeg (M.2.1 (a0 + 3) (((((60 : Int32) * c1) + c2) + x13)).toNatClampNeg)) := ⟨_, rfl⟩
        replace hf := lt_e hf eM16
        obtain ⟨v17, ev17⟩ : ∃ q : Int32, q = w7 + (1 : Int32) := ⟨_, rfl⟩
        replace hf := lt_e hf ev17
        exact ih v17 M16 hf
      by_cases h18 : c6 = 0
      · replace hf := (if_pos h18).symm.trans hf
        exact hj182 w7 hf
      · replace hf := (if_neg h18).symm.trans hf
        exact hj182 ((c5 - (1 : Int32)) - w7) hf
set_option maxRecDepth 100000 in
theorem z_X12_pour (n : Nat) {a0 : Nat} {p1 : Int32} {p2 : Int32} {p3 : Int32} {p4 : Int32} {p5 : Int32} {M : KM} {y : (Int32 × KM)} (hf : f_X12_pour n a0 p1 p2 p3 p4 p5 M = some y) : (y.1 = 0 ∨ y.1 = 1) := by
  unfold f_X12_pour at hf
  obtain ⟨M1, eM1⟩ : ∃ q : KM, q = (uI M a0 1 (0 : Int32)) := ⟨_, rfl⟩
  replace hf := lt_e hf eM1
  obtain ⟨M2, eM2⟩ : ∃ q : KM, q = (uI M1 a0 0 (0 : Int32)) := ⟨_, rfl⟩
  replace hf := lt_e hf eM2
  obtain ⟨j28, ej28, hf⟩ := lt_j hf
  have hj28 : j28 = some y → (y.1 = 0 ∨ y.1 = 1) := by
    intro hf
    rw [ej28] at hf
    obtain ⟨v3, hcv3⟩ : ∃ q, f_X12_no a0 (1 : Int32) M2 = q := ⟨_, rfl⟩
    replace hf := lt_e hf hcv3.symm
    obtain rfl := Option.some.inj hf
    exact (z_X12_no hcv3)
  by_cases h34 : p1 < 0
  · replace hf := (if_pos h34).symm.trans hf
    exact hj28 hf
  · replace hf := (if_neg h34).symm.trans hf
    by_cases h33 : (4 : Int32) ≤ p1
    · replace hf := (if_pos h33).symm.trans hf
      exact hj28 hf
    · replace hf := (if_neg h33).symm.trans hf
      by_cases h32 : p3 < 0
      · replace hf := (if_pos h32).symm.trans hf
        exact hj28 hf
      · replace hf := (if_neg h32).symm.trans hf
        by_cases h31 : p3 < (4 : Int32)
        · replace hf := (if_pos h31).symm.trans hf
          obtain ⟨g4, hf⟩ := gd_e hf
          obtain ⟨j52, ej52, hf⟩ := lt_j hf
          have hj52 : j52 = some y → (y.1 = 0 ∨ y.1 = 1) := by
            intro hf
            rw [ej52] at hf
            obtain ⟨v5, hcv5⟩ : ∃ q, f_X12_no a0 (3 : Int32) M2 = q := ⟨_, rfl⟩
            replace hf := lt_e hf hcv5.symm
            obtain rfl := Option.some.inj hf
            exact (z_X12_no hcv5)
          by_cases h30 : (M2.1 (a0 + 2) (p1).toNatClampNeg) < 0
          · replace hf := (if_pos h30).symm.trans hf
            exact hj52 hf
          · replace hf := (if_neg h30).symm.trans hf
            obtain ⟨g6, hf⟩ := gd_e hf
            by_cases h29 : 0 ≤ (M2.1 (a0 + 2) (p3).toNatClampNeg)
            · replace hf := (if_pos h29).symm.trans hf
              obtain ⟨g7, hf⟩ := gd_e hf
              obtain ⟨g8, hf⟩ := gd_e hf
              by_cases h28 : (M2.1 (a0 + 1) (p1).toNatClampNeg) = (M2.1 (a0 + 1) (p3).toNatClampNeg)
              · replace hf := (if_pos h28).symm.trans hf
                by_cases h26 : 0 ≤ p5
                · replace hf := (if_pos h26).symm.trans hf
                  obtain ⟨j136, ej136, hf⟩ := lt_j hf
                  have hj136 : j136 = some y → (y.1 = 0 ∨ y.1 = 1) := by
                    intro hf
                    rw [ej136] at hf
                    obtain ⟨v9, hcv9⟩ : ∃ q, f_X12_no a0 (4 : Int32) M2 = q := ⟨_, rfl⟩
                    replace hf := lt_e hf hcv9.symm
                    obtain rfl := Option.some.inj hf
                    exact (z_X12_no hcv9)
                  by_cases h24 : p2 < 0
                  · replace hf := (if_pos h24).symm.trans hf
                    exact hj136 hf
                  · replace hf := (if_neg h24).symm.trans hf
                    by_cases h23 : p4 < 0
                    · replace hf := (if_pos h23).symm.trans hf
                      exact hj136 hf
                    · replace hf := (if_neg h23).symm.trans hf
                      obtain ⟨g10, hf⟩ := gd_e hf
                      by_cases h22 : 0 < (lg_cmp ((p2).toInt64 + (p5).toInt64) ((M2.1 (a0 + 2) (p1).toNatClampNeg)).toInt64)
                      · replace hf := (if_pos h22).symm.trans hf
                        exact hj136 hf
                      · replace hf := (if_neg h22).symm.trans hf
                        obtain ⟨g11, hf⟩ := gd_e hf
                        by_cases h21 : (lg_cmp ((p4).toInt64 + (p5).toInt64) ((M2.1 (a0 + 2) (p3).toNatClampNeg)).toInt64) ≤ 0
                        · replace hf := (if_pos h21).symm.trans hf
                          obtain ⟨j153, ej153, hf⟩ := lt_j hf
                          have hj153 : ∀ (x12 : Int32), j153 x12 = some y → (y.1 = 0 ∨ y.1 = 1) := by
                            intro x12 hf
                            rw [ej153] at hf
                            refine zs_X12_pour_158 n (0 : Int32) M2 hf
                          by_cases h20 : p4 ≤ p2
                          · replace hf := (if_pos h20).symm.trans hf
                            exact hj153 (0 : Int32) hf
                          · replace hf := (if_neg h20).symm.trans hf
                            exact hj153 (1 : Int32) hf
                        · replace hf := (if_neg h21).symm.trans hf
                          exact hj136 hf
                · replace hf := (if_neg h26).symm.trans hf
                  obtain ⟨v25, hcv25⟩ : ∃ q, f_X12_no a0 (6 : Int32) M2 = q := ⟨_, rfl⟩
                  replace hf := lt_e hf hcv25.symm
                  obtain rfl := Option.some.inj hf
                  exact (z_X12_no hcv25)
              · replace hf := (if_neg h28).symm.trans hf
                obtain ⟨v27, hcv27⟩ : ∃ q, f_X12_no a0 (11 : Int32) M2 = q := ⟨_, rfl⟩
                replace hf := lt_e hf hcv27.symm
                obtain rfl := Option.some.inj hf
                exact (z_X12_no hcv27)
            · replace hf := (if_neg h29).symm.trans hf
              exact hj52 hf
        · replace hf := (if_neg h31).symm.trans hf
          exact hj28 hf
set_option maxRecDepth 100000 in
set_option maxHeartbeats 4000000 in
theorem s_X12_pour_158 {ad : Nat → Nat} {cy : Nat → ClassId} {x : KX} (G : KG ad cy x cX12_pour "NoonGuidesModel" 9 (some (some .boolean)) 2) {a0 : Nat} {c1 : Int32} {c2 : Int32} {c3 : Int32} {c4 : Int32} {c5 : Int32} {c6 : Int32} (h0 : kty a0 = 12) {y : (Int32 × KM)} : ∀ (n : Nat) (w7 : Int32) (M : KM), lp_X12_pour_158 n a0 c1 c2 c3 c4 c5 c6 w7 M = some y → KV ad cy x (some (.int y.1), y.2) 158 [(0, .ref (ad a0)), (1, .int c1), (2, .int c2), (3, .int c3), (4, .int c4), (5, .int c5), (6, .int c6), (7, .int w7)] [] M := by
  intro n
  induction n with
  | zero =>
    intro w7 M hf
    cases hf
  | succ n ih =>
    intro w7 M hf
    rw [lp_X12_pour_158] at hf
    refine v_iload G dX12_pour_158 7 rfl ?_
    refine v_iload G dX12_pour_160 5 rfl ?_
    refine v_icmp_ge 219 G dX12_pour_162 (by decide) (fun h19 => ?_) (fun h19 => ?_)
    · replace hf := (if_pos h19).symm.trans hf
      refine v_iconst (1 : Int32) G dX12_pour_219 (by decide) ?_
      obtain rfl := Option.some.inj hf
      exact v_zret G (Or.inr rfl) dX12_pour_220
    · replace hf := (if_neg h19).symm.trans hf
      refine v_iload G dX12_pour_165 6 rfl ?_
      obtain ⟨j182, ej182, hf⟩ := lt_j hf
      have hj182 : ∀ (x13 : Int32), j182 x13 = some y → KV ad cy x (some (.int y.1), y.2) 182 [(0, .ref (ad a0)), (1, .int c1), (2, .int c2), (3, .int c3), (4, .int c4), (5, .int c5), (6, .int c6), (7, .int w7)] [.int x13] M := by
        intro x13 hf
        rw [ej182] at hf
        refine v_istore [(8, .int x13), (0, .ref (ad a0)), (1, .int c1), (2, .int c2), (3, .int c3), (4, .int c4), (5, .int c5), (6, .int c6), (7, .int w7)] G dX12_pour_182 (by decide) rfl ?_
        refine v_aload_n G dX12_pour_184 1 rfl ?_
        refine gf_12_6 G h0 t_1497 (Or.inl rfl) dX12_pour_185 ?_
        refine v_bipush (60 : Int32) G dX12_pour_188 (by decide) ?_
        refine v_iload_n G dX12_pour_190 4 rfl ?_
        refine v_imul G dX12_pour_191 ?_
        refine v_iload G dX12_pour_192 5 rfl ?_
        refine v_iadd G dX12_pour_194 ?_
        refine v_iload G dX12_pour_195 0 rfl ?_
        refine v_iadd G dX12_pour_197 ?_
        refine v_aload_n G dX12_pour_198 1 rfl ?_
        refine gf_12_6 G h0 t_1497 (Or.inl rfl) dX12_pour_199 ?_
        refine v_bipush (60 : Int32) G dX12_pour_202 (by decide) ?_
        refine v_iload_n G dX12_pour_204 2 rfl ?_
        refine v_imul G dX12_pour_205 ?_
        refine v_iload_n G dX12_pour_206 3 rfl ?_
        refine v_iadd G dX12_pour_207 ?_
        refine v_iload G dX12_pour_208 0 rfl ?_
        refine v_iadd G dX12_pour_210 ?_
        obtain ⟨g14, hf⟩ := gd_e hf
        refine al_35 G (kf_12_3 h0) g14 dX12_pour_211 ?_
        obtain ⟨g15, hf⟩ := gd_e hf
        refine as_35 G (kf_12_3 h0) g15 dX12_pour_212 ?_
        refine v_nmM (fun M16 eM16 => ?_)
        replace hf := lt_e hf eM16
        obtain ⟨v17, ev17⟩ : ∃ q : Int32, q = w7 + (1 : Int32) := ⟨_, rfl⟩
        replace hf := lt_e hf ev17
        refine v_iinc v17 [(7, .int v17), (8, .int x13), (0, .ref (ad a0)), (1, .int c1), (2, .int c2), (3, .int c3), (4, .int c4), (5, .int c5), (6, .int c6)] G dX12_pour_213 8 rfl (by rw [ev17]; rfl) (by decide) rfl ?_
        refine v_goto 158 G dX12_pour_216 (by decide) ?_
        refine v_sub _ [2, 3, 4, 5, 6, 7, 8, 0] rfl ?_
        exact ih v17 M16 hf
      refine v_if_eq 180 G dX12_pour_167 (by decide) (fun h18 => ?_) (fun h18 => ?_)
      · replace hf := (if_pos h18).symm.trans hf
        refine v_iload G dX12_pour_180 7 rfl ?_
        refine v_sub _ [0, 1, 2, 3, 4, 5, 6, 7] rfl ?_
        exact hj182 w7 hf
      · replace hf := (if_neg h18).symm.trans hf
        refine v_iload G dX12_pour_170 5 rfl ?_
        refine v_iconst (1 : Int32) G dX12_pour_172 (by decide) ?_
        refine v_isub G dX12_pour_173 ?_
        refine v_iload G dX12_pour_174 7 rfl ?_
        refine v_isub G dX12_pour_176 ?_
        refine v_goto 182 G dX12_pour_177 (by decide) ?_
        refine v_sub _ [0, 1, 2, 3, 4, 5, 6, 7] rfl ?_
        exact hj182 ((c5 - (1 : Int32)) - w7) hf
set_option maxRecDepth 100000 in
set_option maxHeartbeats 4000000 in
theorem c_X12_pour {l : Launch} {ad : Nat → Nat} {cy : Nat → ClassId} {D : va_G} {z : Nat} (n : Nat) {a0 : Nat} {p1 : Int32} {p2 : Int32} {p3 : Int32} {p4 : Int32} {p5 : Int32} {M : KM} {y : (Int32 × KM)} (h0 : kty a0 = 12) (hf : f_X12_pour n a0 p1 p2 p3 p4 p5 M = some y) : KC l ad cy D z yX12_pour cX12_pour 9 (some .boolean) 2 [.ref (ad a0), .int p1, .int p2, .int p3, .int p4, .int p5] M (some (.int y.1), y.2) := by
  refine kv_enter (by decide +kernel) (Nat.le_of_ble_eq_true rfl) ?_
  intro x hl hD hz G
  subst hl hD hz
  unfold f_X12_pour at hf
  have G : KG ad cy x cX12_pour "NoonGuidesModel" 9 (some (some .boolean)) 2 := G
  show KV ad cy x (some (.int y.1), y.2) 0 [(0, .ref (ad a0)), (1, .int p1), (2, .int p2), (3, .int p3), (4, .int p4), (5, .int p5)] [] M
  refine v_aload_n G dX12_pour_0 0 rfl ?_
  refine v_iconst (0 : Int32) G dX12_pour_1 (by decide) ?_
  refine pf_12_1 G h0 t_1492 (Or.inl rfl) dX12_pour_2 ?_
  refine v_nmM (fun M1 eM1 => ?_)
  replace hf := lt_e hf eM1
  refine v_aload_n G dX12_pour_5 0 rfl ?_
  refine v_iconst (0 : Int32) G dX12_pour_6 (by decide) ?_
  refine pf_12_0 G h0 t_1491 (Or.inl rfl) dX12_pour_7 ?_
  refine v_nmM (fun M2 eM2 => ?_)
  replace hf := lt_e hf eM2
  refine v_iload_n G dX12_pour_10 1 rfl ?_
  obtain ⟨j28, ej28, hf⟩ := lt_j hf
  have hj28 : j28 = some y → KV ad cy x (some (.int y.1), y.2) 28 [(0, .ref (ad a0))] [] M2 := by
    intro hf
    rw [ej28] at hf
    refine v_aload_n G dX12_pour_28 0 rfl ?_
    refine v_iconst (1 : Int32) G dX12_pour_29 (by decide) ?_
    obtain ⟨v3, hcv3⟩ : ∃ q, f_X12_no a0 (1 : Int32) M2 = q := ⟨_, rfl⟩
    replace hf := lt_e hf hcv3.symm
    refine v_callV [.int (1 : Int32)] G (c_X12_no h0 hcv3) h0 (by decide) rfl rfl rfl t_1649 t_1651 t_p55 t_17 t_1652 nm_X12_no (by decide) (by decide) rfl rfl (Nat.le_of_ble_eq_true rfl) dX12_pour_30 (kv_ri ?_)
    obtain rfl := Option.some.inj hf
    exact v_zret G (z_X12_no hcv3) dX12_pour_33
  refine v_if_lt 28 G dX12_pour_11 (by decide) (fun h34 => ?_) (fun h34 => ?_)
  · replace hf := (if_pos h34).symm.trans hf
    refine v_sub _ [0] rfl ?_
    exact hj28 hf
  · replace hf := (if_neg h34).symm.trans hf
    refine v_iload_n G dX12_pour_14 1 rfl ?_
    refine v_iconst (4 : Int32) G dX12_pour_15 (by decide) ?_
    refine v_icmp_ge 28 G dX12_pour_16 (by decide) (fun h33 => ?_) (fun h33 => ?_)
    · replace hf := (if_pos h33).symm.trans hf
      refine v_sub _ [0] rfl ?_
      exact hj28 hf
    · replace hf := (if_neg h33).symm.trans hf
      refine v_iload_n G dX12_pour_19 3 rfl ?_
      refine v_if_lt 28 G dX12_pour_20 (by decide) (fun h32 => ?_) (fun h32 => ?_)
      · replace hf := (if_pos h32).symm.trans hf
        refine v_sub _ [0] rfl ?_
        exact hj28 hf
      · replace hf := (if_neg h32).symm.trans hf
        refine v_iload_n G dX12_pour_23 3 rfl ?_
        refine v_iconst (4 : Int32) G dX12_pour_24 (by decide) ?_
        refine v_icmp_lt 34 G dX12_pour_25 (by decide) (fun h31 => ?_) (fun h31 => ?_)
        · replace hf := (if_pos h31).symm.trans hf
          refine v_aload_n G dX12_pour_34 0 rfl ?_
          refine gf_12_5 G h0 t_1496 (Or.inl rfl) dX12_pour_35 ?_
          refine v_iload_n G dX12_pour_38 1 rfl ?_
          obtain ⟨g4, hf⟩ := gd_e hf
          refine al_34 G (kf_12_2 h0) g4 dX12_pour_39 ?_
          obtain ⟨j52, ej52, hf⟩ := lt_j hf
          have hj52 : j52 = some y → KV ad cy x (some (.int y.1), y.2) 52 [(0, .ref (ad a0))] [] M2 := by
            intro hf
            rw [ej52] at hf
            refine v_aload_n G dX12_pour_52 0 rfl ?_
            refine v_iconst (3 : Int32) G dX12_pour_53 (by decide) ?_
            obtain ⟨v5, hcv5⟩ : ∃ q, f_X12_no a0 (3 : Int32) M2 = q := ⟨_, rfl⟩
            replace hf := lt_e hf hcv5.symm
            refine v_callV [.int (3 : Int32)] G (c_X12_no h0 hcv5) h0 (by decide) rfl rfl rfl t_1649 t_1651 t_p55 t_17 t_1652 nm_X12_no (by decide) (by decide) rfl rfl (Nat.le_of_ble_eq_true rfl) dX12_pour_54 (kv_ri ?_)
            obtain rfl := Option.some.inj hf
            exact v_zret G (z_X12_no hcv5) dX12_pour_57
          refine v_if_lt 52 G dX12_pour_40 (by decide) (fun h30 => ?_) (fun h30 => ?_)
          · replace hf := (if_pos h30).symm.trans hf
            refine v_sub _ [0] rfl ?_
            exact hj52 hf
          · replace hf := (if_neg h30).symm.trans hf
            refine v_aload_n G dX12_pour_43 0 rfl ?_
            refine gf_12_5 G h0 t_1496 (Or.inl rfl) dX12_pour_44 ?_
            refine v_iload_n G dX12_pour_47 3 rfl ?_
            obtain ⟨g6, hf⟩ := gd_e hf
            refine al_34 G (kf_12_2 h0) g6 dX12_pour_48 ?_
            refine v_if_ge 58 G dX12_pour_49 (by decide) (fun h29 => ?_) (fun h29 => ?_)
            · replace hf := (if_pos h29).symm.trans hf
              refine v_aload_n G dX12_pour_58 0 rfl ?_
              refine gf_12_4 G h0 t_1495 (Or.inl rfl) dX12_pour_59 ?_
              refine v_iload_n G dX12_pour_62 1 rfl ?_
              obtain ⟨g7, hf⟩ := gd_e hf
              refine al_34 G (kf_12_1 h0) g7 dX12_pour_63 ?_
              refine v_aload_n G dX12_pour_64 0 rfl ?_
              refine gf_12_4 G h0 t_1495 (Or.inl rfl) dX12_pour_65 ?_
              refine v_iload_n G dX12_pour_68 3 rfl ?_
              obtain ⟨g8, hf⟩ := gd_e hf
              refine al_34 G (kf_12_1 h0) g8 dX12_pour_69 ?_
              refine v_icmp_eq 80 G dX12_pour_70 (by decide) (fun h28 => ?_) (fun h28 => ?_)
              · replace hf := (if_pos h28).symm.trans hf
                refine v_iload G dX12_pour_80 5 rfl ?_
                refine v_if_ge 92 G dX12_pour_82 (by decide) (fun h26 => ?_) (fun h26 => ?_)
                · replace hf := (if_pos h26).symm.trans hf
                  refine v_iload_n G dX12_pour_92 2 rfl ?_
                  obtain ⟨j136, ej136, hf⟩ := lt_j hf
                  have hj136 : j136 = some y → KV ad cy x (some (.int y.1), y.2) 136 [(0, .ref (ad a0))] [] M2 := by
                    intro hf
                    rw [ej136] at hf
                    refine v_aload_n G dX12_pour_136 0 rfl ?_
                    refine v_iconst (4 : Int32) G dX12_pour_137 (by decide) ?_
                    obtain ⟨v9, hcv9⟩ : ∃ q, f_X12_no a0 (4 : Int32) M2 = q := ⟨_, rfl⟩
                    replace hf := lt_e hf hcv9.symm
                    refine v_callV [.int (4 : Int32)] G (c_X12_no h0 hcv9) h0 (by decide) rfl rfl rfl t_1649 t_1651 t_p55 t_17 t_1652 nm_X12_no (by decide) (by decide) rfl rfl (Nat.le_of_ble_eq_true rfl) dX12_pour_138 (kv_ri ?_)
                    obtain rfl := Option.some.inj hf
                    exact v_zret G (z_X12_no hcv9) dX12_pour_141
                  refine v_if_lt 136 G dX12_pour_93 (by decide) (fun h24 => ?_) (fun h24 => ?_)
                  · replace hf := (if_pos h24).symm.trans hf
                    refine v_sub _ [0] rfl ?_
                    exact hj136 hf
                  · replace hf := (if_neg h24).symm.trans hf
                    refine v_iload G dX12_pour_96 4 rfl ?_
                    refine v_if_lt 136 G dX12_pour_98 (by decide) (fun h23 => ?_) (fun h23 => ?_)
                    · replace hf := (if_pos h23).symm.trans hf
                      refine v_sub _ [0] rfl ?_
                      exact hj136 hf
                    · replace hf := (if_neg h23).symm.trans hf
                      refine v_iload_n G dX12_pour_101 2 rfl ?_
                      refine v_i2l G dX12_pour_102 ?_
                      refine v_iload G dX12_pour_103 5 rfl ?_
                      refine v_i2l G dX12_pour_105 ?_
                      refine v_ladd G dX12_pour_106 ?_
                      refine v_aload_n G dX12_pour_107 0 rfl ?_
                      refine gf_12_5 G h0 t_1496 (Or.inl rfl) dX12_pour_108 ?_
                      refine v_iload_n G dX12_pour_111 1 rfl ?_
                      obtain ⟨g10, hf⟩ := gd_e hf
                      refine al_34 G (kf_12_2 h0) g10 dX12_pour_112 ?_
                      refine v_i2l G dX12_pour_113 ?_
                      refine v_lcmp G dX12_pour_114 ?_
                      refine v_if_gt 136 G dX12_pour_115 (by decide) (fun h22 => ?_) (fun h22 => ?_)
                      · replace hf := (if_pos h22).symm.trans hf
                        refine v_sub _ [0] rfl ?_
                        exact hj136 hf
                      · replace hf := (if_neg h22).symm.trans hf
                        refine v_iload G dX12_pour_118 4 rfl ?_
                        refine v_i2l G dX12_pour_120 ?_
                        refine v_iload G dX12_pour_121 5 rfl ?_
                        refine v_i2l G dX12_pour_123 ?_
                        refine v_ladd G dX12_pour_124 ?_
                        refine v_aload_n G dX12_pour_125 0 rfl ?_
                        refine gf_12_5 G h0 t_1496 (Or.inl rfl) dX12_pour_126 ?_
                        refine v_iload_n G dX12_pour_129 3 rfl ?_
                        obtain ⟨g11, hf⟩ := gd_e hf
                        refine al_34 G (kf_12_2 h0) g11 dX12_pour_130 ?_
                        refine v_i2l G dX12_pour_131 ?_
                        refine v_lcmp G dX12_pour_132 ?_
                        refine v_if_le 142 G dX12_pour_133 (by decide) (fun h21 => ?_) (fun h21 => ?_)
                        · replace hf := (if_pos h21).symm.trans hf
                          refine v_iload_n G dX12_pour_142 2 rfl ?_
                          refine v_iload G dX12_pour_143 4 rfl ?_
                          obtain ⟨j153, ej153, hf⟩ := lt_j hf
                          have hj153 : ∀ (x12 : Int32), j153 x12 = some y → KV ad cy x (some (.int y.1), y.2) 153 [(0, .ref (ad a0)), (1, .int p1), (2, .int p2), (3, .int p3), (4, .int p4), (5, .int p5)] [.int x12] M2 := by
                            intro x12 hf
                            rw [ej153] at hf
                            refine v_istore [(6, .int x12), (0, .ref (ad a0)), (1, .int p1), (2, .int p2), (3, .int p3), (4, .int p4), (5, .int p5)] G dX12_pour_153 (by decide) rfl ?_
                            refine v_iconst (0 : Int32) G dX12_pour_155 (by decide) ?_
                            refine v_istore [(7, .int (0 : Int32)), (6, .int x12), (0, .ref (ad a0)), (1, .int p1), (2, .int p2), (3, .int p3), (4, .int p4), (5, .int p5)] G dX12_pour_156 (by decide) rfl ?_
                            refine v_sub _ [2, 3, 4, 5, 6, 7, 1, 0] rfl ?_
                            refine s_X12_pour_158 G h0 n (0 : Int32) M2 hf
                          refine v_icmp_ge 152 G dX12_pour_145 (by decide) (fun h20 => ?_) (fun h20 => ?_)
                          · replace hf := (if_pos h20).symm.trans hf
                            refine v_iconst (0 : Int32) G dX12_pour_152 (by decide) ?_
                            refine v_sub _ [0, 1, 2, 3, 4, 5] rfl ?_
                            exact hj153 (0 : Int32) hf
                          · replace hf := (if_neg h20).symm.trans hf
                            refine v_iconst (1 : Int32) G dX12_pour_148 (by decide) ?_
                            refine v_goto 153 G dX12_pour_149 (by decide) ?_
                            refine v_sub _ [0, 1, 2, 3, 4, 5] rfl ?_
                            exact hj153 (1 : Int32) hf
                        · replace hf := (if_neg h21).symm.trans hf
                          refine v_sub _ [0] rfl ?_
                          exact hj136 hf
                · replace hf := (if_neg h26).symm.trans hf
                  refine v_aload_n G dX12_pour_85 0 rfl ?_
                  refine v_bipush (6 : Int32) G dX12_pour_86 (by decide) ?_
                  obtain ⟨v25, hcv25⟩ : ∃ q, f_X12_no a0 (6 : Int32) M2 = q := ⟨_, rfl⟩
                  replace hf := lt_e hf hcv25.symm
                  refine v_callV [.int (6 : Int32)] G (c_X12_no h0 hcv25) h0 (by decide) rfl rfl rfl t_1649 t_1651 t_p55 t_17 t_1652 nm_X12_no (by decide) (by decide) rfl rfl (Nat.le_of_ble_eq_true rfl) dX12_pour_88 (kv_ri ?_)
                  obtain rfl := Option.some.inj hf
                  exact v_zret G (z_X12_no hcv25) dX12_pour_91
              · replace hf := (if_neg h28).symm.trans hf
                refine v_aload_n G dX12_pour_73 0 rfl ?_
                refine v_bipush (11 : Int32) G dX12_pour_74 (by decide) ?_
                obtain ⟨v27, hcv27⟩ : ∃ q, f_X12_no a0 (11 : Int32) M2 = q := ⟨_, rfl⟩
                replace hf := lt_e hf hcv27.symm
                refine v_callV [.int (11 : Int32)] G (c_X12_no h0 hcv27) h0 (by decide) rfl rfl rfl t_1649 t_1651 t_p55 t_17 t_1652 nm_X12_no (by decide) (by decide) rfl rfl (Nat.le_of_ble_eq_true rfl) dX12_pour_76 (kv_ri ?_)
                obtain rfl := Option.some.inj hf
                exact v_zret G (z_X12_no hcv27) dX12_pour_79
            · replace hf := (if_neg h29).symm.trans hf
              refine v_sub _ [0] rfl ?_
              exact hj52 hf
        · replace hf := (if_neg h31).symm.trans hf
          refine v_sub _ [0] rfl ?_
          exact hj28 hf
abbrev cX12_isTray : ByteArray := prog_14_method_17_code
def yX12_isTray : MethodName := ⟨RX12, "isTray", "(I)Z"⟩
theorem dX12_isTray_0 : dc cX12_isTray 0 (.iload_n 1) 1 1 := ⟨by decide +kernel, rfl⟩
theorem dX12_isTray_1 : dc cX12_isTray 1 (.i2l) 1 2 := ⟨by decide +kernel, rfl⟩
theorem dX12_isTray_2 : dc cX12_isTray 2 (.lconst 0) 1 3 := ⟨by decide +kernel, rfl⟩
theorem dX12_isTray_3 : dc cX12_isTray 3 (.ldc2_w 108) 3 6 := ⟨by decide +kernel, rfl⟩
theorem dX12_isTray_6 : dc cX12_isTray 6 (.invokestatic 110) 3 9 := ⟨by decide +kernel, rfl⟩
theorem dX12_isTray_9 : dc cX12_isTray 9 (.ireturn) 1 10 := ⟨by decide +kernel, rfl⟩
theorem nm_X12_isTray : (yX12_isTray).cls ≠ "java/lang/invoke/MethodHandle" ∧ (yX12_isTray).cls ≠ "java/lang/invoke/VarHandle" ∧ (parseMethodDescriptor (yX12_isTray).desc).map (fun d => d.parameters.length) = some 1 := ⟨by decide +kernel, by decide +kernel, by decide +kernel⟩
set_option maxRecDepth 100000 in
theorem z_X12_isTray {a0 : Nat} {p1 : Int32} {M : KM} {y : Int32} (hf : f_X12_isTray a0 p1 M = y) : (y = 0 ∨ y = 1) := by
  unfold f_X12_isTray at hf
  obtain ⟨v1, hcv1⟩ : ∃ q, f_X12_isIn (p1).toInt64 (0 : Int64) (3 : Int64) M = q := ⟨_, rfl⟩
  replace hf := lt_e hf hcv1.symm
  obtain rfl := hf
  exact (z_X12_isIn hcv1)
set_option maxRecDepth 100000 in
set_option maxHeartbeats 4000000 in
theorem c_X12_isTray {l : Launch} {ad : Nat → Nat} {cy : Nat → ClassId} {D : va_G} {z : Nat} {a0 : Nat} {p1 : Int32} {M : KM} {y : Int32} (h0 : kty a0 = 12) (hf : f_X12_isTray a0 p1 M = y) : KC l ad cy D z yX12_isTray cX12_isTray 2 (some .boolean) 2 [.ref (ad a0), .int p1] M (some (.int y), M) := by
  refine kv_enter (by decide +kernel) (Nat.le_of_ble_eq_true rfl) ?_
  intro x hl hD hz G
  subst hl hD hz
  unfold f_X12_isTray at hf
  have G : KG ad cy x cX12_isTray "NoonGuidesModel" 2 (some (some .boolean)) 2 := G
  show KV ad cy x (some (.int y), M) 0 [(0, .ref (ad a0)), (1, .int p1)] [] M
  refine v_iload_n G dX12_isTray_0 1 rfl ?_
  refine v_i2l G dX12_isTray_1 ?_
  refine v_lconst (0 : Int64) G dX12_isTray_2 (by decide) ?_
  refine v_ldc2 G dX12_isTray_3 t_1954 ?_
  obtain ⟨v1, hcv1⟩ : ∃ q, f_X12_isIn (p1).toInt64 (0 : Int64) (3 : Int64) M = q := ⟨_, rfl⟩
  replace hf := lt_e hf hcv1.symm
  refine v_callS [.long (p1).toInt64, .long (0 : Int64), .long (3 : Int64)] G (c_X12_isIn hcv1) t_1755 t_1756 t_17 t_1757 nm_X12_isIn (by decide) (by decide) rfl rfl (Nat.le_of_ble_eq_true rfl) dX12_isTray_6 (kv_ri ?_)
  obtain rfl := hf
  exact v_zret G (z_X12_isIn hcv1) dX12_isTray_9
abbrev cX12_has : ByteArray := prog_14_method_18_code
def yX12_has : MethodName := ⟨RX12, "has", "(II)Z"⟩
theorem dX12_has_0 : dc cX12_has 0 (.iload_n 0) 1 1 := ⟨by decide +kernel, rfl⟩
theorem dX12_has_1 : dc cX12_has 1 (.iload_n 1) 1 2 := ⟨by decide +kernel, rfl⟩
theorem dX12_has_2 : dc cX12_has 2 (.ishr) 1 3 := ⟨by decide +kernel, rfl⟩
theorem dX12_has_3 : dc cX12_has 3 (.iconst 1) 1 4 := ⟨by decide +kernel, rfl⟩
theorem dX12_has_4 : dc cX12_has 4 (.iand) 1 5 := ⟨by decide +kernel, rfl⟩
theorem dX12_has_5 : dc cX12_has 5 (.iconst 1) 1 6 := ⟨by decide +kernel, rfl⟩
theorem dX12_has_6 : dc cX12_has 6 (.if_icmp .ne 7) 3 9 := ⟨by decide +kernel, rfl⟩
theorem dX12_has_9 : dc cX12_has 9 (.iconst 1) 1 10 := ⟨by decide +kernel, rfl⟩
theorem dX12_has_10 : dc cX12_has 10 (.goto 4) 3 13 := ⟨by decide +kernel, rfl⟩
theorem dX12_has_13 : dc cX12_has 13 (.iconst 0) 1 14 := ⟨by decide +kernel, rfl⟩
theorem dX12_has_14 : dc cX12_has 14 (.ireturn) 1 15 := ⟨by decide +kernel, rfl⟩
theorem nm_X12_has : (yX12_has).cls ≠ "java/lang/invoke/MethodHandle" ∧ (yX12_has).cls ≠ "java/lang/invoke/VarHandle" ∧ (parseMethodDescriptor (yX12_has).desc).map (fun d => d.parameters.length) = some 2 := ⟨by decide +kernel, by decide +kernel, by decide +kernel⟩
set_option maxRecDepth 100000 in
theorem z_X12_has {p0 : Int32} {p1 : Int32} {M : KM} {y : Int32} (hf : f_X12_has p0 p1 M = y) : (y = 0 ∨ y = 1) := by
  unfold f_X12_has at hf
  by_cases h1 : ((p0 >>> (p1 &&& 31)) &&& (1 : Int32)) = (1 : Int32)
  · replace hf := (if_pos h1).symm.trans hf
    obtain rfl := hf
    exact (Or.inr rfl)
  · replace hf := (if_neg h1).symm.trans hf
    obtain rfl := hf
    exact (Or.inl rfl)
set_option maxRecDepth 100000 in
set_option maxHeartbeats 4000000 in
theorem c_X12_has {l : Launch} {ad : Nat → Nat} {cy : Nat → ClassId} {D : va_G} {z : Nat} {p0 : Int32} {p1 : Int32} {M : KM} {y : Int32} (hf : f_X12_has p0 p1 M = y) : KC l ad cy D z yX12_has cX12_has 2 (some .boolean) 1 [.int p0, .int p1] M (some (.int y), M) := by
  refine kv_enter (by decide +kernel) (Nat.le_of_ble_eq_true rfl) ?_
  intro x hl hD hz G
  subst hl hD hz
  unfold f_X12_has at hf
  have G : KG ad cy x cX12_has "NoonGuidesModel" 2 (some (some .boolean)) 1 := G
  show KV ad cy x (some (.int y), M) 0 [(0, .int p0), (1, .int p1)] [] M
  refine v_iload_n G dX12_has_0 0 rfl ?_
  refine v_iload_n G dX12_has_1 1 rfl ?_
  refine v_ishr G dX12_has_2 ?_
  refine v_iconst (1 : Int32) G dX12_has_3 (by decide) ?_
  refine v_iand G dX12_has_4 ?_
  refine v_iconst (1 : Int32) G dX12_has_5 (by decide) ?_
  refine v_icmp_ne 13 G dX12_has_6 (by decide) (fun h1 => ?_) (fun h1 => ?_)
  · replace hf := (if_neg h1).symm.trans hf
    refine v_iconst (0 : Int32) G dX12_has_13 (by decide) ?_
    obtain rfl := hf
    exact v_zret G (Or.inl rfl) dX12_has_14
  · replace hf := (if_pos h1).symm.trans hf
    refine v_iconst (1 : Int32) G dX12_has_9 (by decide) ?_
    refine v_goto 14 G dX12_has_10 (by decide) ?_
    obtain rfl := hf
    exact v_zret G (Or.inr rfl) dX12_has_14
abbrev cX12_sizeOf : ByteArray := prog_14_method_19_code
def yX12_sizeOf : MethodName := ⟨RX12, "sizeOf", "(I)I"⟩
theorem dX12_sizeOf_0 : dc cX12_sizeOf 0 (.iconst 0) 1 1 := ⟨by decide +kernel, rfl⟩
theorem dX12_sizeOf_1 : dc cX12_sizeOf 1 (.istore_n 1) 1 2 := ⟨by decide +kernel, rfl⟩
theorem dX12_sizeOf_2 : dc cX12_sizeOf 2 (.iconst 0) 1 3 := ⟨by decide +kernel, rfl⟩
theorem dX12_sizeOf_3 : dc cX12_sizeOf 3 (.istore_n 2) 1 4 := ⟨by decide +kernel, rfl⟩
theorem dX12_sizeOf_4 : dc cX12_sizeOf 4 (.iload_n 2) 1 5 := ⟨by decide +kernel, rfl⟩
theorem dX12_sizeOf_5 : dc cX12_sizeOf 5 (.bipush 12) 2 7 := ⟨by decide +kernel, rfl⟩
theorem dX12_sizeOf_7 : dc cX12_sizeOf 7 (.if_icmp .ge 25) 3 10 := ⟨by decide +kernel, rfl⟩
theorem dX12_sizeOf_10 : dc cX12_sizeOf 10 (.iload_n 1) 1 11 := ⟨by decide +kernel, rfl⟩
theorem dX12_sizeOf_11 : dc cX12_sizeOf 11 (.iload_n 0) 1 12 := ⟨by decide +kernel, rfl⟩
theorem dX12_sizeOf_12 : dc cX12_sizeOf 12 (.iload_n 2) 1 13 := ⟨by decide +kernel, rfl⟩
theorem dX12_sizeOf_13 : dc cX12_sizeOf 13 (.invokestatic 114) 3 16 := ⟨by decide +kernel, rfl⟩
theorem dX12_sizeOf_16 : dc cX12_sizeOf 16 (.ifCond .eq 7) 3 19 := ⟨by decide +kernel, rfl⟩
theorem dX12_sizeOf_19 : dc cX12_sizeOf 19 (.iconst 1) 1 20 := ⟨by decide +kernel, rfl⟩
theorem dX12_sizeOf_20 : dc cX12_sizeOf 20 (.goto 4) 3 23 := ⟨by decide +kernel, rfl⟩
theorem dX12_sizeOf_23 : dc cX12_sizeOf 23 (.iconst 0) 1 24 := ⟨by decide +kernel, rfl⟩
theorem dX12_sizeOf_24 : dc cX12_sizeOf 24 (.iadd) 1 25 := ⟨by decide +kernel, rfl⟩
theorem dX12_sizeOf_25 : dc cX12_sizeOf 25 (.istore_n 1) 1 26 := ⟨by decide +kernel, rfl⟩
theorem dX12_sizeOf_26 : dc cX12_sizeOf 26 (.iinc 2 1) 3 29 := ⟨by decide +kernel, rfl⟩
theorem dX12_sizeOf_29 : dc cX12_sizeOf 29 (.goto (-25)) 3 32 := ⟨by decide +kernel, rfl⟩
theorem dX12_sizeOf_32 : dc cX12_sizeOf 32 (.iload_n 1) 1 33 := ⟨by decide +kernel, rfl⟩
theorem dX12_sizeOf_33 : dc cX12_sizeOf 33 (.ireturn) 1 34 := ⟨by decide +kernel, rfl⟩
theorem nm_X12_sizeOf : (yX12_sizeOf).cls ≠ "java/lang/invoke/MethodHandle" ∧ (yX12_sizeOf).cls ≠ "java/lang/invoke/VarHandle" ∧ (parseMethodDescriptor (yX12_sizeOf).desc).map (fun d => d.parameters.length) = some 1 := ⟨by decide +kernel, by decide +kernel, by decide +kernel⟩
set_option maxRecDepth 100000 in
set_option maxHeartbeats 4000000 in
theorem s_X12_sizeOf_4 {ad : Nat → Nat} {cy : Nat → ClassId} {x : KX} (G : KG ad cy x cX12_sizeOf "NoonGuidesModel" 3 (some (some .int)) 2) {c0 : Int32} {M : KM} {y : Int32} : ∀ (n : Nat) (w1 : Int32) (w2 : Int32), lp_X12_sizeOf_4 n c0 M w1 w2 = some y → KV ad cy x (some (.int y), M) 4 [(0, .int c0), (1, .int w1), (2, .int w2)] [] M := by
  intro n
  induction n with
  | zero =>
    intro w1 w2 hf
    cases hf
  | succ n ih =>
    intro w1 w2 hf
    rw [lp_X12_sizeOf_4] at hf
    refine v_iload_n G dX12_sizeOf_4 2 rfl ?_
    refine v_bipush (12 : Int32) G dX12_sizeOf_5 (by decide) ?_
    refine v_icmp_ge 32 G dX12_sizeOf_7 (by decide) (fun h6 => ?_) (fun h6 => ?_)
    · replace hf := (if_pos h6).symm.trans hf
      refine v_iload_n G dX12_sizeOf_32 1 rfl ?_
      obtain rfl := Option.some.inj hf
      exact v_iret G dX12_sizeOf_33
    · replace hf := (if_neg h6).symm.trans hf
      refine v_iload_n G dX12_sizeOf_10 1 rfl ?_
      refine v_iload_n G dX12_sizeOf_11 0 rfl ?_
      refine v_iload_n G dX12_sizeOf_12 2 rfl ?_
      obtain ⟨v1, hcv1⟩ : ∃ q, f_X12_has c0 w2 M = q := ⟨_, rfl⟩
      replace hf := lt_e hf hcv1.symm
      refine v_callS [.int c0, .int w2] G (c_X12_has hcv1) t_1740 t_1741 t_17 t_1742 nm_X12_has (by decide) (by decide) rfl rfl (Nat.le_of_ble_eq_true rfl) dX12_sizeOf_13 (kv_ri ?_)
      obtain ⟨j24, ej24, hf⟩ := lt_j hf
      have hj24 : ∀ (x2 : Int32), j24 x2 = some y → KV ad cy x (some (.int y), M) 24 [(0, .int c0), (2, .int w2)] [.int x2, .int w1] M := by
        intro x2 hf
        rw [ej24] at hf
        refine v_iadd G dX12_sizeOf_24 ?_
        refine v_nmi (fun v3 ev3 => ?_)
        replace hf := lt_e hf ev3
        refine v_istore_n [(1, .int v3), (0, .int c0), (2, .int w2)] G dX12_sizeOf_25 (by decide) rfl ?_
        obtain ⟨v4, ev4⟩ : ∃ q : Int32, q = w2 + (1 : Int32) := ⟨_, rfl⟩
        replace hf := lt_e hf ev4
        refine v_iinc v4 [(2, .int v4), (1, .int v3), (0, .int c0)] G dX12_sizeOf_26 2 rfl (by rw [ev4]; rfl) (by decide) rfl ?_
        refine v_goto 4 G dX12_sizeOf_29 (by decide) ?_
        refine v_sub _ [2, 1, 0] rfl ?_
        exact ih v3 v4 hf
      refine v_if_eq 23 G dX12_sizeOf_16 (by decide) (fun h5 => ?_) (fun h5 => ?_)
      · replace hf := (if_pos h5).symm.trans hf
        refine v_iconst (0 : Int32) G dX12_sizeOf_23 (by decide) ?_
        refine v_sub _ [0, 2] rfl ?_
        exact hj24 (0 : Int32) hf
      · replace hf := (if_neg h5).symm.trans hf
        refine v_iconst (1 : Int32) G dX12_sizeOf_19 (by decide) ?_
        refine v_goto 24 G dX12_sizeOf_20 (by decide) ?_
        refine v_sub _ [0, 2] rfl ?_
        exact hj24 (1 : Int32) hf
set_option maxRecDepth 100000 in
set_option maxHeartbeats 4000000 in
theorem c_X12_sizeOf {l : Launch} {ad : Nat → Nat} {cy : Nat → ClassId} {D : va_G} {z : Nat} (n : Nat) {p0 : Int32} {M : KM} {y : Int32} (hf : f_X12_sizeOf n p0 M = some y) : KC l ad cy D z yX12_sizeOf cX12_sizeOf 3 (some .int) 2 [.int p0] M (some (.int y), M) := by
  refine kv_enter (by decide +kernel) (Nat.le_of_ble_eq_true rfl) ?_
  intro x hl hD hz G
  subst hl hD hz
  unfold f_X12_sizeOf at hf
  have G : KG ad cy x cX12_sizeOf "NoonGuidesModel" 3 (some (some .int)) 2 := G
  show KV ad cy x (some (.int y), M) 0 [(0, .int p0)] [] M
  refine v_iconst (0 : Int32) G dX12_sizeOf_0 (by decide) ?_
  refine v_istore_n [(1, .int (0 : Int32)), (0, .int p0)] G dX12_sizeOf_1 (by decide) rfl ?_
  refine v_iconst (0 : Int32) G dX12_sizeOf_2 (by decide) ?_
  refine v_istore_n [(2, .int (0 : Int32)), (1, .int (0 : Int32)), (0, .int p0)] G dX12_sizeOf_3 (by decide) rfl ?_
  refine v_sub _ [2, 1, 0] rfl ?_
  refine s_X12_sizeOf_4 G n (0 : Int32) (0 : Int32) hf
abbrev cX12_look2 : ByteArray := prog_14_method_20_code
def yX12_look2 : MethodName := ⟨RX12, "look2", "(I)I"⟩
theorem dX12_look2_0 : dc cX12_look2 0 (.iload_n 1) 1 1 := ⟨by decide +kernel, rfl⟩
theorem dX12_look2_1 : dc cX12_look2 1 (.aload_n 0) 1 2 := ⟨by decide +kernel, rfl⟩
theorem dX12_look2_2 : dc cX12_look2 2 (.getfield 118) 3 5 := ⟨by decide +kernel, rfl⟩
theorem dX12_look2_5 : dc cX12_look2 5 (.if_icmp .ge 16) 3 8 := ⟨by decide +kernel, rfl⟩
theorem dX12_look2_8 : dc cX12_look2 8 (.aload_n 0) 1 9 := ⟨by decide +kernel, rfl⟩
theorem dX12_look2_9 : dc cX12_look2 9 (.getfield 24) 3 12 := ⟨by decide +kernel, rfl⟩
theorem dX12_look2_12 : dc cX12_look2 12 (.iload_n 1) 1 13 := ⟨by decide +kernel, rfl⟩
theorem dX12_look2_13 : dc cX12_look2 13 (.baload) 1 14 := ⟨by decide +kernel, rfl⟩
theorem dX12_look2_14 : dc cX12_look2 14 (.sipush 255) 3 17 := ⟨by decide +kernel, rfl⟩
theorem dX12_look2_17 : dc cX12_look2 17 (.iand) 1 18 := ⟨by decide +kernel, rfl⟩
theorem dX12_look2_18 : dc cX12_look2 18 (.goto 4) 3 21 := ⟨by decide +kernel, rfl⟩
theorem dX12_look2_21 : dc cX12_look2 21 (.iconst 0) 1 22 := ⟨by decide +kernel, rfl⟩
theorem dX12_look2_22 : dc cX12_look2 22 (.ireturn) 1 23 := ⟨by decide +kernel, rfl⟩
theorem nm_X12_look2 : (yX12_look2).cls ≠ "java/lang/invoke/MethodHandle" ∧ (yX12_look2).cls ≠ "java/lang/invoke/VarHandle" ∧ (parseMethodDescriptor (yX12_look2).desc).map (fun d => d.parameters.length) = some 1 := ⟨by decide +kernel, by decide +kernel, by decide +kernel⟩
set_option maxRecDepth 100000 in
set_option maxHeartbeats 4000000 in
theorem c_X12_look2 {l : Launch} {ad : Nat → Nat} {cy : Nat → ClassId} {D : va_G} {z : Nat} (n : Nat) {a0 : Nat} {p1 : Int32} {M : KM} {y : Int32} (h0 : kty a0 = 12) (hf : f_X12_look2 n a0 p1 M = some y) : KC l ad cy D z yX12_look2 cX12_look2 2 (some .int) 1 [.ref (ad a0), .int p1] M (some (.int y), M) := by
  refine kv_enter (by decide +kernel) (Nat.le_of_ble_eq_true rfl) ?_
  intro x hl hD hz G
  subst hl hD hz
  unfold f_X12_look2 at hf
  have G : KG ad cy x cX12_look2 "NoonGuidesModel" 2 (some (some .int)) 1 := G
  show KV ad cy x (some (.int y), M) 0 [(0, .ref (ad a0)), (1, .int p1)] [] M
  refine v_iload_n G dX12_look2_0 1 rfl ?_
  refine v_aload_n G dX12_look2_1 0 rfl ?_
  refine gf_12_9 G h0 t_1500 (Or.inl rfl) dX12_look2_2 ?_
  refine v_icmp_ge 21 G dX12_look2_5 (by decide) (fun h2 => ?_) (fun h2 => ?_)
  · replace hf := (if_pos h2).symm.trans hf
    refine v_iconst (0 : Int32) G dX12_look2_21 (by decide) ?_
    obtain rfl := Option.some.inj hf
    exact v_iret G dX12_look2_22
  · replace hf := (if_neg h2).symm.trans hf
    refine v_aload_n G dX12_look2_8 0 rfl ?_
    refine gf_12_7 G h0 t_1498 (Or.inl rfl) dX12_look2_9 ?_
    refine v_iload_n G dX12_look2_12 1 rfl ?_
    obtain ⟨g1, hf⟩ := gd_e hf
    refine al_21 G (kf_12_4 h0) g1 dX12_look2_13 ?_
    refine v_sipush (255 : Int32) G dX12_look2_14 (by decide) ?_
    refine v_iand G dX12_look2_17 ?_
    refine v_goto 22 G dX12_look2_18 (by decide) ?_
    obtain rfl := Option.some.inj hf
    exact v_iret G dX12_look2_22
abbrev cX12_isLetter : ByteArray := prog_14_method_21_code
def yX12_isLetter : MethodName := ⟨RX12, "isLetter", "(I)Z"⟩
theorem dX12_isLetter_0 : dc cX12_isLetter 0 (.iload_n 0) 1 1 := ⟨by decide +kernel, rfl⟩
theorem dX12_isLetter_1 : dc cX12_isLetter 1 (.bipush 97) 2 3 := ⟨by decide +kernel, rfl⟩
theorem dX12_isLetter_3 : dc cX12_isLetter 3 (.if_icmp .lt 13) 3 6 := ⟨by decide +kernel, rfl⟩
theorem dX12_isLetter_6 : dc cX12_isLetter 6 (.iload_n 0) 1 7 := ⟨by decide +kernel, rfl⟩
theorem dX12_isLetter_7 : dc cX12_isLetter 7 (.bipush 122) 2 9 := ⟨by decide +kernel, rfl⟩
theorem dX12_isLetter_9 : dc cX12_isLetter 9 (.if_icmp .gt 7) 3 12 := ⟨by decide +kernel, rfl⟩
theorem dX12_isLetter_12 : dc cX12_isLetter 12 (.iconst 1) 1 13 := ⟨by decide +kernel, rfl⟩
theorem dX12_isLetter_13 : dc cX12_isLetter 13 (.goto 4) 3 16 := ⟨by decide +kernel, rfl⟩
theorem dX12_isLetter_16 : dc cX12_isLetter 16 (.iconst 0) 1 17 := ⟨by decide +kernel, rfl⟩
theorem dX12_isLetter_17 : dc cX12_isLetter 17 (.ireturn) 1 18 := ⟨by decide +kernel, rfl⟩
theorem nm_X12_isLetter : (yX12_isLetter).cls ≠ "java/lang/invoke/MethodHandle" ∧ (yX12_isLetter).cls ≠ "java/lang/invoke/VarHandle" ∧ (parseMethodDescriptor (yX12_isLetter).desc).map (fun d => d.parameters.length) = some 1 := ⟨by decide +kernel, by decide +kernel, by decide +kernel⟩
set_option maxRecDepth 100000 in
theorem z_X12_isLetter {p0 : Int32} {M : KM} {y : Int32} (hf : f_X12_isLetter p0 M = y) : (y = 0 ∨ y = 1) := by
  unfold f_X12_isLetter at hf
  by_cases h2 : p0 < (97 : Int32)
  · replace hf := (if_pos h2).symm.trans hf
    obtain rfl := hf
    exact (Or.inl rfl)
  · replace hf := (if_neg h2).symm.trans hf
    by_cases h1 : (122 : Int32) < p0
    · replace hf := (if_pos h1).symm.trans hf
      obtain rfl := hf
      exact (Or.inl rfl)
    · replace hf := (if_neg h1).symm.trans hf
      obtain rfl := hf
      exact (Or.inr rfl)
set_option maxRecDepth 100000 in
set_option maxHeartbeats 4000000 in
theorem c_X12_isLetter {l : Launch} {ad : Nat → Nat} {cy : Nat → ClassId} {D : va_G} {z : Nat} {p0 : Int32} {M : KM} {y : Int32} (hf : f_X12_isLetter p0 M = y) : KC l ad cy D z yX12_isLetter cX12_isLetter 1 (some .boolean) 1 [.int p0] M (some (.int y), M) := by
  refine kv_enter (by decide +kernel) (Nat.le_of_ble_eq_true rfl) ?_
  intro x hl hD hz G
  subst hl hD hz
  unfold f_X12_isLetter at hf
  have G : KG ad cy x cX12_isLetter "NoonGuidesModel" 1 (some (some .boolean)) 1 := G
  show KV ad cy x (some (.int y), M) 0 [(0, .int p0)] [] M
  refine v_iload_n G dX12_isLetter_0 0 rfl ?_
  refine v_bipush (97 : Int32) G dX12_isLetter_1 (by decide) ?_
  refine v_icmp_lt 16 G dX12_isLetter_3 (by decide) (fun h2 => ?_) (fun h2 => ?_)
  · replace hf := (if_pos h2).symm.trans hf
    refine v_iconst (0 : Int32) G dX12_isLetter_16 (by decide) ?_
    obtain rfl := hf
    exact v_zret G (Or.inl rfl) dX12_isLetter_17
  · replace hf := (if_neg h2).symm.trans hf
    refine v_iload_n G dX12_isLetter_6 0 rfl ?_
    refine v_bipush (122 : Int32) G dX12_isLetter_7 (by decide) ?_
    refine v_icmp_gt 16 G dX12_isLetter_9 (by decide) (fun h1 => ?_) (fun h1 => ?_)
    · replace hf := (if_pos h1).symm.trans hf
      refine v_iconst (0 : Int32) G dX12_isLetter_16 (by decide) ?_
      obtain rfl := hf
      exact v_zret G (Or.inl rfl) dX12_isLetter_17
    · replace hf := (if_neg h1).symm.trans hf
      refine v_iconst (1 : Int32) G dX12_isLetter_12 (by decide) ?_
      refine v_goto 17 G dX12_isLetter_13 (by decide) ?_
      obtain rfl := hf
      exact v_zret G (Or.inr rfl) dX12_isLetter_17
abbrev cX12_isDigit : ByteArray := prog_14_method_22_code
def yX12_isDigit : MethodName := ⟨RX12, "isDigit", "(I)Z"⟩
theorem dX12_isDigit_0 : dc cX12_isDigit 0 (.iload_n 0) 1 1 := ⟨by decide +kernel, rfl⟩
theorem dX12_isDigit_1 : dc cX12_isDigit 1 (.bipush 48) 2 3 := ⟨by decide +kernel, rfl⟩
theorem dX12_isDigit_3 : dc cX12_isDigit 3 (.if_icmp .lt 13) 3 6 := ⟨by decide +kernel, rfl⟩
theorem dX12_isDigit_6 : dc cX12_isDigit 6 (.iload_n 0) 1 7 := ⟨by decide +kernel, rfl⟩
theorem dX12_isDigit_7 : dc cX12_isDigit 7 (.bipush 57) 2 9 := ⟨by decide +kernel, rfl⟩
theorem dX12_isDigit_9 : dc cX12_isDigit 9 (.if_icmp .gt 7) 3 12 := ⟨by decide +kernel, rfl⟩
theorem dX12_isDigit_12 : dc cX12_isDigit 12 (.iconst 1) 1 13 := ⟨by decide +kernel, rfl⟩
theorem dX12_isDigit_13 : dc cX12_isDigit 13 (.goto 4) 3 16 := ⟨by decide +kernel, rfl⟩
theorem dX12_isDigit_16 : dc cX12_isDigit 16 (.iconst 0) 1 17 := ⟨by decide +kernel, rfl⟩
theorem dX12_isDigit_17 : dc cX12_isDigit 17 (.ireturn) 1 18 := ⟨by decide +kernel, rfl⟩
theorem nm_X12_isDigit : (yX12_isDigit).cls ≠ "java/lang/invoke/MethodHandle" ∧ (yX12_isDigit).cls ≠ "java/lang/invoke/VarHandle" ∧ (parseMethodDescriptor (yX12_isDigit).desc).map (fun d => d.parameters.length) = some 1 := ⟨by decide +kernel, by decide +kernel, by decide +kernel⟩
set_option maxRecDepth 100000 in
theorem z_X12_isDigit {p0 : Int32} {M : KM} {y : Int32} (hf : f_X12_isDigit p0 M = y) : (y = 0 ∨ y = 1) := by
  unfold f_X12_isDigit at hf
  by_cases h2 : p0 < (48 : Int32)
  · replace hf := (if_pos h2).symm.trans hf
    obtain rfl := hf
    exact (Or.inl rfl)
  · replace hf := (if_neg h2).symm.trans hf
    by_cases h1 : (57 : Int32) < p0
    · replace hf := (if_pos h1).symm.trans hf
      obtain rfl := hf
      exact (Or.inl rfl)
    · replace hf := (if_neg h1).symm.trans hf
      obtain rfl := hf
      exact (Or.inr rfl)
set_option maxRecDepth 100000 in
set_option maxHeartbeats 4000000 in
theorem c_X12_isDigit {l : Launch} {ad : Nat → Nat} {cy : Nat → ClassId} {D : va_G} {z : Nat} {p0 : Int32} {M : KM} {y : Int32} (hf : f_X12_isDigit p0 M = y) : KC l ad cy D z yX12_isDigit cX12_isDigit 1 (some .boolean) 1 [.int p0] M (some (.int y), M) := by
  refine kv_enter (by decide +kernel) (Nat.le_of_ble_eq_true rfl) ?_
  intro x hl hD hz G
  subst hl hD hz
  unfold f_X12_isDigit at hf
  have G : KG ad cy x cX12_isDigit "NoonGuidesModel" 1 (some (some .boolean)) 1 := G
  show KV ad cy x (some (.int y), M) 0 [(0, .int p0)] [] M
  refine v_iload_n G dX12_isDigit_0 0 rfl ?_
  refine v_bipush (48 : Int32) G dX12_isDigit_1 (by decide) ?_
  refine v_icmp_lt 16 G dX12_isDigit_3 (by decide) (fun h2 => ?_) (fun h2 => ?_)
  · replace hf := (if_pos h2).symm.trans hf
    refine v_iconst (0 : Int32) G dX12_isDigit_16 (by decide) ?_
    obtain rfl := hf
    exact v_zret G (Or.inl rfl) dX12_isDigit_17
  · replace hf := (if_neg h2).symm.trans hf
    refine v_iload_n G dX12_isDigit_6 0 rfl ?_
    refine v_bipush (57 : Int32) G dX12_isDigit_7 (by decide) ?_
    refine v_icmp_gt 16 G dX12_isDigit_9 (by decide) (fun h1 => ?_) (fun h1 => ?_)
    · replace hf := (if_pos h1).symm.trans hf
      refine v_iconst (0 : Int32) G dX12_isDigit_16 (by decide) ?_
      obtain rfl := hf
      exact v_zret G (Or.inl rfl) dX12_isDigit_17
    · replace hf := (if_neg h1).symm.trans hf
      refine v_iconst (1 : Int32) G dX12_isDigit_12 (by decide) ?_
      refine v_goto 17 G dX12_isDigit_13 (by decide) ?_
      obtain rfl := hf
      exact v_zret G (Or.inr rfl) dX12_isDigit_17
abbrev cX12_isSignByte : ByteArray := prog_14_method_23_code
def yX12_isSignByte : MethodName := ⟨RX12, "isSignByte", "(I)Z"⟩
theorem dX12_isSignByte_0 : dc cX12_isSignByte 0 (.iload_n 1) 1 1 := ⟨by decide +kernel, rfl⟩
theorem dX12_isSignByte_1 : dc cX12_isSignByte 1 (.bipush 59) 2 3 := ⟨by decide +kernel, rfl⟩
theorem dX12_isSignByte_3 : dc cX12_isSignByte 3 (.if_icmp .eq 21) 3 6 := ⟨by decide +kernel, rfl⟩
theorem dX12_isSignByte_6 : dc cX12_isSignByte 6 (.iload_n 1) 1 7 := ⟨by decide +kernel, rfl⟩
theorem dX12_isSignByte_7 : dc cX12_isSignByte 7 (.bipush 60) 2 9 := ⟨by decide +kernel, rfl⟩
theorem dX12_isSignByte_9 : dc cX12_isSignByte 9 (.if_icmp .eq 15) 3 12 := ⟨by decide +kernel, rfl⟩
theorem dX12_isSignByte_12 : dc cX12_isSignByte 12 (.iload_n 1) 1 13 := ⟨by decide +kernel, rfl⟩
theorem dX12_isSignByte_13 : dc cX12_isSignByte 13 (.bipush 62) 2 15 := ⟨by decide +kernel, rfl⟩
theorem dX12_isSignByte_15 : dc cX12_isSignByte 15 (.if_icmp .eq 9) 3 18 := ⟨by decide +kernel, rfl⟩
theorem dX12_isSignByte_18 : dc cX12_isSignByte 18 (.iload_n 1) 1 19 := ⟨by decide +kernel, rfl⟩
theorem dX12_isSignByte_19 : dc cX12_isSignByte 19 (.bipush 61) 2 21 := ⟨by decide +kernel, rfl⟩
theorem dX12_isSignByte_21 : dc cX12_isSignByte 21 (.if_icmp .ne 7) 3 24 := ⟨by decide +kernel, rfl⟩
theorem dX12_isSignByte_24 : dc cX12_isSignByte 24 (.iconst 1) 1 25 := ⟨by decide +kernel, rfl⟩
theorem dX12_isSignByte_25 : dc cX12_isSignByte 25 (.goto 4) 3 28 := ⟨by decide +kernel, rfl⟩
theorem dX12_isSignByte_28 : dc cX12_isSignByte 28 (.iconst 0) 1 29 := ⟨by decide +kernel, rfl⟩
theorem dX12_isSignByte_29 : dc cX12_isSignByte 29 (.ireturn) 1 30 := ⟨by decide +kernel, rfl⟩
theorem nm_X12_isSignByte : (yX12_isSignByte).cls ≠ "java/lang/invoke/MethodHandle" ∧ (yX12_isSignByte).cls ≠ "java/lang/invoke/VarHandle" ∧ (parseMethodDescriptor (yX12_isSignByte).desc).map (fun d => d.parameters.length) = some 1 := ⟨by decide +kernel, by decide +kernel, by decide +kernel⟩
set_option maxRecDepth 100000 in
theorem z_X12_isSignByte {a0 : Nat} {p1 : Int32} {M : KM} {y : Int32} (hf : f_X12_isSignByte a0 p1 M = y) : (y = 0 ∨ y = 1) := by
  unfold f_X12_isSignByte at hf
  obtain ⟨j24, ej24, hf⟩ := lt_j hf
  have hj24 : j24 = y → (y = 0 ∨ y = 1) := by
    intro hf
    rw [ej24] at hf
    obtain rfl := hf
    exact (Or.inr rfl)
  by_cases h4 : p1 = (59 : Int32)
  · replace hf := (if_pos h4).symm.trans hf
    exact hj24 hf
  · replace hf := (if_neg h4).symm.trans hf
    by_cases h3 : p1 = (60 : Int32)
    · replace hf := (if_pos h3).symm.trans hf
      exact hj24 hf
    · replace hf := (if_neg h3).symm.trans hf
      by_cases h2 : p1 = (62 : Int32)
      · replace hf := (if_pos h2).symm.trans hf
        exact hj24 hf
      · replace hf := (if_neg h2).symm.trans hf
        by_cases h1 : p1 = (61 : Int32)
        · replace hf := (if_pos h1).symm.trans hf
          exact hj24 hf
        · replace hf := (if_neg h1).symm.trans hf
          obtain rfl := hf
          exact (Or.inl rfl)
set_option maxRecDepth 100000 in
set_option maxHeartbeats 4000000 in
theorem c_X12_isSignByte {l : Launch} {ad : Nat → Nat} {cy : Nat → ClassId} {D : va_G} {z : Nat} {a0 : Nat} {p1 : Int32} {M : KM} {y : Int32} (h0 : kty a0 = 12) (hf : f_X12_isSignByte a0 p1 M = y) : KC l ad cy D z yX12_isSignByte cX12_isSignByte 2 (some .boolean) 1 [.ref (ad a0), .int p1] M (some (.int y), M) := by
  refine kv_enter (by decide +kernel) (Nat.le_of_ble_eq_true rfl) ?_
  intro x hl hD hz G
  subst hl hD hz
  unfold f_X12_isSignByte at hf
  have G : KG ad cy x cX12_isSignByte "NoonGuidesModel" 2 (some (some .boolean)) 1 := G
  show KV ad cy x (some (.int y), M) 0 [(0, .ref (ad a0)), (1, .int p1)] [] M
  refine v_iload_n G dX12_isSignByte_0 1 rfl ?_
  refine v_bipush (59 : Int32) G dX12_isSignByte_1 (by decide) ?_
  obtain ⟨j24, ej24, hf⟩ := lt_j hf
  have hj24 : j24 = y → KV ad cy x (some (.int y), M) 24 [] [] M := by
    intro hf
    rw [ej24] at hf
    refine v_iconst (1 : Int32) G dX12_isSignByte_24 (by decide) ?_
    refine v_goto 29 G dX12_isSignByte_25 (by decide) ?_
    obtain rfl := hf
    exact v_zret G (Or.inr rfl) dX12_isSignByte_29
  refine v_icmp_eq 24 G dX12_isSignByte_3 (by decide) (fun h4 => ?_) (fun h4 => ?_)
  · replace hf := (if_pos h4).symm.trans hf
    refine v_sub _ [] rfl ?_
    exact hj24 hf
  · replace hf := (if_neg h4).symm.trans hf
    refine v_iload_n G dX12_isSignByte_6 1 rfl ?_
    refine v_bipush (60 : Int32) G dX12_isSignByte_7 (by decide) ?_
    refine v_icmp_eq 24 G dX12_isSignByte_9 (by decide) (fun h3 => ?_) (fun h3 => ?_)
    · replace hf := (if_pos h3).symm.trans hf
      refine v_sub _ [] rfl ?_
      exact hj24 hf
    · replace hf := (if_neg h3).symm.trans hf
      refine v_iload_n G dX12_isSignByte_12 1 rfl ?_
      refine v_bipush (62 : Int32) G dX12_isSignByte_13 (by decide) ?_
      refine v_icmp_eq 24 G dX12_isSignByte_15 (by decide) (fun h2 => ?_) (fun h2 => ?_)
      · replace hf := (if_pos h2).symm.trans hf
        refine v_sub _ [] rfl ?_
        exact hj24 hf
      · replace hf := (if_neg h2).symm.trans hf
        refine v_iload_n G dX12_isSignByte_18 1 rfl ?_
        refine v_bipush (61 : Int32) G dX12_isSignByte_19 (by decide) ?_
        refine v_icmp_ne 28 G dX12_isSignByte_21 (by decide) (fun h1 => ?_) (fun h1 => ?_)
        · replace hf := (if_neg h1).symm.trans hf
          refine v_iconst (0 : Int32) G dX12_isSignByte_28 (by decide) ?_
          obtain rfl := hf
          exact v_zret G (Or.inl rfl) dX12_isSignByte_29
        · replace hf := (if_pos h1).symm.trans hf
          refine v_sub _ [] rfl ?_
          exact hj24 hf
abbrev cX12_advance : ByteArray := prog_14_method_24_code
def yX12_advance : MethodName := ⟨RX12, "advance", "()V"⟩
theorem dX12_advance_0 : dc cX12_advance 0 (.aload_n 0) 1 1 := ⟨by decide +kernel, rfl⟩
theorem dX12_advance_1 : dc cX12_advance 1 (.aload_n 0) 1 2 := ⟨by decide +kernel, rfl⟩
theorem dX12_advance_2 : dc cX12_advance 2 (.getfield 121) 3 5 := ⟨by decide +kernel, rfl⟩
theorem dX12_advance_5 : dc cX12_advance 5 (.putfield 124) 3 8 := ⟨by decide +kernel, rfl⟩
theorem dX12_advance_8 : dc cX12_advance 8 (.aload_n 0) 1 9 := ⟨by decide +kernel, rfl⟩
theorem dX12_advance_9 : dc cX12_advance 9 (.getfield 124) 3 12 := ⟨by decide +kernel, rfl⟩
theorem dX12_advance_12 : dc cX12_advance 12 (.aload_n 0) 1 13 := ⟨by decide +kernel, rfl⟩
theorem dX12_advance_13 : dc cX12_advance 13 (.getfield 118) 3 16 := ⟨by decide +kernel, rfl⟩
theorem dX12_advance_16 : dc cX12_advance 16 (.if_icmp .ge 42) 3 19 := ⟨by decide +kernel, rfl⟩
theorem dX12_advance_19 : dc cX12_advance 19 (.aload_n 0) 1 20 := ⟨by decide +kernel, rfl⟩
theorem dX12_advance_20 : dc cX12_advance 20 (.aload_n 0) 1 21 := ⟨by decide +kernel, rfl⟩
theorem dX12_advance_21 : dc cX12_advance 21 (.getfield 124) 3 24 := ⟨by decide +kernel, rfl⟩
theorem dX12_advance_24 : dc cX12_advance 24 (.invokevirtual 127) 3 27 := ⟨by decide +kernel, rfl⟩
theorem dX12_advance_27 : dc cX12_advance 27 (.bipush 10) 2 29 := ⟨by decide +kernel, rfl⟩
theorem dX12_advance_29 : dc cX12_advance 29 (.if_icmp .eq 16) 3 32 := ⟨by decide +kernel, rfl⟩
theorem dX12_advance_32 : dc cX12_advance 32 (.aload_n 0) 1 33 := ⟨by decide +kernel, rfl⟩
theorem dX12_advance_33 : dc cX12_advance 33 (.aload_n 0) 1 34 := ⟨by decide +kernel, rfl⟩
theorem dX12_advance_34 : dc cX12_advance 34 (.getfield 124) 3 37 := ⟨by decide +kernel, rfl⟩
theorem dX12_advance_37 : dc cX12_advance 37 (.invokevirtual 127) 3 40 := ⟨by decide +kernel, rfl⟩
theorem dX12_advance_40 : dc cX12_advance 40 (.bipush 32) 2 42 := ⟨by decide +kernel, rfl⟩
theorem dX12_advance_42 : dc cX12_advance 42 (.if_icmp .ne 16) 3 45 := ⟨by decide +kernel, rfl⟩
theorem dX12_advance_45 : dc cX12_advance 45 (.aload_n 0) 1 46 := ⟨by decide +kernel, rfl⟩
theorem dX12_advance_46 : dc cX12_advance 46 (.dup) 1 47 := ⟨by decide +kernel, rfl⟩
theorem dX12_advance_47 : dc cX12_advance 47 (.getfield 124) 3 50 := ⟨by decide +kernel, rfl⟩
theorem dX12_advance_50 : dc cX12_advance 50 (.iconst 1) 1 51 := ⟨by decide +kernel, rfl⟩
theorem dX12_advance_51 : dc cX12_advance 51 (.iadd) 1 52 := ⟨by decide +kernel, rfl⟩
theorem dX12_advance_52 : dc cX12_advance 52 (.putfield 124) 3 55 := ⟨by decide +kernel, rfl⟩
theorem dX12_advance_55 : dc cX12_advance 55 (.goto (-47)) 3 58 := ⟨by decide +kernel, rfl⟩
theorem dX12_advance_58 : dc cX12_advance 58 (.aload_n 0) 1 59 := ⟨by decide +kernel, rfl⟩
theorem dX12_advance_59 : dc cX12_advance 59 (.aload_n 0) 1 60 := ⟨by decide +kernel, rfl⟩
theorem dX12_advance_60 : dc cX12_advance 60 (.getfield 124) 3 63 := ⟨by decide +kernel, rfl⟩
theorem dX12_advance_63 : dc cX12_advance 63 (.putfield 121) 3 66 := ⟨by decide +kernel, rfl⟩
theorem dX12_advance_66 : dc cX12_advance 66 (.aload_n 0) 1 67 := ⟨by decide +kernel, rfl⟩
theorem dX12_advance_67 : dc cX12_advance 67 (.getfield 124) 3 70 := ⟨by decide +kernel, rfl⟩
theorem dX12_advance_70 : dc cX12_advance 70 (.aload_n 0) 1 71 := ⟨by decide +kernel, rfl⟩
theorem dX12_advance_71 : dc cX12_advance 71 (.getfield 118) 3 74 := ⟨by decide +kernel, rfl⟩
theorem dX12_advance_74 : dc cX12_advance 74 (.if_icmp .lt 9) 3 77 := ⟨by decide +kernel, rfl⟩
theorem dX12_advance_77 : dc cX12_advance 77 (.aload_n 0) 1 78 := ⟨by decide +kernel, rfl⟩
theorem dX12_advance_78 : dc cX12_advance 78 (.iconst 0) 1 79 := ⟨by decide +kernel, rfl⟩
theorem dX12_advance_79 : dc cX12_advance 79 (.putfield 130) 3 82 := ⟨by decide +kernel, rfl⟩
theorem dX12_advance_82 : dc cX12_advance 82 (.return_) 1 83 := ⟨by decide +kernel, rfl⟩
theorem dX12_advance_83 : dc cX12_advance 83 (.aload_n 0) 1 84 := ⟨by decide +kernel, rfl⟩
theorem dX12_advance_84 : dc cX12_advance 84 (.aload_n 0) 1 85 := ⟨by decide +kernel, rfl⟩
theorem dX12_advance_85 : dc cX12_advance 85 (.getfield 124) 3 88 := ⟨by decide +kernel, rfl⟩
theorem dX12_advance_88 : dc cX12_advance 88 (.invokevirtual 127) 3 91 := ⟨by decide +kernel, rfl⟩
theorem dX12_advance_91 : dc cX12_advance 91 (.istore_n 1) 1 92 := ⟨by decide +kernel, rfl⟩
theorem dX12_advance_92 : dc cX12_advance 92 (.iload_n 1) 1 93 := ⟨by decide +kernel, rfl⟩
theorem dX12_advance_93 : dc cX12_advance 93 (.invokestatic 133) 3 96 := ⟨by decide +kernel, rfl⟩
theorem dX12_advance_96 : dc cX12_advance 96 (.ifCond .eq 102) 3 99 := ⟨by decide +kernel, rfl⟩
theorem dX12_advance_99 : dc cX12_advance 99 (.aload_n 0) 1 100 := ⟨by decide +kernel, rfl⟩
theorem dX12_advance_100 : dc cX12_advance 100 (.iconst 1) 1 101 := ⟨by decide +kernel, rfl⟩
theorem dX12_advance_101 : dc cX12_advance 101 (.putfield 130) 3 104 := ⟨by decide +kernel, rfl⟩
theorem dX12_advance_104 : dc cX12_advance 104 (.aload_n 0) 1 105 := ⟨by decide +kernel, rfl⟩
theorem dX12_advance_105 : dc cX12_advance 105 (.lconst 0) 1 106 := ⟨by decide +kernel, rfl⟩
theorem dX12_advance_106 : dc cX12_advance 106 (.putfield 136) 3 109 := ⟨by decide +kernel, rfl⟩
theorem dX12_advance_109 : dc cX12_advance 109 (.aload_n 0) 1 110 := ⟨by decide +kernel, rfl⟩
theorem dX12_advance_110 : dc cX12_advance 110 (.aload_n 0) 1 111 := ⟨by decide +kernel, rfl⟩
theorem dX12_advance_111 : dc cX12_advance 111 (.getfield 121) 3 114 := ⟨by decide +kernel, rfl⟩
theorem dX12_advance_114 : dc cX12_advance 114 (.invokevirtual 127) 3 117 := ⟨by decide +kernel, rfl⟩
theorem dX12_advance_117 : dc cX12_advance 117 (.invokestatic 133) 3 120 := ⟨by decide +kernel, rfl⟩
theorem dX12_advance_120 : dc cX12_advance 120 (.ifCond .eq 62) 3 123 := ⟨by decide +kernel, rfl⟩
theorem dX12_advance_123 : dc cX12_advance 123 (.aload_n 0) 1 124 := ⟨by decide +kernel, rfl⟩
theorem dX12_advance_124 : dc cX12_advance 124 (.aload_n 0) 1 125 := ⟨by decide +kernel, rfl⟩
theorem dX12_advance_125 : dc cX12_advance 125 (.getfield 121) 3 128 := ⟨by decide +kernel, rfl⟩
theorem dX12_advance_128 : dc cX12_advance 128 (.aload_n 0) 1 129 := ⟨by decide +kernel, rfl⟩
theorem dX12_advance_129 : dc cX12_advance 129 (.getfield 124) 3 132 := ⟨by decide +kernel, rfl⟩
theorem dX12_advance_132 : dc cX12_advance 132 (.isub) 1 133 := ⟨by decide +kernel, rfl⟩
theorem dX12_advance_133 : dc cX12_advance 133 (.bipush 8) 2 135 := ⟨by decide +kernel, rfl⟩
theorem dX12_advance_135 : dc cX12_advance 135 (.if_icmp .ge 28) 3 138 := ⟨by decide +kernel, rfl⟩
theorem dX12_advance_138 : dc cX12_advance 138 (.aload_n 0) 1 139 := ⟨by decide +kernel, rfl⟩
theorem dX12_advance_139 : dc cX12_advance 139 (.getfield 136) 3 142 := ⟨by decide +kernel, rfl⟩
theorem dX12_advance_142 : dc cX12_advance 142 (.ldc2_w 139) 3 145 := ⟨by decide +kernel, rfl⟩
theorem dX12_advance_145 : dc cX12_advance 145 (.lmul) 1 146 := ⟨by decide +kernel, rfl⟩
theorem dX12_advance_146 : dc cX12_advance 146 (.aload_n 0) 1 147 := ⟨by decide +kernel, rfl⟩
theorem dX12_advance_147 : dc cX12_advance 147 (.aload_n 0) 1 148 := ⟨by decide +kernel, rfl⟩
theorem dX12_advance_148 : dc cX12_advance 148 (.getfield 121) 3 151 := ⟨by decide +kernel, rfl⟩
theorem dX12_advance_151 : dc cX12_advance 151 (.invokevirtual 127) 3 154 := ⟨by decide +kernel, rfl⟩
theorem dX12_advance_154 : dc cX12_advance 154 (.i2l) 1 155 := ⟨by decide +kernel, rfl⟩
theorem dX12_advance_155 : dc cX12_advance 155 (.ladd) 1 156 := ⟨by decide +kernel, rfl⟩
theorem dX12_advance_156 : dc cX12_advance 156 (.ldc2_w 141) 3 159 := ⟨by decide +kernel, rfl⟩
theorem dX12_advance_159 : dc cX12_advance 159 (.lsub) 1 160 := ⟨by decide +kernel, rfl⟩
theorem dX12_advance_160 : dc cX12_advance 160 (.goto 6) 3 163 := ⟨by decide +kernel, rfl⟩
theorem dX12_advance_163 : dc cX12_advance 163 (.ldc2_w 106) 3 166 := ⟨by decide +kernel, rfl⟩
theorem dX12_advance_166 : dc cX12_advance 166 (.putfield 136) 3 169 := ⟨by decide +kernel, rfl⟩
theorem dX12_advance_169 : dc cX12_advance 169 (.aload_n 0) 1 170 := ⟨by decide +kernel, rfl⟩
theorem dX12_advance_170 : dc cX12_advance 170 (.dup) 1 171 := ⟨by decide +kernel, rfl⟩
theorem dX12_advance_171 : dc cX12_advance 171 (.getfield 121) 3 174 := ⟨by decide +kernel, rfl⟩
theorem dX12_advance_174 : dc cX12_advance 174 (.iconst 1) 1 175 := ⟨by decide +kernel, rfl⟩
theorem dX12_advance_175 : dc cX12_advance 175 (.iadd) 1 176 := ⟨by decide +kernel, rfl⟩
theorem dX12_advance_176 : dc cX12_advance 176 (.putfield 121) 3 179 := ⟨by decide +kernel, rfl⟩
theorem dX12_advance_179 : dc cX12_advance 179 (.goto (-70)) 3 182 := ⟨by decide +kernel, rfl⟩
theorem dX12_advance_182 : dc cX12_advance 182 (.aload_n 0) 1 183 := ⟨by decide +kernel, rfl⟩
theorem dX12_advance_183 : dc cX12_advance 183 (.aload_n 0) 1 184 := ⟨by decide +kernel, rfl⟩
theorem dX12_advance_184 : dc cX12_advance 184 (.getfield 121) 3 187 := ⟨by decide +kernel, rfl⟩
theorem dX12_advance_187 : dc cX12_advance 187 (.aload_n 0) 1 188 := ⟨by decide +kernel, rfl⟩
theorem dX12_advance_188 : dc cX12_advance 188 (.getfield 124) 3 191 := ⟨by decide +kernel, rfl⟩
theorem dX12_advance_191 : dc cX12_advance 191 (.isub) 1 192 := ⟨by decide +kernel, rfl⟩
theorem dX12_advance_192 : dc cX12_advance 192 (.putfield 143) 3 195 := ⟨by decide +kernel, rfl⟩
theorem dX12_advance_195 : dc cX12_advance 195 (.goto 135) 3 198 := ⟨by decide +kernel, rfl⟩
theorem dX12_advance_198 : dc cX12_advance 198 (.iload_n 1) 1 199 := ⟨by decide +kernel, rfl⟩
theorem dX12_advance_199 : dc cX12_advance 199 (.invokestatic 146) 3 202 := ⟨by decide +kernel, rfl⟩
theorem dX12_advance_202 : dc cX12_advance 202 (.ifCond .eq 96) 3 205 := ⟨by decide +kernel, rfl⟩
theorem dX12_advance_205 : dc cX12_advance 205 (.aload_n 0) 1 206 := ⟨by decide +kernel, rfl⟩
theorem dX12_advance_206 : dc cX12_advance 206 (.iconst 0) 1 207 := ⟨by decide +kernel, rfl⟩
theorem dX12_advance_207 : dc cX12_advance 207 (.putfield 149) 3 210 := ⟨by decide +kernel, rfl⟩
theorem dX12_advance_210 : dc cX12_advance 210 (.aload_n 0) 1 211 := ⟨by decide +kernel, rfl⟩
theorem dX12_advance_211 : dc cX12_advance 211 (.aload_n 0) 1 212 := ⟨by decide +kernel, rfl⟩
theorem dX12_advance_212 : dc cX12_advance 212 (.getfield 121) 3 215 := ⟨by decide +kernel, rfl⟩
theorem dX12_advance_215 : dc cX12_advance 215 (.invokevirtual 127) 3 218 := ⟨by decide +kernel, rfl⟩
theorem dX12_advance_218 : dc cX12_advance 218 (.invokestatic 146) 3 221 := ⟨by decide +kernel, rfl⟩
theorem dX12_advance_221 : dc cX12_advance 221 (.ifCond .eq 52) 3 224 := ⟨by decide +kernel, rfl⟩
theorem dX12_advance_224 : dc cX12_advance 224 (.aload_n 0) 1 225 := ⟨by decide +kernel, rfl⟩
theorem dX12_advance_225 : dc cX12_advance 225 (.getfield 121) 3 228 := ⟨by decide +kernel, rfl⟩
theorem dX12_advance_228 : dc cX12_advance 228 (.aload_n 0) 1 229 := ⟨by decide +kernel, rfl⟩
theorem dX12_advance_229 : dc cX12_advance 229 (.getfield 124) 3 232 := ⟨by decide +kernel, rfl⟩
theorem dX12_advance_232 : dc cX12_advance 232 (.isub) 1 233 := ⟨by decide +kernel, rfl⟩
theorem dX12_advance_233 : dc cX12_advance 233 (.iconst 4) 1 234 := ⟨by decide +kernel, rfl⟩
theorem dX12_advance_234 : dc cX12_advance 234 (.if_icmp .ge 26) 3 237 := ⟨by decide +kernel, rfl⟩
theorem dX12_advance_237 : dc cX12_advance 237 (.aload_n 0) 1 238 := ⟨by decide +kernel, rfl⟩
theorem dX12_advance_238 : dc cX12_advance 238 (.bipush 10) 2 240 := ⟨by decide +kernel, rfl⟩
theorem dX12_advance_240 : dc cX12_advance 240 (.aload_n 0) 1 241 := ⟨by decide +kernel, rfl⟩
theorem dX12_advance_241 : dc cX12_advance 241 (.getfield 149) 3 244 := ⟨by decide +kernel, rfl⟩
theorem dX12_advance_244 : dc cX12_advance 244 (.imul) 1 245 := ⟨by decide +kernel, rfl⟩
theorem dX12_advance_245 : dc cX12_advance 245 (.aload_n 0) 1 246 := ⟨by decide +kernel, rfl⟩
theorem dX12_advance_246 : dc cX12_advance 246 (.aload_n 0) 1 247 := ⟨by decide +kernel, rfl⟩
theorem dX12_advance_247 : dc cX12_advance 247 (.getfield 121) 3 250 := ⟨by decide +kernel, rfl⟩
theorem dX12_advance_250 : dc cX12_advance 250 (.invokevirtual 127) 3 253 := ⟨by decide +kernel, rfl⟩
theorem dX12_advance_253 : dc cX12_advance 253 (.iadd) 1 254 := ⟨by decide +kernel, rfl⟩
theorem dX12_advance_254 : dc cX12_advance 254 (.bipush 48) 2 256 := ⟨by decide +kernel, rfl⟩
theorem dX12_advance_256 : dc cX12_advance 256 (.isub) 1 257 := ⟨by decide +kernel, rfl⟩
theorem dX12_advance_257 : dc cX12_advance 257 (.putfield 149) 3 260 := ⟨by decide +kernel, rfl⟩
theorem dX12_advance_260 : dc cX12_advance 260 (.aload_n 0) 1 261 := ⟨by decide +kernel, rfl⟩
theorem dX12_advance_261 : dc cX12_advance 261 (.dup) 1 262 := ⟨by decide +kernel, rfl⟩
theorem dX12_advance_262 : dc cX12_advance 262 (.getfield 121) 3 265 := ⟨by decide +kernel, rfl⟩
theorem dX12_advance_265 : dc cX12_advance 265 (.iconst 1) 1 266 := ⟨by decide +kernel, rfl⟩
theorem dX12_advance_266 : dc cX12_advance 266 (.iadd) 1 267 := ⟨by decide +kernel, rfl⟩
theorem dX12_advance_267 : dc cX12_advance 267 (.putfield 121) 3 270 := ⟨by decide +kernel, rfl⟩
theorem dX12_advance_270 : dc cX12_advance 270 (.goto (-60)) 3 273 := ⟨by decide +kernel, rfl⟩
theorem dX12_advance_273 : dc cX12_advance 273 (.aload_n 0) 1 274 := ⟨by decide +kernel, rfl⟩
theorem dX12_advance_274 : dc cX12_advance 274 (.aload_n 0) 1 275 := ⟨by decide +kernel, rfl⟩
theorem dX12_advance_275 : dc cX12_advance 275 (.getfield 121) 3 278 := ⟨by decide +kernel, rfl⟩
theorem dX12_advance_278 : dc cX12_advance 278 (.aload_n 0) 1 279 := ⟨by decide +kernel, rfl⟩
theorem dX12_advance_279 : dc cX12_advance 279 (.getfield 124) 3 282 := ⟨by decide +kernel, rfl⟩
theorem dX12_advance_282 : dc cX12_advance 282 (.isub) 1 283 := ⟨by decide +kernel, rfl⟩
theorem dX12_advance_283 : dc cX12_advance 283 (.iconst 4) 1 284 := ⟨by decide +kernel, rfl⟩
theorem dX12_advance_284 : dc cX12_advance 284 (.if_icmp .le 7) 3 287 := ⟨by decide +kernel, rfl⟩
theorem dX12_advance_287 : dc cX12_advance 287 (.iconst 4) 1 288 := ⟨by decide +kernel, rfl⟩
theorem dX12_advance_288 : dc cX12_advance 288 (.goto 4) 3 291 := ⟨by decide +kernel, rfl⟩
theorem dX12_advance_291 : dc cX12_advance 291 (.iconst 2) 1 292 := ⟨by decide +kernel, rfl⟩
theorem dX12_advance_292 : dc cX12_advance 292 (.putfield 130) 3 295 := ⟨by decide +kernel, rfl⟩
theorem dX12_advance_295 : dc cX12_advance 295 (.goto 35) 3 298 := ⟨by decide +kernel, rfl⟩
theorem dX12_advance_298 : dc cX12_advance 298 (.aload_n 0) 1 299 := ⟨by decide +kernel, rfl⟩
theorem dX12_advance_299 : dc cX12_advance 299 (.aload_n 0) 1 300 := ⟨by decide +kernel, rfl⟩
theorem dX12_advance_300 : dc cX12_advance 300 (.getfield 124) 3 303 := ⟨by decide +kernel, rfl⟩
theorem dX12_advance_303 : dc cX12_advance 303 (.iconst 1) 1 304 := ⟨by decide +kernel, rfl⟩
theorem dX12_advance_304 : dc cX12_advance 304 (.iadd) 1 305 := ⟨by decide +kernel, rfl⟩
theorem dX12_advance_305 : dc cX12_advance 305 (.putfield 121) 3 308 := ⟨by decide +kernel, rfl⟩
theorem dX12_advance_308 : dc cX12_advance 308 (.aload_n 0) 1 309 := ⟨by decide +kernel, rfl⟩
theorem dX12_advance_309 : dc cX12_advance 309 (.iload_n 1) 1 310 := ⟨by decide +kernel, rfl⟩
theorem dX12_advance_310 : dc cX12_advance 310 (.putfield 149) 3 313 := ⟨by decide +kernel, rfl⟩
theorem dX12_advance_313 : dc cX12_advance 313 (.aload_n 0) 1 314 := ⟨by decide +kernel, rfl⟩
theorem dX12_advance_314 : dc cX12_advance 314 (.aload_n 0) 1 315 := ⟨by decide +kernel, rfl⟩
theorem dX12_advance_315 : dc cX12_advance 315 (.iload_n 1) 1 316 := ⟨by decide +kernel, rfl⟩
theorem dX12_advance_316 : dc cX12_advance 316 (.invokevirtual 152) 3 319 := ⟨by decide +kernel, rfl⟩
theorem dX12_advance_319 : dc cX12_advance 319 (.ifCond .eq 7) 3 322 := ⟨by decide +kernel, rfl⟩
theorem dX12_advance_322 : dc cX12_advance 322 (.iconst 3) 1 323 := ⟨by decide +kernel, rfl⟩
theorem dX12_advance_323 : dc cX12_advance 323 (.goto 4) 3 326 := ⟨by decide +kernel, rfl⟩
theorem dX12_advance_326 : dc cX12_advance 326 (.iconst 4) 1 327 := ⟨by decide +kernel, rfl⟩
theorem dX12_advance_327 : dc cX12_advance 327 (.putfield 130) 3 330 := ⟨by decide +kernel, rfl⟩
theorem dX12_advance_330 : dc cX12_advance 330 (.return_) 1 331 := ⟨by decide +kernel, rfl⟩
theorem nm_X12_advance : (yX12_advance).cls ≠ "java/lang/invoke/MethodHandle" ∧ (yX12_advance).cls ≠ "java/lang/invoke/VarHandle" ∧ (parseMethodDescriptor (yX12_advance).desc).map (fun d => d.parameters.length) = some 0 := ⟨by decide +kernel, by decide +kernel, by decide +kernel⟩
set_option maxRecDepth 100000 in
set_option maxHeartbeats 4000000 in
theorem s_X12_advance_8 {ad : Nat → Nat} {cy : Nat → ClassId} {x : KX} (G : KG ad cy x cX12_advance "NoonGuidesModel" 2 (some none) 2) {a0 : Nat} (h0 : kty a0 = 12) {k58 : KM → Option KM} {y : KM} (hk58 : ∀ (M : KM), k58 M = some y → KV ad cy x (none, y) 58 [(0, .ref (ad a0))] [] M) : ∀ (n : Nat) (M : KM), lp_X12_advance_8 n a0 M k58 = some y → KV ad cy x (none, y) 8 [(0, .ref (ad a0))] [] M := by
  intro n
  induction n with
  | zero =>
    intro M hf
    cases hf
  | succ n ih =>
    intro M hf
    rw [lp_X12_advance_8] at hf
    refine v_aload_n G dX12_advance_8 0 rfl ?_
    refine gf_12_15 G h0 t_1506 (Or.inl rfl) dX12_advance_9 ?_
    refine v_aload_n G dX12_advance_12 0 rfl ?_
    refine gf_12_9 G h0 t_1500 (Or.inl rfl) dX12_advance_13 ?_
    refine v_icmp_ge 58 G dX12_advance_16 (by decide) (fun h7 => ?_) (fun h7 => ?_)
    · replace hf := (if_pos h7).symm.trans hf
      refine v_sub _ [0] rfl ?_
      exact hk58 M hf
    · replace hf := (if_neg h7).symm.trans hf
      refine v_aload_n G dX12_advance_19 0 rfl ?_
      refine v_aload_n G dX12_advance_20 0 rfl ?_
      refine gf_12_15 G h0 t_1506 (Or.inl rfl) dX12_advance_21 ?_
      obtain ⟨v2, hcv2, hf⟩ := bd_e hf
      refine v_callV [.int (M.1 a0 15)] G (c_X12_look2 n h0 hcv2) h0 (by decide) rfl rfl rfl t_1701 t_1703 t_p61 t_17 t_1704 nm_X12_look2 (by decide) (by decide) rfl rfl (Nat.le_of_ble_eq_true rfl) dX12_advance_24 (kv_ri ?_)
      refine v_bipush (10 : Int32) G dX12_advance_27 (by decide) ?_
      obtain ⟨j45, ej45, hf⟩ := lt_j hf
      have hj45 : j45 = some y → KV ad cy x (none, y) 45 [(0, .ref (ad a0))] [] M := by
        intro hf
        rw [ej45] at hf
        refine v_aload_n G dX12_advance_45 0 rfl ?_
        refine v_dup G dX12_advance_46 rfl ?_
        refine gf_12_15 G h0 t_1506 (Or.inl rfl) dX12_advance_47 ?_
        refine v_iconst (1 : Int32) G dX12_advance_50 (by decide) ?_
        refine v_iadd G dX12_advance_51 ?_
        refine pf_12_15 G h0 t_1506 (Or.inl rfl) dX12_advance_52 ?_
        refine v_nmM (fun M3 eM3 => ?_)
        replace hf := lt_e hf eM3
        refine v_goto 8 G dX12_advance_55 (by decide) ?_
        refine v_sub _ [0] rfl ?_
        exact ih M3 hf
      refine v_icmp_eq 45 G dX12_advance_29 (by decide) (fun h6 => ?_) (fun h6 => ?_)
      · replace hf := (if_pos h6).symm.trans hf
        refine v_sub _ [0] rfl ?_
        exact hj45 hf
      · replace hf := (if_neg h6).symm.trans hf
        refine v_aload_n G dX12_advance_32 0 rfl ?_
        refine v_aload_n G dX12_advance_33 0 rfl ?_
        refine gf_12_15 G h0 t_1506 (Or.inl rfl) dX12_advance_34 ?_
        obtain ⟨v4, hcv4, hf⟩ := bd_e hf
        refine v_callV [.int (M.1 a0 15)] G (c_X12_look2 n h0 hcv4) h0 (by decide) rfl rfl rfl t_1701 t_1703 t_p61 t_17 t_1704 nm_X12_look2 (by decide) (by decide) rfl rfl (Nat.le_of_ble_eq_true rfl) dX12_advance_37 (kv_ri ?_)
        refine v_bipush (32 : Int32) G dX12_advance_40 (by decide) ?_
        refine v_icmp_ne 58 G dX12_advance_42 (by decide) (fun h5 => ?_) (fun h5 => ?_)
        · replace hf := (if_neg h5).symm.trans hf
          refine v_sub _ [0] rfl ?_
          exact hk58 M hf
        · replace hf := (if_pos h5).symm.trans hf
          refine v_sub _ [0] rfl ?_
          exact hj45 hf
set_option maxRecDepth 100000 in
set_option maxHeartbeats 4000000 in
theorem s_X12_advance_210 {ad : Nat → Nat} {cy : Nat → ClassId} {x : KX} (G : KG ad cy x cX12_advance "NoonGuidesModel" 2 (some none) 2) {a0 : Nat} (h0 : kty a0 = 12) {k273 : KM → Option KM} {y : KM} (hk273 : ∀ (M : KM), k273 M = some y → KV ad cy x (none, y) 273 [(0, .ref (ad a0))] [] M) : ∀ (n : Nat) (M : KM), lp_X12_advance_210 n a0 M k273 = some y → KV ad cy x (none, y) 210 [(0, .ref (ad a0))] [] M := by
  intro n
  induction n with
  | zero =>
    intro M hf
    cases hf
  | succ n ih =>
    intro M hf
    rw [lp_X12_advance_210] at hf
    refine v_aload_n G dX12_advance_210 0 rfl ?_
    refine v_aload_n G dX12_advance_211 0 rfl ?_
    refine gf_12_16 G h0 t_1507 (Or.inl rfl) dX12_advance_212 ?_
    obtain ⟨v20, hcv20, hf⟩ := bd_e hf
    refine v_callV [.int (M.1 a0 16)] G (c_X12_look2 n h0 hcv20) h0 (by decide) rfl rfl rfl t_1701 t_1703 t_p61 t_17 t_1704 nm_X12_look2 (by decide) (by decide) rfl rfl (Nat.le_of_ble_eq_true rfl) dX12_advance_215 (kv_ri ?_)
    obtain ⟨v21, hcv21⟩ : ∃ q, f_X12_isDigit v20 M = q := ⟨_, rfl⟩
    replace hf := lt_e hf hcv21.symm
    refine v_callS [.int v20] G (c_X12_isDigit hcv21) t_1710 t_1711 t_17 t_1712 nm_X12_isDigit (by decide) (by decide) rfl rfl (Nat.le_of_ble_eq_true rfl) dX12_advance_218 (kv_ri ?_)
    refine v_if_eq 273 G dX12_advance_221 (by decide) (fun h27 => ?_) (fun h27 => ?_)
    · replace hf := (if_pos h27).symm.trans hf
      refine v_sub _ [0] rfl ?_
      exact hk273 M hf
    · replace hf := (if_neg h27).symm.trans hf
      refine v_aload_n G dX12_advance_224 0 rfl ?_
      refine gf_12_16 G h0 t_1507 (Or.inl rfl) dX12_advance_225 ?_
      refine v_aload_n G dX12_advance_228 0 rfl ?_
      refine gf_12_15 G h0 t_1506 (Or.inl rfl) dX12_advance_229 ?_
      refine v_isub G dX12_advance_232 ?_
      refine v_iconst (4 : Int32) G dX12_advance_233 (by decide) ?_
      obtain ⟨j260, ej260, hf⟩ := lt_j hf
      have hj260 : ∀ (M22 : KM), j260 M22 = some y → KV ad cy x (none, y) 260 [(0, .ref (ad a0))] [] M22 := by
        intro M22 hf
        rw [ej260] at hf
        refine v_aload_n G dX12_advance_260 0 rfl ?_
        refine v_dup G dX12_advance_261 rfl ?_
        refine gf_12_16 G h0 t_1507 (Or.inl rfl) dX12_advance_262 ?_
        refine v_iconst (1 : Int32) G dX12_advance_265 (by decide) ?_
        refine v_iadd G dX12_advance_266 ?_
        refine pf_12_16 G h0 t_1507 (Or.inl rfl) dX12_advance_267 ?_
        refine v_nmM (fun M23 eM23 => ?_)
        replace hf := lt_e hf eM23
        refine v_goto 210 G dX12_advance_270 (by decide) ?_
        refine v_sub _ [0] rfl ?_
        exact ih M23 hf
      refine v_icmp_ge 260 G dX12_advance_234 (by decide) (fun h26 => ?_) (fun h26 => ?_)
      · replace hf := (if_pos h26).symm.trans hf
        refine v_sub _ [0] rfl ?_
        exact hj260 M hf
      · replace hf := (if_neg h26).symm.trans hf
        refine v_aload_n G dX12_advance_237 0 rfl ?_
        refine v_bipush (10 : Int32) G dX12_advance_238 (by decide) ?_
        refine v_aload_n G dX12_advance_240 0 rfl ?_
        refine gf_12_17 G h0 t_1508 (Or.inl rfl) dX12_advance_241 ?_
        refine v_imul G dX12_advance_244 ?_
        refine v_aload_n G dX12_advance_245 0 rfl ?_
        refine v_aload_n G dX12_advance_246 0 rfl ?_
        refine gf_12_16 G h0 t_1507 (Or.inl rfl) dX12_advance_247 ?_
        obtain ⟨v24, hcv24, hf⟩ := bd_e hf
        refine v_callV [.int (M.1 a0 16)] G (c_X12_look2 n h0 hcv24) h0 (by decide) rfl rfl rfl t_1701 t_1703 t_p61 t_17 t_1704 nm_X12_look2 (by decide) (by decide) rfl rfl (Nat.le_of_ble_eq_true rfl) dX12_advance_250 (kv_ri ?_)
        refine v_iadd G dX12_advance_253 ?_
        refine v_bipush (48 : Int32) G dX12_advance_254 (by decide) ?_
        refine v_isub G dX12_advance_256 ?_
        refine pf_12_17 G h0 t_1508 (Or.inl rfl) dX12_advance_257 ?_
        refine v_nmM (fun M25 eM25 => ?_)
        replace hf := lt_e hf eM25
        refine v_sub _ [0] rfl ?_
        exact hj260 M25 hf
set_option maxRecDepth 100000 in
set_option maxHeartbeats 4000000 in
theorem s_X12_advance_109 {ad : Nat → Nat} {cy : Nat → ClassId} {x : KX} (G : KG ad cy x cX12_advance "NoonGuidesModel" 2 (some none) 2) {a0 : Nat} (h0 : kty a0 = 12) {k182 : KM → Option KM} {y : KM} (hk182 : ∀ (M : KM), k182 M = some y → KV ad cy x (none, y) 182 [(0, .ref (ad a0))] [] M) : ∀ (n : Nat) (M : KM), lp_X12_advance_109 n a0 M k182 = some y → KV ad cy x (none, y) 109 [(0, .ref (ad a0))] [] M := by
  intro n
  induction n with
  | zero =>
    intro M hf
    cases hf
  | succ n ih =>
    intro M hf
    rw [lp_X12_advance_109] at hf
    refine v_aload_n G dX12_advance_109 0 rfl ?_
    refine v_aload_n G dX12_advance_110 0 rfl ?_
    refine gf_12_16 G h0 t_1507 (Or.inl rfl) dX12_advance_111 ?_
    obtain ⟨v35, hcv35, hf⟩ := bd_e hf
    refine v_callV [.int (M.1 a0 16)] G (c_X12_look2 n h0 hcv35) h0 (by decide) rfl rfl rfl t_1701 t_1703 t_p61 t_17 t_1704 nm_X12_look2 (by decide) (by decide) rfl rfl (Nat.le_of_ble_eq_true rfl) dX12_advance_114 (kv_ri ?_)
    obtain ⟨v36, hcv36⟩ : ∃ q, f_X12_isLetter v35 M = q := ⟨_, rfl⟩
    replace hf := lt_e hf hcv36.symm
    refine v_callS [.int v35] G (c_X12_isLetter hcv36) t_1705 t_1706 t_17 t_1707 nm_X12_isLetter (by decide) (by decide) rfl rfl (Nat.le_of_ble_eq_true rfl) dX12_advance_117 (kv_ri ?_)
    refine v_if_eq 182 G dX12_advance_120 (by decide) (fun h42 => ?_) (fun h42 => ?_)
    · replace hf := (if_pos h42).symm.trans hf
      refine v_sub _ [0] rfl ?_
      exact hk182 M hf
    · replace hf := (if_neg h42).symm.trans hf
      refine v_aload_n G dX12_advance_123 0 rfl ?_
      refine v_aload_n G dX12_advance_124 0 rfl ?_
      refine gf_12_16 G h0 t_1507 (Or.inl rfl) dX12_advance_125 ?_
      refine v_aload_n G dX12_advance_128 0 rfl ?_
      refine gf_12_15 G h0 t_1506 (Or.inl rfl) dX12_advance_129 ?_
      refine v_isub G dX12_advance_132 ?_
      refine v_bipush (8 : Int32) G dX12_advance_133 (by decide) ?_
      obtain ⟨j166, ej166, hf⟩ := lt_j hf
      have hj166 : ∀ (x37 : Int64), j166 x37 = some y → KV ad cy x (none, y) 166 [(0, .ref (ad a0))] [.long x37, .ref (ad a0)] M := by
        intro x37 hf
        rw [ej166] at hf
        refine pf_12_19 G h0 t_1510 (Or.inl rfl) dX12_advance_166 ?_
        refine v_nmM (fun M38 eM38 => ?_)
        replace hf := lt_e hf eM38
        refine v_aload_n G dX12_advance_169 0 rfl ?_
        refine v_dup G dX12_advance_170 rfl ?_
        refine gf_12_16 G h0 t_1507 (Or.inl rfl) dX12_advance_171 ?_
        refine v_iconst (1 : Int32) G dX12_advance_174 (by decide) ?_
        refine v_iadd G dX12_advance_175 ?_
        refine pf_12_16 G h0 t_1507 (Or.inl rfl) dX12_advance_176 ?_
        refine v_nmM (fun M39 eM39 => ?_)
        replace hf := lt_e hf eM39
        refine v_goto 109 G dX12_advance_179 (by decide) ?_
        refine v_sub _ [0] rfl ?_
        exact ih M39 hf
      refine v_icmp_ge 163 G dX12_advance_135 (by decide) (fun h41 => ?_) (fun h41 => ?_)
      · replace hf := (if_pos h41).symm.trans hf
        refine v_ldc2 G dX12_advance_163 t_1672 ?_
        refine v_sub _ [0] rfl ?_
        exact hj166 (-1 : Int64) hf
      · replace hf := (if_neg h41).symm.trans hf
        refine v_aload_n G dX12_advance_138 0 rfl ?_
        refine gf_12_19 G h0 t_1510 (Or.inl rfl) dX12_advance_139 ?_
        refine v_ldc2 G dX12_advance_142 t_1708 ?_
        refine v_lmul G dX12_advance_145 ?_
        refine v_aload_n G dX12_advance_146 0 rfl ?_
        refine v_aload_n G dX12_advance_147 0 rfl ?_
        refine gf_12_16 G h0 t_1507 (Or.inl rfl) dX12_advance_148 ?_
        obtain ⟨v40, hcv40, hf⟩ := bd_e hf
        refine v_callV [.int (M.1 a0 16)] G (c_X12_look2 n h0 hcv40) h0 (by decide) rfl rfl rfl t_1701 t_1703 t_p61 t_17 t_1704 nm_X12_look2 (by decide) (by decide) rfl rfl (Nat.le_of_ble_eq_true rfl) dX12_advance_151 (kv_ri ?_)
        refine v_i2l G dX12_advance_154 ?_
        refine v_ladd G dX12_advance_155 ?_
        refine v_ldc2 G dX12_advance_156 t_1709 ?_
        refine v_lsub G dX12_advance_159 ?_
        refine v_goto 166 G dX12_advance_160 (by decide) ?_
        refine v_sub _ [0] rfl ?_
        exact hj166 ((((M.2.1 a0 19) * (32 : Int64)) + (v40).toInt64) - (96 : Int64)) hf
set_option maxRecDepth 100000 in
set_option maxHeartbeats 4000000 in
theorem c_X12_advance {l : Launch} {ad : Nat → Nat} {cy : Nat → ClassId} {D : va_G} {z : Nat} (n : Nat) {a0 : Nat} {M : KM} {y : KM} (h0 : kty a0 = 12) (hf : f_X12_advance n a0 M = some y) : KC l ad cy D z yX12_advance cX12_advance 2 none 2 [.ref (ad a0)] M (none, y) := by
  refine kv_enter (by decide +kernel) (Nat.le_of_ble_eq_true rfl) ?_
  intro x hl hD hz G
  subst hl hD hz
  unfold f_X12_advance at hf
  have G : KG ad cy x cX12_advance "NoonGuidesModel" 2 (some none) 2 := G
  show KV ad cy x (none, y) 0 [(0, .ref (ad a0))] [] M
  refine v_aload_n G dX12_advance_0 0 rfl ?_
  refine v_aload_n G dX12_advance_1 0 rfl ?_
  refine gf_12_16 G h0 t_1507 (Or.inl rfl) dX12_advance_2 ?_
  refine pf_12_15 G h0 t_1506 (Or.inl rfl) dX12_advance_5 ?_
  refine v_nmM (fun M1 eM1 => ?_)
  replace hf := lt_e hf eM1
  refine v_sub _ [0] rfl ?_
  refine s_X12_advance_8 G h0 (fun M8 hf => ?_) n M1 hf
  · refine v_aload_n G dX12_advance_58 0 rfl ?_
    refine v_aload_n G dX12_advance_59 0 rfl ?_
    refine gf_12_15 G h0 t_1506 (Or.inl rfl) dX12_advance_60 ?_
    refine pf_12_16 G h0 t_1507 (Or.inl rfl) dX12_advance_63 ?_
    refine v_nmM (fun M9 eM9 => ?_)
    replace hf := lt_e hf eM9
    refine v_aload_n G dX12_advance_66 0 rfl ?_
    refine gf_12_15 G h0 t_1506 (Or.inl rfl) dX12_advance_67 ?_
    refine v_aload_n G dX12_advance_70 0 rfl ?_
    refine gf_12_9 G h0 t_1500 (Or.inl rfl) dX12_advance_71 ?_
    refine v_icmp_lt 83 G dX12_advance_74 (by decide) (fun h47 => ?_) (fun h47 => ?_)
    · replace hf := (if_pos h47).symm.trans hf
      refine v_aload_n G dX12_advance_83 0 rfl ?_
      refine v_aload_n G dX12_advance_84 0 rfl ?_
      refine gf_12_15 G h0 t_1506 (Or.inl rfl) dX12_advance_85 ?_
      obtain ⟨v10, hcv10, hf⟩ := bd_e hf
      refine v_callV [.int (M9.1 a0 15)] G (c_X12_look2 n h0 hcv10) h0 (by decide) rfl rfl rfl t_1701 t_1703 t_p61 t_17 t_1704 nm_X12_look2 (by decide) (by decide) rfl rfl (Nat.le_of_ble_eq_true rfl) dX12_advance_88 (kv_ri ?_)
      refine v_istore_n [(1, .int v10), (0, .ref (ad a0))] G dX12_advance_91 (by decide) rfl ?_
      refine v_iload_n G dX12_advance_92 0 rfl ?_
      obtain ⟨v11, hcv11⟩ : ∃ q, f_X12_isLetter v10 M9 = q := ⟨_, rfl⟩
      replace hf := lt_e hf hcv11.symm
      refine v_callS [.int v10] G (c_X12_isLetter hcv11) t_1705 t_1706 t_17 t_1707 nm_X12_isLetter (by decide) (by decide) rfl rfl (Nat.le_of_ble_eq_true rfl) dX12_advance_93 (kv_ri ?_)
      refine v_if_eq 198 G dX12_advance_96 (by decide) (fun h45 => ?_) (fun h45 => ?_)
      · replace hf := (if_pos h45).symm.trans hf
        refine v_iload_n G dX12_advance_198 0 rfl ?_
        obtain ⟨v12, hcv12⟩ : ∃ q, f_X12_isDigit v10 M9 = q := ⟨_, rfl⟩
        replace hf := lt_e hf hcv12.symm
        refine v_callS [.int v10] G (c_X12_isDigit hcv12) t_1710 t_1711 t_17 t_1712 nm_X12_isDigit (by decide) (by decide) rfl rfl (Nat.le_of_ble_eq_true rfl) dX12_advance_199 (kv_ri ?_)
        refine v_if_eq 298 G dX12_advance_202 (by decide) (fun h32 => ?_) (fun h32 => ?_)
        · replace hf := (if_pos h32).symm.trans hf
          refine v_aload_n G dX12_advance_298 1 rfl ?_
          refine v_aload_n G dX12_advance_299 1 rfl ?_
          refine gf_12_15 G h0 t_1506 (Or.inl rfl) dX12_advance_300 ?_
          refine v_iconst (1 : Int32) G dX12_advance_303 (by decide) ?_
          refine v_iadd G dX12_advance_304 ?_
          refine pf_12_16 G h0 t_1507 (Or.inl rfl) dX12_advance_305 ?_
          refine v_nmM (fun M13 eM13 => ?_)
          replace hf := lt_e hf eM13
          refine v_aload_n G dX12_advance_308 1 rfl ?_
          refine v_iload_n G dX12_advance_309 0 rfl ?_
          refine pf_12_17 G h0 t_1508 (Or.inl rfl) dX12_advance_310 ?_
          refine v_nmM (fun M14 eM14 => ?_)
          replace hf := lt_e hf eM14
          refine v_aload_n G dX12_advance_313 1 rfl ?_
          refine v_aload_n G dX12_advance_314 1 rfl ?_
          refine v_iload_n G dX12_advance_315 0 rfl ?_
          obtain ⟨v15, hcv15⟩ : ∃ q, f_X12_isSignByte a0 v10 M14 = q := ⟨_, rfl⟩
          replace hf := lt_e hf hcv15.symm
          refine v_callV [.int v10] G (c_X12_isSignByte h0 hcv15) h0 (by decide) rfl rfl rfl t_1713 t_1715 t_p62 t_17 t_1716 nm_X12_isSignByte (by decide) (by decide) rfl rfl (Nat.le_of_ble_eq_true rfl) dX12_advance_316 (kv_ri ?_)
          obtain ⟨j327, ej327, hf⟩ := lt_j hf
          have hj327 : ∀ (x16 : Int32), j327 x16 = some y → KV ad cy x (none, y) 327 [] [.int x16, .ref (ad a0)] M14 := by
            intro x16 hf
            rw [ej327] at hf
            refine pf_12_14 G h0 t_1505 (Or.inl rfl) dX12_advance_327 ?_
            refine v_nmM (fun M17 eM17 => ?_)
            replace hf := lt_e hf eM17
            obtain rfl := Option.some.inj hf
            exact v_vret G dX12_advance_330
          refine v_if_eq 326 G dX12_advance_319 (by decide) (fun h18 => ?_) (fun h18 => ?_)
          · replace hf := (if_pos h18).symm.trans hf
            refine v_iconst (4 : Int32) G dX12_advance_326 (by decide) ?_
            refine v_sub _ [] rfl ?_
            exact hj327 (4 : Int32) hf
          · replace hf := (if_neg h18).symm.trans hf
            refine v_iconst (3 : Int32) G dX12_advance_322 (by decide) ?_
            refine v_goto 327 G dX12_advance_323 (by decide) ?_
            refine v_sub _ [] rfl ?_
            exact hj327 (3 : Int32) hf
        · replace hf := (if_neg h32).symm.trans hf
          refine v_aload_n G dX12_advance_205 1 rfl ?_
          refine v_iconst (0 : Int32) G dX12_advance_206 (by decide) ?_
          refine pf_12_17 G h0 t_1508 (Or.inl rfl) dX12_advance_207 ?_
          refine v_nmM (fun M19 eM19 => ?_)
          replace hf := lt_e hf eM19
          refine v_sub _ [1] rfl ?_
          refine s_X12_advance_210 G h0 (fun M28 hf => ?_) n M19 hf
          · refine v_aload_n G dX12_advance_273 0 rfl ?_
            refine v_aload_n G dX12_advance_274 0 rfl ?_
            refine gf_12_16 G h0 t_1507 (Or.inl rfl) dX12_advance_275 ?_
            refine v_aload_n G dX12_advance_278 0 rfl ?_
            refine gf_12_15 G h0 t_1506 (Or.inl rfl) dX12_advance_279 ?_
            refine v_isub G dX12_advance_282 ?_
            refine v_iconst (4 : Int32) G dX12_advance_283 (by decide) ?_
            obtain ⟨j292, ej292, hf⟩ := lt_j hf
            have hj292 : ∀ (x29 : Int32), j292 x29 = some y → KV ad cy x (none, y) 292 [] [.int x29, .ref (ad a0)] M28 := by
              intro x29 hf
              rw [ej292] at hf
              refine pf_12_14 G h0 t_1505 (Or.inl rfl) dX12_advance_292 ?_
              refine v_nmM (fun M30 eM30 => ?_)
              replace hf := lt_e hf eM30
              refine v_goto 330 G dX12_advance_295 (by decide) ?_
              obtain rfl := Option.some.inj hf
              exact v_vret G dX12_advance_330
            refine v_icmp_le 291 G dX12_advance_284 (by decide) (fun h31 => ?_) (fun h31 => ?_)
            · replace hf := (if_pos h31).symm.trans hf
              refine v_iconst (2 : Int32) G dX12_advance_291 (by decide) ?_
              refine v_sub _ [] rfl ?_
              exact hj292 (2 : Int32) hf
            · replace hf := (if_neg h31).symm.trans hf
              refine v_iconst (4 : Int32) G dX12_advance_287 (by decide) ?_
              refine v_goto 292 G dX12_advance_288 (by decide) ?_
              refine v_sub _ [] rfl ?_
              exact hj292 (4 : Int32) hf
      · replace hf := (if_neg h45).symm.trans hf
        refine v_aload_n G dX12_advance_99 1 rfl ?_
        refine v_iconst (1 : Int32) G dX12_advance_100 (by decide) ?_
        refine pf_12_14 G h0 t_1505 (Or.inl rfl) dX12_advance_101 ?_
        refine v_nmM (fun M33 eM33 => ?_)
        replace hf := lt_e hf eM33
        refine v_aload_n G dX12_advance_104 1 rfl ?_
        refine v_lconst (0 : Int64) G dX12_advance_105 (by decide) ?_
        refine pf_12_19 G h0 t_1510 (Or.inl rfl) dX12_advance_106 ?_
        refine v_nmM (fun M34 eM34 => ?_)
        replace hf := lt_e hf eM34
        refine v_sub _ [1] rfl ?_
        refine s_X12_advance_109 G h0 (fun M43 hf => ?_) n M34 hf
        · refine v_aload_n G dX12_advance_182 0 rfl ?_
          refine v_aload_n G dX12_advance_183 0 rfl ?_
          refine gf_12_16 G h0 t_1507 (Or.inl rfl) dX12_advance_184 ?_
          refine v_aload_n G dX12_advance_187 0 rfl ?_
          refine gf_12_15 G h0 t_1506 (Or.inl rfl) dX12_advance_188 ?_
          refine v_isub G dX12_advance_191 ?_
          refine pf_12_18 G h0 t_1509 (Or.inl rfl) dX12_advance_192 ?_
          refine v_nmM (fun M44 eM44 => ?_)
          replace hf := lt_e hf eM44
          refine v_goto 330 G dX12_advance_195 (by decide) ?_
          obtain rfl := Option.some.inj hf
          exact v_vret G dX12_advance_330
    · replace hf := (if_neg h47).symm.trans hf
      refine v_aload_n G dX12_advance_77 0 rfl ?_
      refine v_iconst (0 : Int32) G dX12_advance_78 (by decide) ?_
      refine pf_12_14 G h0 t_1505 (Or.inl rfl) dX12_advance_79 ?_
      refine v_nmM (fun M46 eM46 => ?_)
      replace hf := lt_e hf eM46
      obtain rfl := Option.some.inj hf
      exact v_vret G dX12_advance_82
abbrev cX12_isSign : ByteArray := prog_14_method_25_code
def yX12_isSign : MethodName := ⟨RX12, "isSign", "(I)Z"⟩
theorem dX12_isSign_0 : dc cX12_isSign 0 (.aload_n 0) 1 1 := ⟨by decide +kernel, rfl⟩
theorem dX12_isSign_1 : dc cX12_isSign 1 (.getfield 130) 3 4 := ⟨by decide +kernel, rfl⟩
theorem dX12_isSign_4 : dc cX12_isSign 4 (.iconst 3) 1 5 := ⟨by decide +kernel, rfl⟩
theorem dX12_isSign_5 : dc cX12_isSign 5 (.if_icmp .ne 15) 3 8 := ⟨by decide +kernel, rfl⟩
theorem dX12_isSign_8 : dc cX12_isSign 8 (.aload_n 0) 1 9 := ⟨by decide +kernel, rfl⟩
theorem dX12_isSign_9 : dc cX12_isSign 9 (.getfield 149) 3 12 := ⟨by decide +kernel, rfl⟩
theorem dX12_isSign_12 : dc cX12_isSign 12 (.iload_n 1) 1 13 := ⟨by decide +kernel, rfl⟩
theorem dX12_isSign_13 : dc cX12_isSign 13 (.if_icmp .ne 7) 3 16 := ⟨by decide +kernel, rfl⟩
theorem dX12_isSign_16 : dc cX12_isSign 16 (.iconst 1) 1 17 := ⟨by decide +kernel, rfl⟩
theorem dX12_isSign_17 : dc cX12_isSign 17 (.goto 4) 3 20 := ⟨by decide +kernel, rfl⟩
theorem dX12_isSign_20 : dc cX12_isSign 20 (.iconst 0) 1 21 := ⟨by decide +kernel, rfl⟩
theorem dX12_isSign_21 : dc cX12_isSign 21 (.ireturn) 1 22 := ⟨by decide +kernel, rfl⟩
theorem nm_X12_isSign : (yX12_isSign).cls ≠ "java/lang/invoke/MethodHandle" ∧ (yX12_isSign).cls ≠ "java/lang/invoke/VarHandle" ∧ (parseMethodDescriptor (yX12_isSign).desc).map (fun d => d.parameters.length) = some 1 := ⟨by decide +kernel, by decide +kernel, by decide +kernel⟩
set_option maxRecDepth 100000 in
theorem z_X12_isSign {a0 : Nat} {p1 : Int32} {M : KM} {y : Int32} (hf : f_X12_isSign a0 p1 M = y) : (y = 0 ∨ y = 1) := by
  unfold f_X12_isSign at hf
  by_cases h2 : (M.1 a0 14) = (3 : Int32)
  · replace hf := (if_pos h2).symm.trans hf
    by_cases h1 : (M.1 a0 17) = p1
    · replace hf := (if_pos h1).symm.trans hf
      obtain rfl := hf
      exact (Or.inr rfl)
    · replace hf := (if_neg h1).symm.trans hf
      obtain rfl := hf
      exact (Or.inl rfl)
  · replace hf := (if_neg h2).symm.trans hf
    obtain rfl := hf
    exact (Or.inl rfl)
set_option maxRecDepth 100000 in
set_option maxHeartbeats 4000000 in
theorem c_X12_isSign {l : Launch} {ad : Nat → Nat} {cy : Nat → ClassId} {D : va_G} {z : Nat} {a0 : Nat} {p1 : Int32} {M : KM} {y : Int32} (h0 : kty a0 = 12) (hf : f_X12_isSign a0 p1 M = y) : KC l ad cy D z yX12_isSign cX12_isSign 2 (some .boolean) 1 [.ref (ad a0), .int p1] M (some (.int y), M) := by
  refine kv_enter (by decide +kernel) (Nat.le_of_ble_eq_true rfl) ?_
  intro x hl hD hz G
  subst hl hD hz
  unfold f_X12_isSign at hf
  have G : KG ad cy x cX12_isSign "NoonGuidesModel" 2 (some (some .boolean)) 1 := G
  show KV ad cy x (some (.int y), M) 0 [(0, .ref (ad a0)), (1, .int p1)] [] M
  refine v_aload_n G dX12_isSign_0 0 rfl ?_
  refine gf_12_14 G h0 t_1505 (Or.inl rfl) dX12_isSign_1 ?_
  refine v_iconst (3 : Int32) G dX12_isSign_4 (by decide) ?_
  refine v_icmp_ne 20 G dX12_isSign_5 (by decide) (fun h2 => ?_) (fun h2 => ?_)
  · replace hf := (if_neg h2).symm.trans hf
    refine v_iconst (0 : Int32) G dX12_isSign_20 (by decide) ?_
    obtain rfl := hf
    exact v_zret G (Or.inl rfl) dX12_isSign_21
  · replace hf := (if_pos h2).symm.trans hf
    refine v_aload_n G dX12_isSign_8 0 rfl ?_
    refine gf_12_17 G h0 t_1508 (Or.inl rfl) dX12_isSign_9 ?_
    refine v_iload_n G dX12_isSign_12 1 rfl ?_
    refine v_icmp_ne 20 G dX12_isSign_13 (by decide) (fun h1 => ?_) (fun h1 => ?_)
    · replace hf := (if_neg h1).symm.trans hf
      refine v_iconst (0 : Int32) G dX12_isSign_20 (by decide) ?_
      obtain rfl := hf
      exact v_zret G (Or.inl rfl) dX12_isSign_21
    · replace hf := (if_pos h1).symm.trans hf
      refine v_iconst (1 : Int32) G dX12_isSign_16 (by decide) ?_
      refine v_goto 21 G dX12_isSign_17 (by decide) ?_
      obtain rfl := hf
      exact v_zret G (Or.inr rfl) dX12_isSign_21
abbrev cX12_spelled : ByteArray := prog_14_method_26_code
def yX12_spelled : MethodName := ⟨RX12, "spelled", "(IIIIII)J"⟩
theorem dX12_spelled_0 : dc cX12_spelled 0 (.iload_n 0) 1 1 := ⟨by decide +kernel, rfl⟩
theorem dX12_spelled_1 : dc cX12_spelled 1 (.i2l) 1 2 := ⟨by decide +kernel, rfl⟩
theorem dX12_spelled_2 : dc cX12_spelled 2 (.ldc2_w 141) 3 5 := ⟨by decide +kernel, rfl⟩
theorem dX12_spelled_5 : dc cX12_spelled 5 (.lsub) 1 6 := ⟨by decide +kernel, rfl⟩
theorem dX12_spelled_6 : dc cX12_spelled 6 (.ldc2_w 139) 3 9 := ⟨by decide +kernel, rfl⟩
theorem dX12_spelled_9 : dc cX12_spelled 9 (.lmul) 1 10 := ⟨by decide +kernel, rfl⟩
theorem dX12_spelled_10 : dc cX12_spelled 10 (.iload_n 1) 1 11 := ⟨by decide +kernel, rfl⟩
theorem dX12_spelled_11 : dc cX12_spelled 11 (.i2l) 1 12 := ⟨by decide +kernel, rfl⟩
theorem dX12_spelled_12 : dc cX12_spelled 12 (.ladd) 1 13 := ⟨by decide +kernel, rfl⟩
theorem dX12_spelled_13 : dc cX12_spelled 13 (.ldc2_w 141) 3 16 := ⟨by decide +kernel, rfl⟩
theorem dX12_spelled_16 : dc cX12_spelled 16 (.lsub) 1 17 := ⟨by decide +kernel, rfl⟩
theorem dX12_spelled_17 : dc cX12_spelled 17 (.lstore 6) 2 19 := ⟨by decide +kernel, rfl⟩
theorem dX12_spelled_19 : dc cX12_spelled 19 (.iload_n 2) 1 20 := ⟨by decide +kernel, rfl⟩
theorem dX12_spelled_20 : dc cX12_spelled 20 (.ifCond .le 19) 3 23 := ⟨by decide +kernel, rfl⟩
theorem dX12_spelled_23 : dc cX12_spelled 23 (.lload 6) 2 25 := ⟨by decide +kernel, rfl⟩
theorem dX12_spelled_25 : dc cX12_spelled 25 (.ldc2_w 139) 3 28 := ⟨by decide +kernel, rfl⟩
theorem dX12_spelled_28 : dc cX12_spelled 28 (.lmul) 1 29 := ⟨by decide +kernel, rfl⟩
theorem dX12_spelled_29 : dc cX12_spelled 29 (.iload_n 2) 1 30 := ⟨by decide +kernel, rfl⟩
theorem dX12_spelled_30 : dc cX12_spelled 30 (.i2l) 1 31 := ⟨by decide +kernel, rfl⟩
theorem dX12_spelled_31 : dc cX12_spelled 31 (.ladd) 1 32 := ⟨by decide +kernel, rfl⟩
theorem dX12_spelled_32 : dc cX12_spelled 32 (.ldc2_w 141) 3 35 := ⟨by decide +kernel, rfl⟩
theorem dX12_spelled_35 : dc cX12_spelled 35 (.lsub) 1 36 := ⟨by decide +kernel, rfl⟩
theorem dX12_spelled_36 : dc cX12_spelled 36 (.goto 5) 3 39 := ⟨by decide +kernel, rfl⟩
theorem dX12_spelled_39 : dc cX12_spelled 39 (.lload 6) 2 41 := ⟨by decide +kernel, rfl⟩
theorem dX12_spelled_41 : dc cX12_spelled 41 (.lstore 6) 2 43 := ⟨by decide +kernel, rfl⟩
theorem dX12_spelled_43 : dc cX12_spelled 43 (.iload_n 3) 1 44 := ⟨by decide +kernel, rfl⟩
theorem dX12_spelled_44 : dc cX12_spelled 44 (.ifCond .le 19) 3 47 := ⟨by decide +kernel, rfl⟩
theorem dX12_spelled_47 : dc cX12_spelled 47 (.lload 6) 2 49 := ⟨by decide +kernel, rfl⟩
theorem dX12_spelled_49 : dc cX12_spelled 49 (.ldc2_w 139) 3 52 := ⟨by decide +kernel, rfl⟩
theorem dX12_spelled_52 : dc cX12_spelled 52 (.lmul) 1 53 := ⟨by decide +kernel, rfl⟩
theorem dX12_spelled_53 : dc cX12_spelled 53 (.iload_n 3) 1 54 := ⟨by decide +kernel, rfl⟩
theorem dX12_spelled_54 : dc cX12_spelled 54 (.i2l) 1 55 := ⟨by decide +kernel, rfl⟩
theorem dX12_spelled_55 : dc cX12_spelled 55 (.ladd) 1 56 := ⟨by decide +kernel, rfl⟩
theorem dX12_spelled_56 : dc cX12_spelled 56 (.ldc2_w 141) 3 59 := ⟨by decide +kernel, rfl⟩
theorem dX12_spelled_59 : dc cX12_spelled 59 (.lsub) 1 60 := ⟨by decide +kernel, rfl⟩
theorem dX12_spelled_60 : dc cX12_spelled 60 (.goto 5) 3 63 := ⟨by decide +kernel, rfl⟩
theorem dX12_spelled_63 : dc cX12_spelled 63 (.lload 6) 2 65 := ⟨by decide +kernel, rfl⟩
theorem dX12_spelled_65 : dc cX12_spelled 65 (.lstore 6) 2 67 := ⟨by decide +kernel, rfl⟩
theorem dX12_spelled_67 : dc cX12_spelled 67 (.iload 4) 2 69 := ⟨by decide +kernel, rfl⟩
theorem dX12_spelled_69 : dc cX12_spelled 69 (.ifCond .le 20) 3 72 := ⟨by decide +kernel, rfl⟩
theorem dX12_spelled_72 : dc cX12_spelled 72 (.lload 6) 2 74 := ⟨by decide +kernel, rfl⟩
theorem dX12_spelled_74 : dc cX12_spelled 74 (.ldc2_w 139) 3 77 := ⟨by decide +kernel, rfl⟩
theorem dX12_spelled_77 : dc cX12_spelled 77 (.lmul) 1 78 := ⟨by decide +kernel, rfl⟩
theorem dX12_spelled_78 : dc cX12_spelled 78 (.iload 4) 2 80 := ⟨by decide +kernel, rfl⟩
theorem dX12_spelled_80 : dc cX12_spelled 80 (.i2l) 1 81 := ⟨by decide +kernel, rfl⟩
theorem dX12_spelled_81 : dc cX12_spelled 81 (.ladd) 1 82 := ⟨by decide +kernel, rfl⟩
theorem dX12_spelled_82 : dc cX12_spelled 82 (.ldc2_w 141) 3 85 := ⟨by decide +kernel, rfl⟩
theorem dX12_spelled_85 : dc cX12_spelled 85 (.lsub) 1 86 := ⟨by decide +kernel, rfl⟩
theorem dX12_spelled_86 : dc cX12_spelled 86 (.goto 5) 3 89 := ⟨by decide +kernel, rfl⟩
theorem dX12_spelled_89 : dc cX12_spelled 89 (.lload 6) 2 91 := ⟨by decide +kernel, rfl⟩
theorem dX12_spelled_91 : dc cX12_spelled 91 (.lstore 6) 2 93 := ⟨by decide +kernel, rfl⟩
theorem dX12_spelled_93 : dc cX12_spelled 93 (.iload 5) 2 95 := ⟨by decide +kernel, rfl⟩
theorem dX12_spelled_95 : dc cX12_spelled 95 (.ifCond .le 20) 3 98 := ⟨by decide +kernel, rfl⟩
theorem dX12_spelled_98 : dc cX12_spelled 98 (.lload 6) 2 100 := ⟨by decide +kernel, rfl⟩
theorem dX12_spelled_100 : dc cX12_spelled 100 (.ldc2_w 139) 3 103 := ⟨by decide +kernel, rfl⟩
theorem dX12_spelled_103 : dc cX12_spelled 103 (.lmul) 1 104 := ⟨by decide +kernel, rfl⟩
theorem dX12_spelled_104 : dc cX12_spelled 104 (.iload 5) 2 106 := ⟨by decide +kernel, rfl⟩
theorem dX12_spelled_106 : dc cX12_spelled 106 (.i2l) 1 107 := ⟨by decide +kernel, rfl⟩
theorem dX12_spelled_107 : dc cX12_spelled 107 (.ladd) 1 108 := ⟨by decide +kernel, rfl⟩
theorem dX12_spelled_108 : dc cX12_spelled 108 (.ldc2_w 141) 3 111 := ⟨by decide +kernel, rfl⟩
theorem dX12_spelled_111 : dc cX12_spelled 111 (.lsub) 1 112 := ⟨by decide +kernel, rfl⟩
theorem dX12_spelled_112 : dc cX12_spelled 112 (.goto 5) 3 115 := ⟨by decide +kernel, rfl⟩
theorem dX12_spelled_115 : dc cX12_spelled 115 (.lload 6) 2 117 := ⟨by decide +kernel, rfl⟩
theorem dX12_spelled_117 : dc cX12_spelled 117 (.lreturn) 1 118 := ⟨by decide +kernel, rfl⟩
theorem nm_X12_spelled : (yX12_spelled).cls ≠ "java/lang/invoke/MethodHandle" ∧ (yX12_spelled).cls ≠ "java/lang/invoke/VarHandle" ∧ (parseMethodDescriptor (yX12_spelled).desc).map (fun d => d.parameters.length) = some 6 := ⟨by decide +kernel, by decide +kernel, by decide +kernel⟩
set_option maxRecDepth 100000 in
set_option maxHeartbeats 4000000 in
theorem c_X12_spelled {l : Launch} {ad : Nat → Nat} {cy : Nat → ClassId} {D : va_G} {z : Nat} {p0 : Int32} {p1 : Int32} {p2 : Int32} {p3 : Int32} {p4 : Int32} {p5 : Int32} {M : KM} {y : Int64} (hf : f_X12_spelled p0 p1 p2 p3 p4 p5 M = y) : KC l ad cy D z yX12_spelled cX12_spelled 8 (some .long) 1 [.int p0, .int p1, .int p2, .int p3, .int p4, .int p5] M (some (.long y), M) := by
  refine kv_enter (by decide +kernel) (Nat.le_of_ble_eq_true rfl) ?_
  intro x hl hD hz G
  subst hl hD hz
  unfold f_X12_spelled at hf
  have G : KG ad cy x cX12_spelled "NoonGuidesModel" 8 (some (some .long)) 1 := G
  show KV ad cy x (some (.long y), M) 0 [(0, .int p0), (1, .int p1), (2, .int p2), (3, .int p3), (4, .int p4), (5, .int p5)] [] M
  refine v_iload_n G dX12_spelled_0 0 rfl ?_
  refine v_i2l G dX12_spelled_1 ?_
  refine v_ldc2 G dX12_spelled_2 t_1709 ?_
  refine v_lsub G dX12_spelled_5 ?_
  refine v_ldc2 G dX12_spelled_6 t_1708 ?_
  refine v_lmul G dX12_spelled_9 ?_
  refine v_iload_n G dX12_spelled_10 1 rfl ?_
  refine v_i2l G dX12_spelled_11 ?_
  refine v_ladd G dX12_spelled_12 ?_
  refine v_ldc2 G dX12_spelled_13 t_1709 ?_
  refine v_lsub G dX12_spelled_16 ?_
  refine v_nml (fun v1 ev1 => ?_)
  replace hf := lt_e hf ev1
  refine v_lstore [(6, .long v1), (0, .int p0), (1, .int p1), (2, .int p2), (3, .int p3), (4, .int p4), (5, .int p5)] G dX12_spelled_17 (by decide) rfl ?_
  refine v_iload_n G dX12_spelled_19 3 rfl ?_
  obtain ⟨j41, ej41, hf⟩ := lt_j hf
  have hj41 : ∀ (x2 : Int64), j41 x2 = y → KV ad cy x (some (.long y), M) 41 [(3, .int p3), (4, .int p4), (5, .int p5)] [.long x2] M := by
    intro x2 hf
    rw [ej41] at hf
    refine v_lstore [(6, .long x2), (3, .int p3), (4, .int p4), (5, .int p5)] G dX12_spelled_41 (by decide) rfl ?_
    refine v_iload_n G dX12_spelled_43 1 rfl ?_
    obtain ⟨j65, ej65, hf⟩ := lt_j hf
    have hj65 : ∀ (x3 : Int64), j65 x3 = y → KV ad cy x (some (.long y), M) 65 [(4, .int p4), (5, .int p5)] [.long x3] M := by
      intro x3 hf
      rw [ej65] at hf
      refine v_lstore [(6, .long x3), (4, .int p4), (5, .int p5)] G dX12_spelled_65 (by decide) rfl ?_
      refine v_iload G dX12_spelled_67 1 rfl ?_
      obtain ⟨j91, ej91, hf⟩ := lt_j hf
      have hj91 : ∀ (x4 : Int64), j91 x4 = y → KV ad cy x (some (.long y), M) 91 [(5, .int p5)] [.long x4] M := by
        intro x4 hf
        rw [ej91] at hf
        refine v_lstore [(6, .long x4), (5, .int p5)] G dX12_spelled_91 (by decide) rfl ?_
        refine v_iload G dX12_spelled_93 1 rfl ?_
        refine v_if_le 115 G dX12_spelled_95 (by decide) (fun h5 => ?_) (fun h5 => ?_)
        · replace hf := (if_pos h5).symm.trans hf
          refine v_lload G dX12_spelled_115 0 rfl ?_
          obtain rfl := hf
          exact v_lret G dX12_spelled_117
        · replace hf := (if_neg h5).symm.trans hf
          refine v_lload G dX12_spelled_98 0 rfl ?_
          refine v_ldc2 G dX12_spelled_100 t_1708 ?_
          refine v_lmul G dX12_spelled_103 ?_
          refine v_iload G dX12_spelled_104 1 rfl ?_
          refine v_i2l G dX12_spelled_106 ?_
          refine v_ladd G dX12_spelled_107 ?_
          refine v_ldc2 G dX12_spelled_108 t_1709 ?_
          refine v_lsub G dX12_spelled_111 ?_
          refine v_goto 117 G dX12_spelled_112 (by decide) ?_
          obtain rfl := hf
          exact v_lret G dX12_spelled_117
      refine v_if_le 89 G dX12_spelled_69 (by decide) (fun h6 => ?_) (fun h6 => ?_)
      · replace hf := (if_pos h6).symm.trans hf
        refine v_lload G dX12_spelled_89 0 rfl ?_
        refine v_sub _ [2] rfl ?_
        exact hj91 x3 hf
      · replace hf := (if_neg h6).symm.trans hf
        refine v_lload G dX12_spelled_72 0 rfl ?_
        refine v_ldc2 G dX12_spelled_74 t_1708 ?_
        refine v_lmul G dX12_spelled_77 ?_
        refine v_iload G dX12_spelled_78 1 rfl ?_
        refine v_i2l G dX12_spelled_80 ?_
        refine v_ladd G dX12_spelled_81 ?_
        refine v_ldc2 G dX12_spelled_82 t_1709 ?_
        refine v_lsub G dX12_spelled_85 ?_
        refine v_goto 91 G dX12_spelled_86 (by decide) ?_
        refine v_sub _ [2] rfl ?_
        exact hj91 (((x3 * (32 : Int64)) + (p4).toInt64) - (96 : Int64)) hf
    refine v_if_le 63 G dX12_spelled_44 (by decide) (fun h7 => ?_) (fun h7 => ?_)
    · replace hf := (if_pos h7).symm.trans hf
      refine v_lload G dX12_spelled_63 0 rfl ?_
      refine v_sub _ [2, 3] rfl ?_
      exact hj65 x2 hf
    · replace hf := (if_neg h7).symm.trans hf
      refine v_lload G dX12_spelled_47 0 rfl ?_
      refine v_ldc2 G dX12_spelled_49 t_1708 ?_
      refine v_lmul G dX12_spelled_52 ?_
      refine v_iload_n G dX12_spelled_53 1 rfl ?_
      refine v_i2l G dX12_spelled_54 ?_
      refine v_ladd G dX12_spelled_55 ?_
      refine v_ldc2 G dX12_spelled_56 t_1709 ?_
      refine v_lsub G dX12_spelled_59 ?_
      refine v_goto 65 G dX12_spelled_60 (by decide) ?_
      refine v_sub _ [2, 3] rfl ?_
      exact hj65 (((x2 * (32 : Int64)) + (p3).toInt64) - (96 : Int64)) hf
  refine v_if_le 39 G dX12_spelled_20 (by decide) (fun h8 => ?_) (fun h8 => ?_)
  · replace hf := (if_pos h8).symm.trans hf
    refine v_lload G dX12_spelled_39 0 rfl ?_
    refine v_sub _ [4, 5, 6] rfl ?_
    exact hj41 v1 hf
  · replace hf := (if_neg h8).symm.trans hf
    refine v_lload G dX12_spelled_23 0 rfl ?_
    refine v_ldc2 G dX12_spelled_25 t_1708 ?_
    refine v_lmul G dX12_spelled_28 ?_
    refine v_iload_n G dX12_spelled_29 3 rfl ?_
    refine v_i2l G dX12_spelled_30 ?_
    refine v_ladd G dX12_spelled_31 ?_
    refine v_ldc2 G dX12_spelled_32 t_1709 ?_
    refine v_lsub G dX12_spelled_35 ?_
    refine v_goto 41 G dX12_spelled_36 (by decide) ?_
    refine v_sub _ [4, 5, 6] rfl ?_
    exact hj41 (((v1 * (32 : Int64)) + (p2).toInt64) - (96 : Int64)) hf
abbrev cX12_isWord : ByteArray := prog_14_method_27_code
def yX12_isWord : MethodName := ⟨RX12, "isWord", "(J)Z"⟩
theorem dX12_isWord_0 : dc cX12_isWord 0 (.aload_n 0) 1 1 := ⟨by decide +kernel, rfl⟩
theorem dX12_isWord_1 : dc cX12_isWord 1 (.getfield 130) 3 4 := ⟨by decide +kernel, rfl⟩
theorem dX12_isWord_4 : dc cX12_isWord 4 (.iconst 1) 1 5 := ⟨by decide +kernel, rfl⟩
theorem dX12_isWord_5 : dc cX12_isWord 5 (.if_icmp .ne 16) 3 8 := ⟨by decide +kernel, rfl⟩
theorem dX12_isWord_8 : dc cX12_isWord 8 (.aload_n 0) 1 9 := ⟨by decide +kernel, rfl⟩
theorem dX12_isWord_9 : dc cX12_isWord 9 (.getfield 136) 3 12 := ⟨by decide +kernel, rfl⟩
theorem dX12_isWord_12 : dc cX12_isWord 12 (.lload_n 1) 1 13 := ⟨by decide +kernel, rfl⟩
theorem dX12_isWord_13 : dc cX12_isWord 13 (.lcmp) 1 14 := ⟨by decide +kernel, rfl⟩
theorem dX12_isWord_14 : dc cX12_isWord 14 (.ifCond .ne 7) 3 17 := ⟨by decide +kernel, rfl⟩
theorem dX12_isWord_17 : dc cX12_isWord 17 (.iconst 1) 1 18 := ⟨by decide +kernel, rfl⟩
theorem dX12_isWord_18 : dc cX12_isWord 18 (.goto 4) 3 21 := ⟨by decide +kernel, rfl⟩
theorem dX12_isWord_21 : dc cX12_isWord 21 (.iconst 0) 1 22 := ⟨by decide +kernel, rfl⟩
theorem dX12_isWord_22 : dc cX12_isWord 22 (.ireturn) 1 23 := ⟨by decide +kernel, rfl⟩
theorem nm_X12_isWord : (yX12_isWord).cls ≠ "java/lang/invoke/MethodHandle" ∧ (yX12_isWord).cls ≠ "java/lang/invoke/VarHandle" ∧ (parseMethodDescriptor (yX12_isWord).desc).map (fun d => d.parameters.length) = some 1 := ⟨by decide +kernel, by decide +kernel, by decide +kernel⟩
set_option maxRecDepth 100000 in
theorem z_X12_isWord {a0 : Nat} {p1 : Int64} {M : KM} {y : Int32} (hf : f_X12_isWord a0 p1 M = y) : (y = 0 ∨ y = 1) := by
  unfold f_X12_isWord at hf
  by_cases h2 : (M.1 a0 14) = (1 : Int32)
  · replace hf := (if_pos h2).symm.trans hf
    by_cases h1 : (lg_cmp (M.2.1 a0 19) p1) = 0
    · replace hf := (if_pos h1).symm.trans hf
      obtain rfl := hf
      exact (Or.inr rfl)
    · replace hf := (if_neg h1).symm.trans hf
      obtain rfl := hf
      exact (Or.inl rfl)
  · replace hf := (if_neg h2).symm.trans hf
    obtain rfl := hf
    exact (Or.inl rfl)
set_option maxRecDepth 100000 in
set_option maxHeartbeats 4000000 in
theorem c_X12_isWord {l : Launch} {ad : Nat → Nat} {cy : Nat → ClassId} {D : va_G} {z : Nat} {a0 : Nat} {p1 : Int64} {M : KM} {y : Int32} (h0 : kty a0 = 12) (hf : f_X12_isWord a0 p1 M = y) : KC l ad cy D z yX12_isWord cX12_isWord 3 (some .boolean) 1 [.ref (ad a0), .long p1] M (some (.int y), M) := by
  refine kv_enter (by decide +kernel) (Nat.le_of_ble_eq_true rfl) ?_
  intro x hl hD hz G
  subst hl hD hz
  unfold f_X12_isWord at hf
  have G : KG ad cy x cX12_isWord "NoonGuidesModel" 3 (some (some .boolean)) 1 := G
  show KV ad cy x (some (.int y), M) 0 [(0, .ref (ad a0)), (1, .long p1)] [] M
  refine v_aload_n G dX12_isWord_0 0 rfl ?_
  refine gf_12_14 G h0 t_1505 (Or.inl rfl) dX12_isWord_1 ?_
  refine v_iconst (1 : Int32) G dX12_isWord_4 (by decide) ?_
  refine v_icmp_ne 21 G dX12_isWord_5 (by decide) (fun h2 => ?_) (fun h2 => ?_)
  · replace hf := (if_neg h2).symm.trans hf
    refine v_iconst (0 : Int32) G dX12_isWord_21 (by decide) ?_
    obtain rfl := hf
    exact v_zret G (Or.inl rfl) dX12_isWord_22
  · replace hf := (if_pos h2).symm.trans hf
    refine v_aload_n G dX12_isWord_8 0 rfl ?_
    refine gf_12_19 G h0 t_1510 (Or.inl rfl) dX12_isWord_9 ?_
    refine v_lload_n G dX12_isWord_12 1 rfl ?_
    refine v_lcmp G dX12_isWord_13 ?_
    refine v_if_ne 21 G dX12_isWord_14 (by decide) (fun h1 => ?_) (fun h1 => ?_)
    · replace hf := (if_neg h1).symm.trans hf
      refine v_iconst (0 : Int32) G dX12_isWord_21 (by decide) ?_
      obtain rfl := hf
      exact v_zret G (Or.inl rfl) dX12_isWord_22
    · replace hf := (if_pos h1).symm.trans hf
      refine v_iconst (1 : Int32) G dX12_isWord_17 (by decide) ?_
      refine v_goto 22 G dX12_isWord_18 (by decide) ?_
      obtain rfl := hf
      exact v_zret G (Or.inr rfl) dX12_isWord_22
abbrev cX12_isTo : ByteArray := prog_14_method_28_code
def yX12_isTo : MethodName := ⟨RX12, "isTo", "()Z"⟩
theorem dX12_isTo_0 : dc cX12_isTo 0 (.aload_n 0) 1 1 := ⟨by decide +kernel, rfl⟩
theorem dX12_isTo_1 : dc cX12_isTo 1 (.bipush 116) 2 3 := ⟨by decide +kernel, rfl⟩
theorem dX12_isTo_3 : dc cX12_isTo 3 (.bipush 111) 2 5 := ⟨by decide +kernel, rfl⟩
theorem dX12_isTo_5 : dc cX12_isTo 5 (.iconst 0) 1 6 := ⟨by decide +kernel, rfl⟩
theorem dX12_isTo_6 : dc cX12_isTo 6 (.iconst 0) 1 7 := ⟨by decide +kernel, rfl⟩
theorem dX12_isTo_7 : dc cX12_isTo 7 (.iconst 0) 1 8 := ⟨by decide +kernel, rfl⟩
theorem dX12_isTo_8 : dc cX12_isTo 8 (.iconst 0) 1 9 := ⟨by decide +kernel, rfl⟩
theorem dX12_isTo_9 : dc cX12_isTo 9 (.invokestatic 155) 3 12 := ⟨by decide +kernel, rfl⟩
theorem dX12_isTo_12 : dc cX12_isTo 12 (.invokevirtual 159) 3 15 := ⟨by decide +kernel, rfl⟩
theorem dX12_isTo_15 : dc cX12_isTo 15 (.ireturn) 1 16 := ⟨by decide +kernel, rfl⟩
theorem nm_X12_isTo : (yX12_isTo).cls ≠ "java/lang/invoke/MethodHandle" ∧ (yX12_isTo).cls ≠ "java/lang/invoke/VarHandle" ∧ (parseMethodDescriptor (yX12_isTo).desc).map (fun d => d.parameters.length) = some 0 := ⟨by decide +kernel, by decide +kernel, by decide +kernel⟩
set_option maxRecDepth 100000 in
theorem z_X12_isTo {a0 : Nat} {M : KM} {y : Int32} (hf : f_X12_isTo a0 M = y) : (y = 0 ∨ y = 1) := by
  unfold f_X12_isTo at hf
  obtain ⟨v1, hcv1⟩ : ∃ q, f_X12_spelled (116 : Int32) (111 : Int32) (0 : Int32) (0 : Int32) (0 : Int32) (0 : Int32) M = q := ⟨_, rfl⟩
  replace hf := lt_e hf hcv1.symm
  obtain ⟨v2, hcv2⟩ : ∃ q, f_X12_isWord a0 v1 M = q := ⟨_, rfl⟩
  replace hf := lt_e hf hcv2.symm
  obtain rfl := hf
  exact (z_X12_isWord hcv2)
set_option maxRecDepth 100000 in
set_option maxHeartbeats 4000000 in
theorem c_X12_isTo {l : Launch} {ad : Nat → Nat} {cy : Nat → ClassId} {D : va_G} {z : Nat} {a0 : Nat} {M : KM} {y : Int32} (h0 : kty a0 = 12) (hf : f_X12_isTo a0 M = y) : KC l ad cy D z yX12_isTo cX12_isTo 1 (some .boolean) 2 [.ref (ad a0)] M (some (.int y), M) := by
  refine kv_enter (by decide +kernel) (Nat.le_of_ble_eq_true rfl) ?_
  intro x hl hD hz G
  subst hl hD hz
  unfold f_X12_isTo at hf
  have G : KG ad cy x cX12_isTo "NoonGuidesModel" 1 (some (some .boolean)) 2 := G
  show KV ad cy x (some (.int y), M) 0 [(0, .ref (ad a0))] [] M
  refine v_aload_n G dX12_isTo_0 0 rfl ?_
  refine v_bipush (116 : Int32) G dX12_isTo_1 (by decide) ?_
  refine v_bipush (111 : Int32) G dX12_isTo_3 (by decide) ?_
  refine v_iconst (0 : Int32) G dX12_isTo_5 (by decide) ?_
  refine v_iconst (0 : Int32) G dX12_isTo_6 (by decide) ?_
  refine v_iconst (0 : Int32) G dX12_isTo_7 (by decide) ?_
  refine v_iconst (0 : Int32) G dX12_isTo_8 (by decide) ?_
  obtain ⟨v1, hcv1⟩ : ∃ q, f_X12_spelled (116 : Int32) (111 : Int32) (0 : Int32) (0 : Int32) (0 : Int32) (0 : Int32) M = q := ⟨_, rfl⟩
  replace hf := lt_e hf hcv1.symm
  refine v_callS [.int (116 : Int32), .int (111 : Int32), .int (0 : Int32), .int (0 : Int32), .int (0 : Int32), .int (0 : Int32)] G (c_X12_spelled hcv1) t_1725 t_1726 t_17 t_1727 nm_X12_spelled (by decide) (by decide) rfl rfl (Nat.le_of_ble_eq_true rfl) dX12_isTo_9 (kv_rl ?_)
  obtain ⟨v2, hcv2⟩ : ∃ q, f_X12_isWord a0 v1 M = q := ⟨_, rfl⟩
  replace hf := lt_e hf hcv2.symm
  refine v_callV [.long v1] G (c_X12_isWord h0 hcv2) h0 (by decide) rfl rfl rfl t_1728 t_1730 t_p65 t_17 t_1731 nm_X12_isWord (by decide) (by decide) rfl rfl (Nat.le_of_ble_eq_true rfl) dX12_isTo_12 (kv_ri ?_)
  obtain rfl := hf
  exact v_zret G (z_X12_isWord hcv2) dX12_isTo_15
abbrev cX12_isClock : ByteArray := prog_14_method_29_code
def yX12_isClock : MethodName := ⟨RX12, "isClock", "()Z"⟩
theorem dX12_isClock_0 : dc cX12_isClock 0 (.aload_n 0) 1 1 := ⟨by decide +kernel, rfl⟩
theorem dX12_isClock_1 : dc cX12_isClock 1 (.bipush 99) 2 3 := ⟨by decide +kernel, rfl⟩
theorem dX12_isClock_3 : dc cX12_isClock 3 (.bipush 108) 2 5 := ⟨by decide +kernel, rfl⟩
theorem dX12_isClock_5 : dc cX12_isClock 5 (.bipush 111) 2 7 := ⟨by decide +kernel, rfl⟩
theorem dX12_isClock_7 : dc cX12_isClock 7 (.bipush 99) 2 9 := ⟨by decide +kernel, rfl⟩
theorem dX12_isClock_9 : dc cX12_isClock 9 (.bipush 107) 2 11 := ⟨by decide +kernel, rfl⟩
theorem dX12_isClock_11 : dc cX12_isClock 11 (.iconst 0) 1 12 := ⟨by decide +kernel, rfl⟩
theorem dX12_isClock_12 : dc cX12_isClock 12 (.invokestatic 155) 3 15 := ⟨by decide +kernel, rfl⟩
theorem dX12_isClock_15 : dc cX12_isClock 15 (.invokevirtual 159) 3 18 := ⟨by decide +kernel, rfl⟩
theorem dX12_isClock_18 : dc cX12_isClock 18 (.ireturn) 1 19 := ⟨by decide +kernel, rfl⟩
theorem nm_X12_isClock : (yX12_isClock).cls ≠ "java/lang/invoke/MethodHandle" ∧ (yX12_isClock).cls ≠ "java/lang/invoke/VarHandle" ∧ (parseMethodDescriptor (yX12_isClock).desc).map (fun d => d.parameters.length) = some 0 := ⟨by decide +kernel, by decide +kernel, by decide +kernel⟩
set_option maxRecDepth 100000 in
theorem z_X12_isClock {a0 : Nat} {M : KM} {y : Int32} (hf : f_X12_isClock a0 M = y) : (y = 0 ∨ y = 1) := by
  unfold f_X12_isClock at hf
  obtain ⟨v1, hcv1⟩ : ∃ q, f_X12_spelled (99 : Int32) (108 : Int32) (111 : Int32) (99 : Int32) (107 : Int32) (0 : Int32) M = q := ⟨_, rfl⟩
  replace hf := lt_e hf hcv1.symm
  obtain ⟨v2, hcv2⟩ : ∃ q, f_X12_isWord a0 v1 M = q := ⟨_, rfl⟩
  replace hf := lt_e hf hcv2.symm
  obtain rfl := hf
  exact (z_X12_isWord hcv2)
set_option maxRecDepth 100000 in
set_option maxHeartbeats 4000000 in
theorem c_X12_isClock {l : Launch} {ad : Nat → Nat} {cy : Nat → ClassId} {D : va_G} {z : Nat} {a0 : Nat} {M : KM} {y : Int32} (h0 : kty a0 = 12) (hf : f_X12_isClock a0 M = y) : KC l ad cy D z yX12_isClock cX12_isClock 1 (some .boolean) 2 [.ref (ad a0)] M (some (.int y), M) := by
  refine kv_enter (by decide +kernel) (Nat.le_of_ble_eq_true rfl) ?_
  intro x hl hD hz G
  subst hl hD hz
  unfold f_X12_isClock at hf
  have G : KG ad cy x cX12_isClock "NoonGuidesModel" 1 (some (some .boolean)) 2 := G
  show KV ad cy x (some (.int y), M) 0 [(0, .ref (ad a0))] [] M
  refine v_aload_n G dX12_isClock_0 0 rfl ?_
  refine v_bipush (99 : Int32) G dX12_isClock_1 (by decide) ?_
  refine v_bipush (108 : Int32) G dX12_isClock_3 (by decide) ?_
  refine v_bipush (111 : Int32) G dX12_isClock_5 (by decide) ?_
  refine v_bipush (99 : Int32) G dX12_isClock_7 (by decide) ?_
  refine v_bipush (107 : Int32) G dX12_isClock_9 (by decide) ?_
  refine v_iconst (0 : Int32) G dX12_isClock_11 (by decide) ?_
  obtain ⟨v1, hcv1⟩ : ∃ q, f_X12_spelled (99 : Int32) (108 : Int32) (111 : Int32) (99 : Int32) (107 : Int32) (0 : Int32) M = q := ⟨_, rfl⟩
  replace hf := lt_e hf hcv1.symm
  refine v_callS [.int (99 : Int32), .int (108 : Int32), .int (111 : Int32), .int (99 : Int32), .int (107 : Int32), .int (0 : Int32)] G (c_X12_spelled hcv1) t_1725 t_1726 t_17 t_1727 nm_X12_spelled (by decide) (by decide) rfl rfl (Nat.le_of_ble_eq_true rfl) dX12_isClock_12 (kv_rl ?_)
  obtain ⟨v2, hcv2⟩ : ∃ q, f_X12_isWord a0 v1 M = q := ⟨_, rfl⟩
  replace hf := lt_e hf hcv2.symm
  refine v_callV [.long v1] G (c_X12_isWord h0 hcv2) h0 (by decide) rfl rfl rfl t_1728 t_1730 t_p65 t_17 t_1731 nm_X12_isWord (by decide) (by decide) rfl rfl (Nat.le_of_ble_eq_true rfl) dX12_isClock_15 (kv_ri ?_)
  obtain rfl := hf
  exact v_zret G (z_X12_isWord hcv2) dX12_isClock_18
abbrev cX12_isRope : ByteArray := prog_14_method_30_code
def yX12_isRope : MethodName := ⟨RX12, "isRope", "()Z"⟩
theorem dX12_isRope_0 : dc cX12_isRope 0 (.aload_n 0) 1 1 := ⟨by decide +kernel, rfl⟩
theorem dX12_isRope_1 : dc cX12_isRope 1 (.bipush 114) 2 3 := ⟨by decide +kernel, rfl⟩
theorem dX12_isRope_3 : dc cX12_isRope 3 (.bipush 111) 2 5 := ⟨by decide +kernel, rfl⟩
theorem dX12_isRope_5 : dc cX12_isRope 5 (.bipush 112) 2 7 := ⟨by decide +kernel, rfl⟩
theorem dX12_isRope_7 : dc cX12_isRope 7 (.bipush 101) 2 9 := ⟨by decide +kernel, rfl⟩
theorem dX12_isRope_9 : dc cX12_isRope 9 (.iconst 0) 1 10 := ⟨by decide +kernel, rfl⟩
theorem dX12_isRope_10 : dc cX12_isRope 10 (.iconst 0) 1 11 := ⟨by decide +kernel, rfl⟩
theorem dX12_isRope_11 : dc cX12_isRope 11 (.invokestatic 155) 3 14 := ⟨by decide +kernel, rfl⟩
theorem dX12_isRope_14 : dc cX12_isRope 14 (.invokevirtual 159) 3 17 := ⟨by decide +kernel, rfl⟩
theorem dX12_isRope_17 : dc cX12_isRope 17 (.ireturn) 1 18 := ⟨by decide +kernel, rfl⟩
theorem nm_X12_isRope : (yX12_isRope).cls ≠ "java/lang/invoke/MethodHandle" ∧ (yX12_isRope).cls ≠ "java/lang/invoke/VarHandle" ∧ (parseMethodDescriptor (yX12_isRope).desc).map (fun d => d.parameters.length) = some 0 := ⟨by decide +kernel, by decide +kernel, by decide +kernel⟩
set_option maxRecDepth 100000 in
theorem z_X12_isRope {a0 : Nat} {M : KM} {y : Int32} (hf : f_X12_isRope a0 M = y) : (y = 0 ∨ y = 1) := by
  unfold f_X12_isRope at hf
  obtain ⟨v1, hcv1⟩ : ∃ q, f_X12_spelled (114 : Int32) (111 : Int32) (112 : Int32) (101 : Int32) (0 : Int32) (0 : Int32) M = q := ⟨_, rfl⟩
  replace hf := lt_e hf hcv1.symm
  obtain ⟨v2, hcv2⟩ : ∃ q, f_X12_isWord a0 v1 M = q := ⟨_, rfl⟩
  replace hf := lt_e hf hcv2.symm
  obtain rfl := hf
  exact (z_X12_isWord hcv2)
set_option maxRecDepth 100000 in
set_option maxHeartbeats 4000000 in
theorem c_X12_isRope {l : Launch} {ad : Nat → Nat} {cy : Nat → ClassId} {D : va_G} {z : Nat} {a0 : Nat} {M : KM} {y : Int32} (h0 : kty a0 = 12) (hf : f_X12_isRope a0 M = y) : KC l ad cy D z yX12_isRope cX12_isRope 1 (some .boolean) 2 [.ref (ad a0)] M (some (.int y), M) := by
  refine kv_enter (by decide +kernel) (Nat.le_of_ble_eq_true rfl) ?_
  intro x hl hD hz G
  subst hl hD hz
  unfold f_X12_isRope at hf
  have G : KG ad cy x cX12_isRope "NoonGuidesModel" 1 (some (some .boolean)) 2 := G
  show KV ad cy x (some (.int y), M) 0 [(0, .ref (ad a0))] [] M
  refine v_aload_n G dX12_isRope_0 0 rfl ?_
  refine v_bipush (114 : Int32) G dX12_isRope_1 (by decide) ?_
  refine v_bipush (111 : Int32) G dX12_isRope_3 (by decide) ?_
  refine v_bipush (112 : Int32) G dX12_isRope_5 (by decide) ?_
  refine v_bipush (101 : Int32) G dX12_isRope_7 (by decide) ?_
  refine v_iconst (0 : Int32) G dX12_isRope_9 (by decide) ?_
  refine v_iconst (0 : Int32) G dX12_isRope_10 (by decide) ?_
  obtain ⟨v1, hcv1⟩ : ∃ q, f_X12_spelled (114 : Int32) (111 : Int32) (112 : Int32) (101 : Int32) (0 : Int32) (0 : Int32) M = q := ⟨_, rfl⟩
  replace hf := lt_e hf hcv1.symm
  refine v_callS [.int (114 : Int32), .int (111 : Int32), .int (112 : Int32), .int (101 : Int32), .int (0 : Int32), .int (0 : Int32)] G (c_X12_spelled hcv1) t_1725 t_1726 t_17 t_1727 nm_X12_spelled (by decide) (by decide) rfl rfl (Nat.le_of_ble_eq_true rfl) dX12_isRope_11 (kv_rl ?_)
  obtain ⟨v2, hcv2⟩ : ∃ q, f_X12_isWord a0 v1 M = q := ⟨_, rfl⟩
  replace hf := lt_e hf hcv2.symm
  refine v_callV [.long v1] G (c_X12_isWord h0 hcv2) h0 (by decide) rfl rfl rfl t_1728 t_1730 t_p65 t_17 t_1731 nm_X12_isWord (by decide) (by decide) rfl rfl (Nat.le_of_ble_eq_true rfl) dX12_isRope_14 (kv_ri ?_)
  obtain rfl := hf
  exact v_zret G (z_X12_isWord hcv2) dX12_isRope_17
abbrev cX12_isHabit : ByteArray := prog_14_method_31_code
def yX12_isHabit : MethodName := ⟨RX12, "isHabit", "()Z"⟩
theorem dX12_isHabit_0 : dc cX12_isHabit 0 (.aload_n 0) 1 1 := ⟨by decide +kernel, rfl⟩
theorem dX12_isHabit_1 : dc cX12_isHabit 1 (.bipush 104) 2 3 := ⟨by decide +kernel, rfl⟩
theorem dX12_isHabit_3 : dc cX12_isHabit 3 (.bipush 97) 2 5 := ⟨by decide +kernel, rfl⟩
theorem dX12_isHabit_5 : dc cX12_isHabit 5 (.bipush 98) 2 7 := ⟨by decide +kernel, rfl⟩
theorem dX12_isHabit_7 : dc cX12_isHabit 7 (.bipush 105) 2 9 := ⟨by decide +kernel, rfl⟩
theorem dX12_isHabit_9 : dc cX12_isHabit 9 (.bipush 116) 2 11 := ⟨by decide +kernel, rfl⟩
theorem dX12_isHabit_11 : dc cX12_isHabit 11 (.iconst 0) 1 12 := ⟨by decide +kernel, rfl⟩
theorem dX12_isHabit_12 : dc cX12_isHabit 12 (.invokestatic 155) 3 15 := ⟨by decide +kernel, rfl⟩
theorem dX12_isHabit_15 : dc cX12_isHabit 15 (.invokevirtual 159) 3 18 := ⟨by decide +kernel, rfl⟩
theorem dX12_isHabit_18 : dc cX12_isHabit 18 (.ireturn) 1 19 := ⟨by decide +kernel, rfl⟩
theorem nm_X12_isHabit : (yX12_isHabit).cls ≠ "java/lang/invoke/MethodHandle" ∧ (yX12_isHabit).cls ≠ "java/lang/invoke/VarHandle" ∧ (parseMethodDescriptor (yX12_isHabit).desc).map (fun d => d.parameters.length) = some 0 := ⟨by decide +kernel, by decide +kernel, by decide +kernel⟩
set_option maxRecDepth 100000 in
theorem z_X12_isHabit {a0 : Nat} {M : KM} {y : Int32} (hf : f_X12_isHabit a0 M = y) : (y = 0 ∨ y = 1) := by
  unfold f_X12_isHabit at hf
  obtain ⟨v1, hcv1⟩ : ∃ q, f_X12_spelled (104 : Int32) (97 : Int32) (98 : Int32) (105 : Int32) (116 : Int32) (0 : Int32) M = q := ⟨_, rfl⟩
  replace hf := lt_e hf hcv1.symm
  obtain ⟨v2, hcv2⟩ : ∃ q, f_X12_isWord a0 v1 M = q := ⟨_, rfl⟩
  replace hf := lt_e hf hcv2.symm
  obtain rfl := hf
  exact (z_X12_isWord hcv2)
set_option maxRecDepth 100000 in
set_option maxHeartbeats 4000000 in
theorem c_X12_isHabit {l : Launch} {ad : Nat → Nat} {cy : Nat → ClassId} {D : va_G} {z : Nat} {a0 : Nat} {M : KM} {y : Int32} (h0 : kty a0 = 12) (hf : f_X12_isHabit a0 M = y) : KC l ad cy D z yX12_isHabit cX12_isHabit 1 (some .boolean) 2 [.ref (ad a0)] M (some (.int y), M) := by
  refine kv_enter (by decide +kernel) (Nat.le_of_ble_eq_true rfl) ?_
  intro x hl hD hz G
  subst hl hD hz
  unfold f_X12_isHabit at hf
  have G : KG ad cy x cX12_isHabit "NoonGuidesModel" 1 (some (some .boolean)) 2 := G
  show KV ad cy x (some (.int y), M) 0 [(0, .ref (ad a0))] [] M
  refine v_aload_n G dX12_isHabit_0 0 rfl ?_
  refine v_bipush (104 : Int32) G dX12_isHabit_1 (by decide) ?_
  refine v_bipush (97 : Int32) G dX12_isHabit_3 (by decide) ?_
  refine v_bipush (98 : Int32) G dX12_isHabit_5 (by decide) ?_
  refine v_bipush (105 : Int32) G dX12_isHabit_7 (by decide) ?_
  refine v_bipush (116 : Int32) G dX12_isHabit_9 (by decide) ?_
  refine v_iconst (0 : Int32) G dX12_isHabit_11 (by decide) ?_
  obtain ⟨v1, hcv1⟩ : ∃ q, f_X12_spelled (104 : Int32) (97 : Int32) (98 : Int32) (105 : Int32) (116 : Int32) (0 : Int32) M = q := ⟨_, rfl⟩
  replace hf := lt_e hf hcv1.symm
  refine v_callS [.int (104 : Int32), .int (97 : Int32), .int (98 : Int32), .int (105 : Int32), .int (116 : Int32), .int (0 : Int32)] G (c_X12_spelled hcv1) t_1725 t_1726 t_17 t_1727 nm_X12_spelled (by decide) (by decide) rfl rfl (Nat.le_of_ble_eq_true rfl) dX12_isHabit_12 (kv_rl ?_)
  obtain ⟨v2, hcv2⟩ : ∃ q, f_X12_isWord a0 v1 M = q := ⟨_, rfl⟩
  replace hf := lt_e hf hcv2.symm
  refine v_callV [.long v1] G (c_X12_isWord h0 hcv2) h0 (by decide) rfl rfl rfl t_1728 t_1730 t_p65 t_17 t_1731 nm_X12_isWord (by decide) (by decide) rfl rfl (Nat.le_of_ble_eq_true rfl) dX12_isHabit_15 (kv_ri ?_)
  obtain rfl := hf
  exact v_zret G (z_X12_isWord hcv2) dX12_isHabit_18
abbrev cX12_isOdds : ByteArray := prog_14_method_32_code
def yX12_isOdds : MethodName := ⟨RX12, "isOdds", "()Z"⟩
theorem dX12_isOdds_0 : dc cX12_isOdds 0 (.aload_n 0) 1 1 := ⟨by decide +kernel, rfl⟩
theorem dX12_isOdds_1 : dc cX12_isOdds 1 (.bipush 111) 2 3 := ⟨by decide +kernel, rfl⟩
theorem dX12_isOdds_3 : dc cX12_isOdds 3 (.bipush 100) 2 5 := ⟨by decide +kernel, rfl⟩
theorem dX12_isOdds_5 : dc cX12_isOdds 5 (.bipush 100) 2 7 := ⟨by decide +kernel, rfl⟩
theorem dX12_isOdds_7 : dc cX12_isOdds 7 (.bipush 115) 2 9 := ⟨by decide +kernel, rfl⟩
theorem dX12_isOdds_9 : dc cX12_isOdds 9 (.iconst 0) 1 10 := ⟨by decide +kernel, rfl⟩
theorem dX12_isOdds_10 : dc cX12_isOdds 10 (.iconst 0) 1 11 := ⟨by decide +kernel, rfl⟩
theorem dX12_isOdds_11 : dc cX12_isOdds 11 (.invokestatic 155) 3 14 := ⟨by decide +kernel, rfl⟩
theorem dX12_isOdds_14 : dc cX12_isOdds 14 (.invokevirtual 159) 3 17 := ⟨by decide +kernel, rfl⟩
theorem dX12_isOdds_17 : dc cX12_isOdds 17 (.ireturn) 1 18 := ⟨by decide +kernel, rfl⟩
theorem nm_X12_isOdds : (yX12_isOdds).cls ≠ "java/lang/invoke/MethodHandle" ∧ (yX12_isOdds).cls ≠ "java/lang/invoke/VarHandle" ∧ (parseMethodDescriptor (yX12_isOdds).desc).map (fun d => d.parameters.length) = some 0 := ⟨by decide +kernel, by decide +kernel, by decide +kernel⟩
set_option maxRecDepth 100000 in
theorem z_X12_isOdds {a0 : Nat} {M : KM} {y : Int32} (hf : f_X12_isOdds a0 M = y) : (y = 0 ∨ y = 1) := by
  unfold f_X12_isOdds at hf
  obtain ⟨v1, hcv1⟩ : ∃ q, f_X12_spelled (111 : Int32) (100 : Int32) (100 : Int32) (115 : Int32) (0 : Int32) (0 : Int32) M = q := ⟨_, rfl⟩
  replace hf := lt_e hf hcv1.symm
  obtain ⟨v2, hcv2⟩ : ∃ q, f_X12_isWord a0 v1 M = q := ⟨_, rfl⟩
  replace hf := lt_e hf hcv2.symm
  obtain rfl := hf
  exact (z_X12_isWord hcv2)
set_option maxRecDepth 100000 in
set_option maxHeartbeats 4000000 in
theorem c_X12_isOdds {l : Launch} {ad : Nat → Nat} {cy : Nat → ClassId} {D : va_G} {z : Nat} {a0 : Nat} {M : KM} {y : Int32} (h0 : kty a0 = 12) (hf : f_X12_isOdds a0 M = y) : KC l ad cy D z yX12_isOdds cX12_isOdds 1 (some .boolean) 2 [.ref (ad a0)] M (some (.int y), M) := by
  refine kv_enter (by decide +kernel) (Nat.le_of_ble_eq_true rfl) ?_
  intro x hl hD hz G
  subst hl hD hz
  unfold f_X12_isOdds at hf
  have G : KG ad cy x cX12_isOdds "NoonGuidesModel" 1 (some (some .boolean)) 2 := G
  show KV ad cy x (some (.int y), M) 0 [(0, .ref (ad a0))] [] M
  refine v_aload_n G dX12_isOdds_0 0 rfl ?_
  refine v_bipush (111 : Int32) G dX12_isOdds_1 (by decide) ?_
  refine v_bipush (100 : Int32) G dX12_isOdds_3 (by decide) ?_
  refine v_bipush (100 : Int32) G dX12_isOdds_5 (by decide) ?_
  refine v_bipush (115 : Int32) G dX12_isOdds_7 (by decide) ?_
  refine v_iconst (0 : Int32) G dX12_isOdds_9 (by decide) ?_
  refine v_iconst (0 : Int32) G dX12_isOdds_10 (by decide) ?_
  obtain ⟨v1, hcv1⟩ : ∃ q, f_X12_spelled (111 : Int32) (100 : Int32) (100 : Int32) (115 : Int32) (0 : Int32) (0 : Int32) M = q := ⟨_, rfl⟩
  replace hf := lt_e hf hcv1.symm
  refine v_callS [.int (111 : Int32), .int (100 : Int32), .int (100 : Int32), .int (115 : Int32), .int (0 : Int32), .int (0 : Int32)] G (c_X12_spelled hcv1) t_1725 t_1726 t_17 t_1727 nm_X12_spelled (by decide) (by decide) rfl rfl (Nat.le_of_ble_eq_true rfl) dX12_isOdds_11 (kv_rl ?_)
  obtain ⟨v2, hcv2⟩ : ∃ q, f_X12_isWord a0 v1 M = q := ⟨_, rfl⟩
  replace hf := lt_e hf hcv2.symm
  refine v_callV [.long v1] G (c_X12_isWord h0 hcv2) h0 (by decide) rfl rfl rfl t_1728 t_1730 t_p65 t_17 t_1731 nm_X12_isWord (by decide) (by decide) rfl rfl (Nat.le_of_ble_eq_true rfl) dX12_isOdds_14 (kv_ri ?_)
  obtain rfl := hf
  exact v_zret G (z_X12_isWord hcv2) dX12_isOdds_17
abbrev cX12_isPlace : ByteArray := prog_14_method_33_code
def yX12_isPlace : MethodName := ⟨RX12, "isPlace", "()Z"⟩
theorem dX12_isPlace_0 : dc cX12_isPlace 0 (.aload_n 0) 1 1 := ⟨by decide +kernel, rfl⟩
theorem dX12_isPlace_1 : dc cX12_isPlace 1 (.bipush 112) 2 3 := ⟨by decide +kernel, rfl⟩
theorem dX12_isPlace_3 : dc cX12_isPlace 3 (.bipush 108) 2 5 := ⟨by decide +kernel, rfl⟩
theorem dX12_isPlace_5 : dc cX12_isPlace 5 (.bipush 97) 2 7 := ⟨by decide +kernel, rfl⟩
theorem dX12_isPlace_7 : dc cX12_isPlace 7 (.bipush 99) 2 9 := ⟨by decide +kernel, rfl⟩
theorem dX12_isPlace_9 : dc cX12_isPlace 9 (.bipush 101) 2 11 := ⟨by decide +kernel, rfl⟩
theorem dX12_isPlace_11 : dc cX12_isPlace 11 (.iconst 0) 1 12 := ⟨by decide +kernel, rfl⟩
theorem dX12_isPlace_12 : dc cX12_isPlace 12 (.invokestatic 155) 3 15 := ⟨by decide +kernel, rfl⟩
theorem dX12_isPlace_15 : dc cX12_isPlace 15 (.invokevirtual 159) 3 18 := ⟨by decide +kernel, rfl⟩
theorem dX12_isPlace_18 : dc cX12_isPlace 18 (.ireturn) 1 19 := ⟨by decide +kernel, rfl⟩
theorem nm_X12_isPlace : (yX12_isPlace).cls ≠ "java/lang/invoke/MethodHandle" ∧ (yX12_isPlace).cls ≠ "java/lang/invoke/VarHandle" ∧ (parseMethodDescriptor (yX12_isPlace).desc).map (fun d => d.parameters.length) = some 0 := ⟨by decide +kernel, by decide +kernel, by decide +kernel⟩
set_option maxRecDepth 100000 in
theorem z_X12_isPlace {a0 : Nat} {M : KM} {y : Int32} (hf : f_X12_isPlace a0 M = y) : (y = 0 ∨ y = 1) := by
  unfold f_X12_isPlace at hf
  obtain ⟨v1, hcv1⟩ : ∃ q, f_X12_spelled (112 : Int32) (108 : Int32) (97 : Int32) (99 : Int32) (101 : Int32) (0 : Int32) M = q := ⟨_, rfl⟩
  replace hf := lt_e hf hcv1.symm
  obtain ⟨v2, hcv2⟩ : ∃ q, f_X12_isWord a0 v1 M = q := ⟨_, rfl⟩
  replace hf := lt_e hf hcv2.symm
  obtain rfl := hf
  exact (z_X12_isWord hcv2)
set_option maxRecDepth 100000 in
set_option maxHeartbeats 4000000 in
theorem c_X12_isPlace {l : Launch} {ad : Nat → Nat} {cy : Nat → ClassId} {D : va_G} {z : Nat} {a0 : Nat} {M : KM} {y : Int32} (h0 : kty a0 = 12) (hf : f_X12_isPlace a0 M = y) : KC l ad cy D z yX12_isPlace cX12_isPlace 1 (some .boolean) 2 [.ref (ad a0)] M (some (.int y), M) := by
  refine kv_enter (by decide +kernel) (Nat.le_of_ble_eq_true rfl) ?_
  intro x hl hD hz G
  subst hl hD hz
  unfold f_X12_isPlace at hf
  have G : KG ad cy x cX12_isPlace "NoonGuidesModel" 1 (some (some .boolean)) 2 := G
  show KV ad cy x (some (.int y), M) 0 [(0, .ref (ad a0))] [] M
  refine v_aload_n G dX12_isPlace_0 0 rfl ?_
  refine v_bipush (112 : Int32) G dX12_isPlace_1 (by decide) ?_
  refine v_bipush (108 : Int32) G dX12_isPlace_3 (by decide) ?_
  refine v_bipush (97 : Int32) G dX12_isPlace_5 (by decide) ?_
  refine v_bipush (99 : Int32) G dX12_isPlace_7 (by decide) ?_
  refine v_bipush (101 : Int32) G dX12_isPlace_9 (by decide) ?_
  refine v_iconst (0 : Int32) G dX12_isPlace_11 (by decide) ?_
  obtain ⟨v1, hcv1⟩ : ∃ q, f_X12_spelled (112 : Int32) (108 : Int32) (97 : Int32) (99 : Int32) (101 : Int32) (0 : Int32) M = q := ⟨_, rfl⟩
  replace hf := lt_e hf hcv1.symm
  refine v_callS [.int (112 : Int32), .int (108 : Int32), .int (97 : Int32), .int (99 : Int32), .int (101 : Int32), .int (0 : Int32)] G (c_X12_spelled hcv1) t_1725 t_1726 t_17 t_1727 nm_X12_spelled (by decide) (by decide) rfl rfl (Nat.le_of_ble_eq_true rfl) dX12_isPlace_12 (kv_rl ?_)
  obtain ⟨v2, hcv2⟩ : ∃ q, f_X12_isWord a0 v1 M = q := ⟨_, rfl⟩
  replace hf := lt_e hf hcv2.symm
  refine v_callV [.long v1] G (c_X12_isWord h0 hcv2) h0 (by decide) rfl rfl rfl t_1728 t_1730 t_p65 t_17 t_1731 nm_X12_isWord (by decide) (by decide) rfl rfl (Nat.le_of_ble_eq_true rfl) dX12_isPlace_15 (kv_ri ?_)
  obtain rfl := hf
  exact v_zret G (z_X12_isWord hcv2) dX12_isPlace_18
abbrev cX12_isRoad : ByteArray := prog_14_method_34_code
def yX12_isRoad : MethodName := ⟨RX12, "isRoad", "()Z"⟩
theorem dX12_isRoad_0 : dc cX12_isRoad 0 (.aload_n 0) 1 1 := ⟨by decide +kernel, rfl⟩
theorem dX12_isRoad_1 : dc cX12_isRoad 1 (.bipush 114) 2 3 := ⟨by decide +kernel, rfl⟩
theorem dX12_isRoad_3 : dc cX12_isRoad 3 (.bipush 111) 2 5 := ⟨by decide +kernel, rfl⟩
theorem dX12_isRoad_5 : dc cX12_isRoad 5 (.bipush 97) 2 7 := ⟨by decide +kernel, rfl⟩
theorem dX12_isRoad_7 : dc cX12_isRoad 7 (.bipush 100) 2 9 := ⟨by decide +kernel, rfl⟩
theorem dX12_isRoad_9 : dc cX12_isRoad 9 (.iconst 0) 1 10 := ⟨by decide +kernel, rfl⟩
theorem dX12_isRoad_10 : dc cX12_isRoad 10 (.iconst 0) 1 11 := ⟨by decide +kernel, rfl⟩
theorem dX12_isRoad_11 : dc cX12_isRoad 11 (.invokestatic 155) 3 14 := ⟨by decide +kernel, rfl⟩
theorem dX12_isRoad_14 : dc cX12_isRoad 14 (.invokevirtual 159) 3 17 := ⟨by decide +kernel, rfl⟩
theorem dX12_isRoad_17 : dc cX12_isRoad 17 (.ireturn) 1 18 := ⟨by decide +kernel, rfl⟩
theorem nm_X12_isRoad : (yX12_isRoad).cls ≠ "java/lang/invoke/MethodHandle" ∧ (yX12_isRoad).cls ≠ "java/lang/invoke/VarHandle" ∧ (parseMethodDescriptor (yX12_isRoad).desc).map (fun d => d.parameters.length) = some 0 := ⟨by decide +kernel, by decide +kernel, by decide +kernel⟩
set_option maxRecDepth 100000 in
theorem z_X12_isRoad {a0 : Nat} {M : KM} {y : Int32} (hf : f_X12_isRoad a0 M = y) : (y = 0 ∨ y = 1) := by
  unfold f_X12_isRoad at hf
  obtain ⟨v1, hcv1⟩ : ∃ q, f_X12_spelled (114 : Int32) (111 : Int32) (97 : Int32) (100 : Int32) (0 : Int32) (0 : Int32) M = q := ⟨_, rfl⟩
  replace hf := lt_e hf hcv1.symm
  obtain ⟨v2, hcv2⟩ : ∃ q, f_X12_isWord a0 v1 M = q := ⟨_, rfl⟩
  replace hf := lt_e hf hcv2.symm
  obtain rfl := hf
  exact (z_X12_isWord hcv2)
set_option maxRecDepth 100000 in
set_option maxHeartbeats 4000000 in
theorem c_X12_isRoad {l : Launch} {ad : Nat → Nat} {cy : Nat → ClassId} {D : va_G} {z : Nat} {a0 : Nat} {M : KM} {y : Int32} (h0 : kty a0 = 12) (hf : f_X12_isRoad a0 M = y) : KC l ad cy D z yX12_isRoad cX12_isRoad 1 (some .boolean) 2 [.ref (ad a0)] M (some (.int y), M) := by
  refine kv_enter (by decide +kernel) (Nat.le_of_ble_eq_true rfl) ?_
  intro x hl hD hz G
  subst hl hD hz
  unfold f_X12_isRoad at hf
  have G : KG ad cy x cX12_isRoad "NoonGuidesModel" 1 (some (some .boolean)) 2 := G
  show KV ad cy x (some (.int y), M) 0 [(0, .ref (ad a0))] [] M
  refine v_aload_n G dX12_isRoad_0 0 rfl ?_
  refine v_bipush (114 : Int32) G dX12_isRoad_1 (by decide) ?_
  refine v_bipush (111 : Int32) G dX12_isRoad_3 (by decide) ?_
  refine v_bipush (97 : Int32) G dX12_isRoad_5 (by decide) ?_
  refine v_bipush (100 : Int32) G dX12_isRoad_7 (by decide) ?_
  refine v_iconst (0 : Int32) G dX12_isRoad_9 (by decide) ?_
  refine v_iconst (0 : Int32) G dX12_isRoad_10 (by decide) ?_
  obtain ⟨v1, hcv1⟩ : ∃ q, f_X12_spelled (114 : Int32) (111 : Int32) (97 : Int32) (100 : Int32) (0 : Int32) (0 : Int32) M = q := ⟨_, rfl⟩
  replace hf := lt_e hf hcv1.symm
  refine v_callS [.int (114 : Int32), .int (111 : Int32), .int (97 : Int32), .int (100 : Int32), .int (0 : Int32), .int (0 : Int32)] G (c_X12_spelled hcv1) t_1725 t_1726 t_17 t_1727 nm_X12_spelled (by decide) (by decide) rfl rfl (Nat.le_of_ble_eq_true rfl) dX12_isRoad_11 (kv_rl ?_)
  obtain ⟨v2, hcv2⟩ : ∃ q, f_X12_isWord a0 v1 M = q := ⟨_, rfl⟩
  replace hf := lt_e hf hcv2.symm
  refine v_callV [.long v1] G (c_X12_isWord h0 hcv2) h0 (by decide) rfl rfl rfl t_1728 t_1730 t_p65 t_17 t_1731 nm_X12_isWord (by decide) (by decide) rfl rfl (Nat.le_of_ble_eq_true rfl) dX12_isRoad_14 (kv_ri ?_)
  obtain rfl := hf
  exact v_zret G (z_X12_isWord hcv2) dX12_isRoad_17
abbrev cX12_isMinutes : ByteArray := prog_14_method_35_code
def yX12_isMinutes : MethodName := ⟨RX12, "isMinutes", "()Z"⟩
theorem dX12_isMinutes_0 : dc cX12_isMinutes 0 (.aload_n 0) 1 1 := ⟨by decide +kernel, rfl⟩
theorem dX12_isMinutes_1 : dc cX12_isMinutes 1 (.bipush 109) 2 3 := ⟨by decide +kernel, rfl⟩
theorem dX12_isMinutes_3 : dc cX12_isMinutes 3 (.bipush 105) 2 5 := ⟨by decide +kernel, rfl⟩
theorem dX12_isMinutes_5 : dc cX12_isMinutes 5 (.bipush 110) 2 7 := ⟨by decide +kernel, rfl⟩
theorem dX12_isMinutes_7 : dc cX12_isMinutes 7 (.bipush 117) 2 9 := ⟨by decide +kernel, rfl⟩
theorem dX12_isMinutes_9 : dc cX12_isMinutes 9 (.bipush 116) 2 11 := ⟨by decide +kernel, rfl⟩
theorem dX12_isMinutes_11 : dc cX12_isMinutes 11 (.bipush 101) 2 13 := ⟨by decide +kernel, rfl⟩
theorem dX12_isMinutes_13 : dc cX12_isMinutes 13 (.invokestatic 155) 3 16 := ⟨by decide +kernel, rfl⟩
theorem dX12_isMinutes_16 : dc cX12_isMinutes 16 (.ldc2_w 139) 3 19 := ⟨by decide +kernel, rfl⟩
theorem dX12_isMinutes_19 : dc cX12_isMinutes 19 (.lmul) 1 20 := ⟨by decide +kernel, rfl⟩
theorem dX12_isMinutes_20 : dc cX12_isMinutes 20 (.ldc2_w 163) 3 23 := ⟨by decide +kernel, rfl⟩
theorem dX12_isMinutes_23 : dc cX12_isMinutes 23 (.ladd) 1 24 := ⟨by decide +kernel, rfl⟩
theorem dX12_isMinutes_24 : dc cX12_isMinutes 24 (.invokevirtual 159) 3 27 := ⟨by decide +kernel, rfl⟩
theorem dX12_isMinutes_27 : dc cX12_isMinutes 27 (.ireturn) 1 28 := ⟨by decide +kernel, rfl⟩
theorem nm_X12_isMinutes : (yX12_isMinutes).cls ≠ "java/lang/invoke/MethodHandle" ∧ (yX12_isMinutes).cls ≠ "java/lang/invoke/VarHandle" ∧ (parseMethodDescriptor (yX12_isMinutes).desc).map (fun d => d.parameters.length) = some 0 := ⟨by decide +kernel, by decide +kernel, by decide +kernel⟩
set_option maxRecDepth 100000 in
theorem z_X12_isMinutes {a0 : Nat} {M : KM} {y : Int32} (hf : f_X12_isMinutes a0 M = y) : (y = 0 ∨ y = 1) := by
  unfold f_X12_isMinutes at hf
  obtain ⟨v1, hcv1⟩ : ∃ q, f_X12_spelled (109 : Int32) (105 : Int32) (110 : Int32) (117 : Int32) (116 : Int32) (101 : Int32) M = q := ⟨_, rfl⟩
  replace hf := lt_e hf hcv1.symm
  obtain ⟨v2, hcv2⟩ : ∃ q, f_X12_isWord a0 ((v1 * (32 : Int64)) + (19 : Int64)) M = q := ⟨_, rfl⟩
  replace hf := lt_e hf hcv2.symm
  obtain rfl := hf
  exact (z_X12_isWord hcv2)
set_option maxRecDepth 100000 in
set_option maxHeartbeats 4000000 in
theorem c_X12_isMinutes {l : Launch} {ad : Nat → Nat} {cy : Nat → ClassId} {D : va_G} {z : Nat} {a0 : Nat} {M : KM} {y : Int32} (h0 : kty a0 = 12) (hf : f_X12_isMinutes a0 M = y) : KC l ad cy D z yX12_isMinutes cX12_isMinutes 1 (some .boolean) 2 [.ref (ad a0)] M (some (.int y), M) := by
  refine kv_enter (by decide +kernel) (Nat.le_of_ble_eq_true rfl) ?_
  intro x hl hD hz G
  subst hl hD hz
  unfold f_X12_isMinutes at hf
  have G : KG ad cy x cX12_isMinutes "NoonGuidesModel" 1 (some (some .boolean)) 2 := G
  show KV ad cy x (some (.int y), M) 0 [(0, .ref (ad a0))] [] M
  refine v_aload_n G dX12_isMinutes_0 0 rfl ?_
  refine v_bipush (109 : Int32) G dX12_isMinutes_1 (by decide) ?_
  refine v_bipush (105 : Int32) G dX12_isMinutes_3 (by decide) ?_
  refine v_bipush (110 : Int32) G dX12_isMinutes_5 (by decide) ?_
  refine v_bipush (117 : Int32) G dX12_isMinutes_7 (by decide) ?_
  refine v_bipush (116 : Int32) G dX12_isMinutes_9 (by decide) ?_
  refine v_bipush (101 : Int32) G dX12_isMinutes_11 (by decide) ?_
  obtain ⟨v1, hcv1⟩ : ∃ q, f_X12_spelled (109 : Int32) (105 : Int32) (110 : Int32) (117 : Int32) (116 : Int32) (101 : Int32) M = q := ⟨_, rfl⟩
  replace hf := lt_e hf hcv1.symm
  refine v_callS [.int (109 : Int32), .int (105 : Int32), .int (110 : Int32), .int (117 : Int32), .int (116 : Int32), .int (101 : Int32)] G (c_X12_spelled hcv1) t_1725 t_1726 t_17 t_1727 nm_X12_spelled (by decide) (by decide) rfl rfl (Nat.le_of_ble_eq_true rfl) dX12_isMinutes_13 (kv_rl ?_)
  refine v_ldc2 G dX12_isMinutes_16 t_1708 ?_
  refine v_lmul G dX12_isMinutes_19 ?_
  refine v_ldc2 G dX12_isMinutes_20 t_1822 ?_
  refine v_ladd G dX12_isMinutes_23 ?_
  obtain ⟨v2, hcv2⟩ : ∃ q, f_X12_isWord a0 ((v1 * (32 : Int64)) + (19 : Int64)) M = q := ⟨_, rfl⟩
  replace hf := lt_e hf hcv2.symm
  refine v_callV [.long ((v1 * (32 : Int64)) + (19 : Int64))] G (c_X12_isWord h0 hcv2) h0 (by decide) rfl rfl rfl t_1728 t_1730 t_p65 t_17 t_1731 nm_X12_isWord (by decide) (by decide) rfl rfl (Nat.le_of_ble_eq_true rfl) dX12_isMinutes_24 (kv_ri ?_)
  obtain rfl := hf
  exact v_zret G (z_X12_isWord hcv2) dX12_isMinutes_27
abbrev cX12_isSmells : ByteArray := prog_14_method_36_code
def yX12_isSmells : MethodName := ⟨RX12, "isSmells", "()Z"⟩
theorem dX12_isSmells_0 : dc cX12_isSmells 0 (.aload_n 0) 1 1 := ⟨by decide +kernel, rfl⟩
theorem dX12_isSmells_1 : dc cX12_isSmells 1 (.bipush 115) 2 3 := ⟨by decide +kernel, rfl⟩
theorem dX12_isSmells_3 : dc cX12_isSmells 3 (.bipush 109) 2 5 := ⟨by decide +kernel, rfl⟩
theorem dX12_isSmells_5 : dc cX12_isSmells 5 (.bipush 101) 2 7 := ⟨by decide +kernel, rfl⟩
theorem dX12_isSmells_7 : dc cX12_isSmells 7 (.bipush 108) 2 9 := ⟨by decide +kernel, rfl⟩
theorem dX12_isSmells_9 : dc cX12_isSmells 9 (.bipush 108) 2 11 := ⟨by decide +kernel, rfl⟩
theorem dX12_isSmells_11 : dc cX12_isSmells 11 (.bipush 115) 2 13 := ⟨by decide +kernel, rfl⟩
theorem dX12_isSmells_13 : dc cX12_isSmells 13 (.invokestatic 155) 3 16 := ⟨by decide +kernel, rfl⟩
theorem dX12_isSmells_16 : dc cX12_isSmells 16 (.invokevirtual 159) 3 19 := ⟨by decide +kernel, rfl⟩
theorem dX12_isSmells_19 : dc cX12_isSmells 19 (.ireturn) 1 20 := ⟨by decide +kernel, rfl⟩
theorem nm_X12_isSmells : (yX12_isSmells).cls ≠ "java/lang/invoke/MethodHandle" ∧ (yX12_isSmells).cls ≠ "java/lang/invoke/VarHandle" ∧ (parseMethodDescriptor (yX12_isSmells).desc).map (fun d => d.parameters.length) = some 0 := ⟨by decide +kernel, by decide +kernel, by decide +kernel⟩
set_option maxRecDepth 100000 in
theorem z_X12_isSmells {a0 : Nat} {M : KM} {y : Int32} (hf : f_X12_isSmells a0 M = y) : (y = 0 ∨ y = 1) := by
  unfold f_X12_isSmells at hf
  obtain ⟨v1, hcv1⟩ : ∃ q, f_X12_spelled (115 : Int32) (109 : Int32) (101 : Int32) (108 : Int32) (108 : Int32) (115 : Int32) M = q := ⟨_, rfl⟩
  replace hf := lt_e hf hcv1.symm
  obtain ⟨v2, hcv2⟩ : ∃ q, f_X12_isWord a0 v1 M = q := ⟨_, rfl⟩
  replace hf := lt_e hf hcv2.symm
  obtain rfl := hf
  exact (z_X12_isWord hcv2)
set_option maxRecDepth 100000 in
set_option maxHeartbeats 4000000 in
theorem c_X12_isSmells {l : Launch} {ad : Nat → Nat} {cy : Nat → ClassId} {D : va_G} {z : Nat} {a0 : Nat} {M : KM} {y : Int32} (h0 : kty a0 = 12) (hf : f_X12_isSmells a0 M = y) : KC l ad cy D z yX12_isSmells cX12_isSmells 1 (some .boolean) 2 [.ref (ad a0)] M (some (.int y), M) := by
  refine kv_enter (by decide +kernel) (Nat.le_of_ble_eq_true rfl) ?_
  intro x hl hD hz G
  subst hl hD hz
  unfold f_X12_isSmells at hf
  have G : KG ad cy x cX12_isSmells "NoonGuidesModel" 1 (some (some .boolean)) 2 := G
  show KV ad cy x (some (.int y), M) 0 [(0, .ref (ad a0))] [] M
  refine v_aload_n G dX12_isSmells_0 0 rfl ?_
  refine v_bipush (115 : Int32) G dX12_isSmells_1 (by decide) ?_
  refine v_bipush (109 : Int32) G dX12_isSmells_3 (by decide) ?_
  refine v_bipush (101 : Int32) G dX12_isSmells_5 (by decide) ?_
  refine v_bipush (108 : Int32) G dX12_isSmells_7 (by decide) ?_
  refine v_bipush (108 : Int32) G dX12_isSmells_9 (by decide) ?_
  refine v_bipush (115 : Int32) G dX12_isSmells_11 (by decide) ?_
  obtain ⟨v1, hcv1⟩ : ∃ q, f_X12_spelled (115 : Int32) (109 : Int32) (101 : Int32) (108 : Int32) (108 : Int32) (115 : Int32) M = q := ⟨_, rfl⟩
  replace hf := lt_e hf hcv1.symm
  refine v_callS [.int (115 : Int32), .int (109 : Int32), .int (101 : Int32), .int (108 : Int32), .int (108 : Int32), .int (115 : Int32)] G (c_X12_spelled hcv1) t_1725 t_1726 t_17 t_1727 nm_X12_spelled (by decide) (by decide) rfl rfl (Nat.le_of_ble_eq_true rfl) dX12_isSmells_13 (kv_rl ?_)
  obtain ⟨v2, hcv2⟩ : ∃ q, f_X12_isWord a0 v1 M = q := ⟨_, rfl⟩
  replace hf := lt_e hf hcv2.symm
  refine v_callV [.long v1] G (c_X12_isWord h0 hcv2) h0 (by decide) rfl rfl rfl t_1728 t_1730 t_p65 t_17 t_1731 nm_X12_isWord (by decide) (by decide) rfl rfl (Nat.le_of_ble_eq_true rfl) dX12_isSmells_16 (kv_ri ?_)
  obtain rfl := hf
  exact v_zret G (z_X12_isWord hcv2) dX12_isSmells_19
abbrev cX12_isSighted : ByteArray := prog_14_method_37_code
def yX12_isSighted : MethodName := ⟨RX12, "isSighted", "()Z"⟩
theorem dX12_isSighted_0 : dc cX12_isSighted 0 (.aload_n 0) 1 1 := ⟨by decide +kernel, rfl⟩
theorem dX12_isSighted_1 : dc cX12_isSighted 1 (.bipush 115) 2 3 := ⟨by decide +kernel, rfl⟩
theorem dX12_isSighted_3 : dc cX12_isSighted 3 (.bipush 105) 2 5 := ⟨by decide +kernel, rfl⟩
theorem dX12_isSighted_5 : dc cX12_isSighted 5 (.bipush 103) 2 7 := ⟨by decide +kernel, rfl⟩
theorem dX12_isSighted_7 : dc cX12_isSighted 7 (.bipush 104) 2 9 := ⟨by decide +kernel, rfl⟩
theorem dX12_isSighted_9 : dc cX12_isSighted 9 (.bipush 116) 2 11 := ⟨by decide +kernel, rfl⟩
theorem dX12_isSighted_11 : dc cX12_isSighted 11 (.bipush 101) 2 13 := ⟨by decide +kernel, rfl⟩
theorem dX12_isSighted_13 : dc cX12_isSighted 13 (.invokestatic 155) 3 16 := ⟨by decide +kernel, rfl⟩
theorem dX12_isSighted_16 : dc cX12_isSighted 16 (.ldc2_w 139) 3 19 := ⟨by decide +kernel, rfl⟩
theorem dX12_isSighted_19 : dc cX12_isSighted 19 (.lmul) 1 20 := ⟨by decide +kernel, rfl⟩
theorem dX12_isSighted_20 : dc cX12_isSighted 20 (.ldc2_w 165) 3 23 := ⟨by decide +kernel, rfl⟩
theorem dX12_isSighted_23 : dc cX12_isSighted 23 (.ladd) 1 24 := ⟨by decide +kernel, rfl⟩
theorem dX12_isSighted_24 : dc cX12_isSighted 24 (.invokevirtual 159) 3 27 := ⟨by decide +kernel, rfl⟩
theorem dX12_isSighted_27 : dc cX12_isSighted 27 (.ireturn) 1 28 := ⟨by decide +kernel, rfl⟩
theorem nm_X12_isSighted : (yX12_isSighted).cls ≠ "java/lang/invoke/MethodHandle" ∧ (yX12_isSighted).cls ≠ "java/lang/invoke/VarHandle" ∧ (parseMethodDescriptor (yX12_isSighted).desc).map (fun d => d.parameters.length) = some 0 := ⟨by decide +kernel, by decide +kernel, by decide +kernel⟩
set_option maxRecDepth 100000 in
theorem z_X12_isSighted {a0 : Nat} {M : KM} {y : Int32} (hf : f_X12_isSighted a0 M = y) : (y = 0 ∨ y = 1) := by
  unfold f_X12_isSighted at hf
  obtain ⟨v1, hcv1⟩ : ∃ q, f_X12_spelled (115 : Int32) (105 : Int32) (103 : Int32) (104 : Int32) (116 : Int32) (101 : Int32) M = q := ⟨_, rfl⟩
  replace hf := lt_e hf hcv1.symm
  obtain ⟨v2, hcv2⟩ : ∃ q, f_X12_isWord a0 ((v1 * (32 : Int64)) + (4 : Int64)) M = q := ⟨_, rfl⟩
  replace hf := lt_e hf hcv2.symm
  obtain rfl := hf
  exact (z_X12_isWord hcv2)
set_option maxRecDepth 100000 in
set_option maxHeartbeats 4000000 in
theorem c_X12_isSighted {l : Launch} {ad : Nat → Nat} {cy : Nat → ClassId} {D : va_G} {z : Nat} {a0 : Nat} {M : KM} {y : Int32} (h0 : kty a0 = 12) (hf : f_X12_isSighted a0 M = y) : KC l ad cy D z yX12_isSighted cX12_isSighted 1 (some .boolean) 2 [.ref (ad a0)] M (some (.int y), M) := by
  refine kv_enter (by decide +kernel) (Nat.le_of_ble_eq_true rfl) ?_
  intro x hl hD hz G
  subst hl hD hz
  unfold f_X12_isSighted at hf
  have G : KG ad cy x cX12_isSighted "NoonGuidesModel" 1 (some (some .boolean)) 2 := G
  show KV ad cy x (some (.int y), M) 0 [(0, .ref (ad a0))] [] M
  refine v_aload_n G dX12_isSighted_0 0 rfl ?_
  refine v_bipush (115 : Int32) G dX12_isSighted_1 (by decide) ?_
  refine v_bipush (105 : Int32) G dX12_isSighted_3 (by decide) ?_
  refine v_bipush (103 : Int32) G dX12_isSighted_5 (by decide) ?_
  refine v_bipush (104 : Int32) G dX12_isSighted_7 (by decide) ?_
  refine v_bipush (116 : Int32) G dX12_isSighted_9 (by decide) ?_
  refine v_bipush (101 : Int32) G dX12_isSighted_11 (by decide) ?_
  obtain ⟨v1, hcv1⟩ : ∃ q, f_X12_spelled (115 : Int32) (105 : Int32) (103 : Int32) (104 : Int32) (116 : Int32) (101 : Int32) M = q := ⟨_, rfl⟩
  replace hf := lt_e hf hcv1.symm
  refine v_callS [.int (115 : Int32), .int (105 : Int32), .int (103 : Int32), .int (104 : Int32), .int (116 : Int32), .int (101 : Int32)] G (c_X12_spelled hcv1) t_1725 t_1726 t_17 t_1727 nm_X12_spelled (by decide) (by decide) rfl rfl (Nat.le_of_ble_eq_true rfl) dX12_isSighted_13 (kv_rl ?_)
  refine v_ldc2 G dX12_isSighted_16 t_1708 ?_
  refine v_lmul G dX12_isSighted_19 ?_
  refine v_ldc2 G dX12_isSighted_20 t_1831 ?_
  refine v_ladd G dX12_isSighted_23 ?_
  obtain ⟨v2, hcv2⟩ : ∃ q, f_X12_isWord a0 ((v1 * (32 : Int64)) + (4 : Int64)) M = q := ⟨_, rfl⟩
  replace hf := lt_e hf hcv2.symm
  refine v_callV [.long ((v1 * (32 : Int64)) + (4 : Int64))] G (c_X12_isWord h0 hcv2) h0 (by decide) rfl rfl rfl t_1728 t_1730 t_p65 t_17 t_1731 nm_X12_isWord (by decide) (by decide) rfl rfl (Nat.le_of_ble_eq_true rfl) dX12_isSighted_24 (kv_ri ?_)
  obtain rfl := hf
  exact v_zret G (z_X12_isWord hcv2) dX12_isSighted_27
abbrev cX12_isGlasses : ByteArray := prog_14_method_38_code
def yX12_isGlasses : MethodName := ⟨RX12, "isGlasses", "()Z"⟩
theorem dX12_isGlasses_0 : dc cX12_isGlasses 0 (.aload_n 0) 1 1 := ⟨by decide +kernel, rfl⟩
theorem dX12_isGlasses_1 : dc cX12_isGlasses 1 (.bipush 103) 2 3 := ⟨by decide +kernel, rfl⟩
theorem dX12_isGlasses_3 : dc cX12_isGlasses 3 (.bipush 108) 2 5 := ⟨by decide +kernel, rfl⟩
theorem dX12_isGlasses_5 : dc cX12_isGlasses 5 (.bipush 97) 2 7 := ⟨by decide +kernel, rfl⟩
theorem dX12_isGlasses_7 : dc cX12_isGlasses 7 (.bipush 115) 2 9 := ⟨by decide +kernel, rfl⟩
theorem dX12_isGlasses_9 : dc cX12_isGlasses 9 (.bipush 115) 2 11 := ⟨by decide +kernel, rfl⟩
theorem dX12_isGlasses_11 : dc cX12_isGlasses 11 (.bipush 101) 2 13 := ⟨by decide +kernel, rfl⟩
theorem dX12_isGlasses_13 : dc cX12_isGlasses 13 (.invokestatic 155) 3 16 := ⟨by decide +kernel, rfl⟩
theorem dX12_isGlasses_16 : dc cX12_isGlasses 16 (.ldc2_w 139) 3 19 := ⟨by decide +kernel, rfl⟩
theorem dX12_isGlasses_19 : dc cX12_isGlasses 19 (.lmul) 1 20 := ⟨by decide +kernel, rfl⟩
theorem dX12_isGlasses_20 : dc cX12_isGlasses 20 (.ldc2_w 163) 3 23 := ⟨by decide +kernel, rfl⟩
theorem dX12_isGlasses_23 : dc cX12_isGlasses 23 (.ladd) 1 24 := ⟨by decide +kernel, rfl⟩
theorem dX12_isGlasses_24 : dc cX12_isGlasses 24 (.invokevirtual 159) 3 27 := ⟨by decide +kernel, rfl⟩
theorem dX12_isGlasses_27 : dc cX12_isGlasses 27 (.ireturn) 1 28 := ⟨by decide +kernel, rfl⟩
theorem nm_X12_isGlasses : (yX12_isGlasses).cls ≠ "java/lang/invoke/MethodHandle" ∧ (yX12_isGlasses).cls ≠ "java/lang/invoke/VarHandle" ∧ (parseMethodDescriptor (yX12_isGlasses).desc).map (fun d => d.parameters.length) = some 0 := ⟨by decide +kernel, by decide +kernel, by decide +kernel⟩
set_option maxRecDepth 100000 in
theorem z_X12_isGlasses {a0 : Nat} {M : KM} {y : Int32} (hf : f_X12_isGlasses a0 M = y) : (y = 0 ∨ y = 1) := by
  unfold f_X12_isGlasses at hf
  obtain ⟨v1, hcv1⟩ : ∃ q, f_X12_spelled (103 : Int32) (108 : Int32) (97 : Int32) (115 : Int32) (115 : Int32) (101 : Int32) M = q := ⟨_, rfl⟩
  replace hf := lt_e hf hcv1.symm
  obtain ⟨v2, hcv2⟩ : ∃ q, f_X12_isWord a0 ((v1 * (32 : Int64)) + (19 : Int64)) M = q := ⟨_, rfl⟩
  replace hf := lt_e hf hcv2.symm
  obtain rfl := hf
  exact (z_X12_isWord hcv2)
set_option maxRecDepth 100000 in
set_option maxHeartbeats 4000000 in
theorem c_X12_isGlasses {l : Launch} {ad : Nat → Nat} {cy : Nat → ClassId} {D : va_G} {z : Nat} {a0 : Nat} {M : KM} {y : Int32} (h0 : kty a0 = 12) (hf : f_X12_isGlasses a0 M = y) : KC l ad cy D z yX12_isGlasses cX12_isGlasses 1 (some .boolean) 2 [.ref (ad a0)] M (some (.int y), M) := by
  refine kv_enter (by decide +kernel) (Nat.le_of_ble_eq_true rfl) ?_
  intro x hl hD hz G
  subst hl hD hz
  unfold f_X12_isGlasses at hf
  have G : KG ad cy x cX12_isGlasses "NoonGuidesModel" 1 (some (some .boolean)) 2 := G
  show KV ad cy x (some (.int y), M) 0 [(0, .ref (ad a0))] [] M
  refine v_aload_n G dX12_isGlasses_0 0 rfl ?_
  refine v_bipush (103 : Int32) G dX12_isGlasses_1 (by decide) ?_
  refine v_bipush (108 : Int32) G dX12_isGlasses_3 (by decide) ?_
  refine v_bipush (97 : Int32) G dX12_isGlasses_5 (by decide) ?_
  refine v_bipush (115 : Int32) G dX12_isGlasses_7 (by decide) ?_
  refine v_bipush (115 : Int32) G dX12_isGlasses_9 (by decide) ?_
  refine v_bipush (101 : Int32) G dX12_isGlasses_11 (by decide) ?_
  obtain ⟨v1, hcv1⟩ : ∃ q, f_X12_spelled (103 : Int32) (108 : Int32) (97 : Int32) (115 : Int32) (115 : Int32) (101 : Int32) M = q := ⟨_, rfl⟩
  replace hf := lt_e hf hcv1.symm
  refine v_callS [.int (103 : Int32), .int (108 : Int32), .int (97 : Int32), .int (115 : Int32), .int (115 : Int32), .int (101 : Int32)] G (c_X12_spelled hcv1) t_1725 t_1726 t_17 t_1727 nm_X12_spelled (by decide) (by decide) rfl rfl (Nat.le_of_ble_eq_true rfl) dX12_isGlasses_13 (kv_rl ?_)
  refine v_ldc2 G dX12_isGlasses_16 t_1708 ?_
  refine v_lmul G dX12_isGlasses_19 ?_
  refine v_ldc2 G dX12_isGlasses_20 t_1822 ?_
  refine v_ladd G dX12_isGlasses_23 ?_
  obtain ⟨v2, hcv2⟩ : ∃ q, f_X12_isWord a0 ((v1 * (32 : Int64)) + (19 : Int64)) M = q := ⟨_, rfl⟩
  replace hf := lt_e hf hcv2.symm
  refine v_callV [.long ((v1 * (32 : Int64)) + (19 : Int64))] G (c_X12_isWord h0 hcv2) h0 (by decide) rfl rfl rfl t_1728 t_1730 t_p65 t_17 t_1731 nm_X12_isWord (by decide) (by decide) rfl rfl (Nat.le_of_ble_eq_true rfl) dX12_isGlasses_24 (kv_ri ?_)
  obtain rfl := hf
  exact v_zret G (z_X12_isWord hcv2) dX12_isGlasses_27
abbrev cX12_isBlind : ByteArray := prog_14_method_39_code
def yX12_isBlind : MethodName := ⟨RX12, "isBlind", "()Z"⟩
theorem dX12_isBlind_0 : dc cX12_isBlind 0 (.aload_n 0) 1 1 := ⟨by decide +kernel, rfl⟩
theorem dX12_isBlind_1 : dc cX12_isBlind 1 (.bipush 98) 2 3 := ⟨by decide +kernel, rfl⟩
theorem dX12_isBlind_3 : dc cX12_isBlind 3 (.bipush 108) 2 5 := ⟨by decide +kernel, rfl⟩
theorem dX12_isBlind_5 : dc cX12_isBlind 5 (.bipush 105) 2 7 := ⟨by decide +kernel, rfl⟩
theorem dX12_isBlind_7 : dc cX12_isBlind 7 (.bipush 110) 2 9 := ⟨by decide +kernel, rfl⟩
theorem dX12_isBlind_9 : dc cX12_isBlind 9 (.bipush 100) 2 11 := ⟨by decide +kernel, rfl⟩
theorem dX12_isBlind_11 : dc cX12_isBlind 11 (.iconst 0) 1 12 := ⟨by decide +kernel, rfl⟩
theorem dX12_isBlind_12 : dc cX12_isBlind 12 (.invokestatic 155) 3 15 := ⟨by decide +kernel, rfl⟩
theorem dX12_isBlind_15 : dc cX12_isBlind 15 (.invokevirtual 159) 3 18 := ⟨by decide +kernel, rfl⟩
theorem dX12_isBlind_18 : dc cX12_isBlind 18 (.ireturn) 1 19 := ⟨by decide +kernel, rfl⟩
theorem nm_X12_isBlind : (yX12_isBlind).cls ≠ "java/lang/invoke/MethodHandle" ∧ (yX12_isBlind).cls ≠ "java/lang/invoke/VarHandle" ∧ (parseMethodDescriptor (yX12_isBlind).desc).map (fun d => d.parameters.length) = some 0 := ⟨by decide +kernel, by decide +kernel, by decide +kernel⟩
set_option maxRecDepth 100000 in
theorem z_X12_isBlind {a0 : Nat} {M : KM} {y : Int32} (hf : f_X12_isBlind a0 M = y) : (y = 0 ∨ y = 1) := by
  unfold f_X12_isBlind at hf
  obtain ⟨v1, hcv1⟩ : ∃ q, f_X12_spelled (98 : Int32) (108 : Int32) (105 : Int32) (110 : Int32) (100 : Int32) (0 : Int32) M = q := ⟨_, rfl⟩
  replace hf := lt_e hf hcv1.symm
  obtain ⟨v2, hcv2⟩ : ∃ q, f_X12_isWord a0 v1 M = q := ⟨_, rfl⟩
  replace hf := lt_e hf hcv2.symm
  obtain rfl := hf
  exact (z_X12_isWord hcv2)
set_option maxRecDepth 100000 in
set_option maxHeartbeats 4000000 in
theorem c_X12_isBlind {l : Launch} {ad : Nat → Nat} {cy : Nat → ClassId} {D : va_G} {z : Nat} {a0 : Nat} {M : KM} {y : Int32} (h0 : kty a0 = 12) (hf : f_X12_isBlind a0 M = y) : KC l ad cy D z yX12_isBlind cX12_isBlind 1 (some .boolean) 2 [.ref (ad a0)] M (some (.int y), M) := by
  refine kv_enter (by decide +kernel) (Nat.le_of_ble_eq_true rfl) ?_
  intro x hl hD hz G
  subst hl hD hz
  unfold f_X12_isBlind at hf
  have G : KG ad cy x cX12_isBlind "NoonGuidesModel" 1 (some (some .boolean)) 2 := G
  show KV ad cy x (some (.int y), M) 0 [(0, .ref (ad a0))] [] M
  refine v_aload_n G dX12_isBlind_0 0 rfl ?_
  refine v_bipush (98 : Int32) G dX12_isBlind_1 (by decide) ?_
  refine v_bipush (108 : Int32) G dX12_isBlind_3 (by decide) ?_
  refine v_bipush (105 : Int32) G dX12_isBlind_5 (by decide) ?_
  refine v_bipush (110 : Int32) G dX12_isBlind_7 (by decide) ?_
  refine v_bipush (100 : Int32) G dX12_isBlind_9 (by decide) ?_
  refine v_iconst (0 : Int32) G dX12_isBlind_11 (by decide) ?_
  obtain ⟨v1, hcv1⟩ : ∃ q, f_X12_spelled (98 : Int32) (108 : Int32) (105 : Int32) (110 : Int32) (100 : Int32) (0 : Int32) M = q := ⟨_, rfl⟩
  replace hf := lt_e hf hcv1.symm
  refine v_callS [.int (98 : Int32), .int (108 : Int32), .int (105 : Int32), .int (110 : Int32), .int (100 : Int32), .int (0 : Int32)] G (c_X12_spelled hcv1) t_1725 t_1726 t_17 t_1727 nm_X12_spelled (by decide) (by decide) rfl rfl (Nat.le_of_ble_eq_true rfl) dX12_isBlind_12 (kv_rl ?_)
  obtain ⟨v2, hcv2⟩ : ∃ q, f_X12_isWord a0 v1 M = q := ⟨_, rfl⟩
  replace hf := lt_e hf hcv2.symm
  refine v_callV [.long v1] G (c_X12_isWord h0 hcv2) h0 (by decide) rfl rfl rfl t_1728 t_1730 t_p65 t_17 t_1731 nm_X12_isWord (by decide) (by decide) rfl rfl (Nat.le_of_ble_eq_true rfl) dX12_isBlind_15 (kv_ri ?_)
  obtain rfl := hf
  exact v_zret G (z_X12_isWord hcv2) dX12_isBlind_18
abbrev cX12_isKnows : ByteArray := prog_14_method_40_code
def yX12_isKnows : MethodName := ⟨RX12, "isKnows", "()Z"⟩
theorem dX12_isKnows_0 : dc cX12_isKnows 0 (.aload_n 0) 1 1 := ⟨by decide +kernel, rfl⟩
theorem dX12_isKnows_1 : dc cX12_isKnows 1 (.bipush 107) 2 3 := ⟨by decide +kernel, rfl⟩
theorem dX12_isKnows_3 : dc cX12_isKnows 3 (.bipush 110) 2 5 := ⟨by decide +kernel, rfl⟩
theorem dX12_isKnows_5 : dc cX12_isKnows 5 (.bipush 111) 2 7 := ⟨by decide +kernel, rfl⟩
theorem dX12_isKnows_7 : dc cX12_isKnows 7 (.bipush 119) 2 9 := ⟨by decide +kernel, rfl⟩
theorem dX12_isKnows_9 : dc cX12_isKnows 9 (.bipush 115) 2 11 := ⟨by decide +kernel, rfl⟩
theorem dX12_isKnows_11 : dc cX12_isKnows 11 (.iconst 0) 1 12 := ⟨by decide +kernel, rfl⟩
theorem dX12_isKnows_12 : dc cX12_isKnows 12 (.invokestatic 155) 3 15 := ⟨by decide +kernel, rfl⟩
theorem dX12_isKnows_15 : dc cX12_isKnows 15 (.invokevirtual 159) 3 18 := ⟨by decide +kernel, rfl⟩
theorem dX12_isKnows_18 : dc cX12_isKnows 18 (.ireturn) 1 19 := ⟨by decide +kernel, rfl⟩
theorem nm_X12_isKnows : (yX12_isKnows).cls ≠ "java/lang/invoke/MethodHandle" ∧ (yX12_isKnows).cls ≠ "java/lang/invoke/VarHandle" ∧ (parseMethodDescriptor (yX12_isKnows).desc).map (fun d => d.parameters.length) = some 0 := ⟨by decide +kernel, by decide +kernel, by decide +kernel⟩
set_option maxRecDepth 100000 in
theorem z_X12_isKnows {a0 : Nat} {M : KM} {y : Int32} (hf : f_X12_isKnows a0 M = y) : (y = 0 ∨ y = 1) := by
  unfold f_X12_isKnows at hf
  obtain ⟨v1, hcv1⟩ : ∃ q, f_X12_spelled (107 : Int32) (110 : Int32) (111 : Int32) (119 : Int32) (115 : Int32) (0 : Int32) M = q := ⟨_, rfl⟩
  replace hf := lt_e hf hcv1.symm
  obtain ⟨v2, hcv2⟩ : ∃ q, f_X12_isWord a0 v1 M = q := ⟨_, rfl⟩
  replace hf := lt_e hf hcv2.symm
  obtain rfl := hf
  exact (z_X12_isWord hcv2)
set_option maxRecDepth 100000 in
set_option maxHeartbeats 4000000 in
theorem c_X12_isKnows {l : Launch} {ad : Nat → Nat} {cy : Nat → ClassId} {D : va_G} {z : Nat} {a0 : Nat} {M : KM} {y : Int32} (h0 : kty a0 = 12) (hf : f_X12_isKnows a0 M = y) : KC l ad cy D z yX12_isKnows cX12_isKnows 1 (some .boolean) 2 [.ref (ad a0)] M (some (.int y), M) := by
  refine kv_enter (by decide +kernel) (Nat.le_of_ble_eq_true rfl) ?_
  intro x hl hD hz G
  subst hl hD hz
  unfold f_X12_isKnows at hf
  have G : KG ad cy x cX12_isKnows "NoonGuidesModel" 1 (some (some .boolean)) 2 := G
  show KV ad cy x (some (.int y), M) 0 [(0, .ref (ad a0))] [] M
  refine v_aload_n G dX12_isKnows_0 0 rfl ?_
  refine v_bipush (107 : Int32) G dX12_isKnows_1 (by decide) ?_
  refine v_bipush (110 : Int32) G dX12_isKnows_3 (by decide) ?_
  refine v_bipush (111 : Int32) G dX12_isKnows_5 (by decide) ?_
  refine v_bipush (119 : Int32) G dX12_isKnows_7 (by decide) ?_
  refine v_bipush (115 : Int32) G dX12_isKnows_9 (by decide) ?_
  refine v_iconst (0 : Int32) G dX12_isKnows_11 (by decide) ?_
  obtain ⟨v1, hcv1⟩ : ∃ q, f_X12_spelled (107 : Int32) (110 : Int32) (111 : Int32) (119 : Int32) (115 : Int32) (0 : Int32) M = q := ⟨_, rfl⟩
  replace hf := lt_e hf hcv1.symm
  refine v_callS [.int (107 : Int32), .int (110 : Int32), .int (111 : Int32), .int (119 : Int32), .int (115 : Int32), .int (0 : Int32)] G (c_X12_spelled hcv1) t_1725 t_1726 t_17 t_1727 nm_X12_spelled (by decide) (by decide) rfl rfl (Nat.le_of_ble_eq_true rfl) dX12_isKnows_12 (kv_rl ?_)
  obtain ⟨v2, hcv2⟩ : ∃ q, f_X12_isWord a0 v1 M = q := ⟨_, rfl⟩
  replace hf := lt_e hf hcv2.symm
  refine v_callV [.long v1] G (c_X12_isWord h0 hcv2) h0 (by decide) rfl rfl rfl t_1728 t_1730 t_p65 t_17 t_1731 nm_X12_isWord (by decide) (by decide) rfl rfl (Nat.le_of_ble_eq_true rfl) dX12_isKnows_15 (kv_ri ?_)
  obtain rfl := hf
  exact v_zret G (z_X12_isWord hcv2) dX12_isKnows_18
abbrev cX12_stepWord : ByteArray := prog_14_method_41_code
def yX12_stepWord : MethodName := ⟨RX12, "stepWord", "()I"⟩
theorem dX12_stepWord_0 : dc cX12_stepWord 0 (.aload_n 0) 1 1 := ⟨by decide +kernel, rfl⟩
theorem dX12_stepWord_1 : dc cX12_stepWord 1 (.bipush 119) 2 3 := ⟨by decide +kernel, rfl⟩
theorem dX12_stepWord_3 : dc cX12_stepWord 3 (.bipush 97) 2 5 := ⟨by decide +kernel, rfl⟩
theorem dX12_stepWord_5 : dc cX12_stepWord 5 (.bipush 105) 2 7 := ⟨by decide +kernel, rfl⟩
theorem dX12_stepWord_7 : dc cX12_stepWord 7 (.bipush 116) 2 9 := ⟨by decide +kernel, rfl⟩
theorem dX12_stepWord_9 : dc cX12_stepWord 9 (.iconst 0) 1 10 := ⟨by decide +kernel, rfl⟩
theorem dX12_stepWord_10 : dc cX12_stepWord 10 (.iconst 0) 1 11 := ⟨by decide +kernel, rfl⟩
theorem dX12_stepWord_11 : dc cX12_stepWord 11 (.invokestatic 155) 3 14 := ⟨by decide +kernel, rfl⟩
theorem dX12_stepWord_14 : dc cX12_stepWord 14 (.invokevirtual 159) 3 17 := ⟨by decide +kernel, rfl⟩
theorem dX12_stepWord_17 : dc cX12_stepWord 17 (.ifCond .eq 5) 3 20 := ⟨by decide +kernel, rfl⟩
theorem dX12_stepWord_20 : dc cX12_stepWord 20 (.iconst 0) 1 21 := ⟨by decide +kernel, rfl⟩
theorem dX12_stepWord_21 : dc cX12_stepWord 21 (.ireturn) 1 22 := ⟨by decide +kernel, rfl⟩
theorem dX12_stepWord_22 : dc cX12_stepWord 22 (.aload_n 0) 1 23 := ⟨by decide +kernel, rfl⟩
theorem dX12_stepWord_23 : dc cX12_stepWord 23 (.bipush 103) 2 25 := ⟨by decide +kernel, rfl⟩
theorem dX12_stepWord_25 : dc cX12_stepWord 25 (.bipush 111) 2 27 := ⟨by decide +kernel, rfl⟩
theorem dX12_stepWord_27 : dc cX12_stepWord 27 (.iconst 0) 1 28 := ⟨by decide +kernel, rfl⟩
theorem dX12_stepWord_28 : dc cX12_stepWord 28 (.iconst 0) 1 29 := ⟨by decide +kernel, rfl⟩
theorem dX12_stepWord_29 : dc cX12_stepWord 29 (.iconst 0) 1 30 := ⟨by decide +kernel, rfl⟩
theorem dX12_stepWord_30 : dc cX12_stepWord 30 (.iconst 0) 1 31 := ⟨by decide +kernel, rfl⟩
theorem dX12_stepWord_31 : dc cX12_stepWord 31 (.invokestatic 155) 3 34 := ⟨by decide +kernel, rfl⟩
theorem dX12_stepWord_34 : dc cX12_stepWord 34 (.invokevirtual 159) 3 37 := ⟨by decide +kernel, rfl⟩
theorem dX12_stepWord_37 : dc cX12_stepWord 37 (.ifCond .eq 5) 3 40 := ⟨by decide +kernel, rfl⟩
theorem dX12_stepWord_40 : dc cX12_stepWord 40 (.iconst 1) 1 41 := ⟨by decide +kernel, rfl⟩
theorem dX12_stepWord_41 : dc cX12_stepWord 41 (.ireturn) 1 42 := ⟨by decide +kernel, rfl⟩
theorem dX12_stepWord_42 : dc cX12_stepWord 42 (.aload_n 0) 1 43 := ⟨by decide +kernel, rfl⟩
theorem dX12_stepWord_43 : dc cX12_stepWord 43 (.bipush 108) 2 45 := ⟨by decide +kernel, rfl⟩
theorem dX12_stepWord_45 : dc cX12_stepWord 45 (.bipush 101) 2 47 := ⟨by decide +kernel, rfl⟩
theorem dX12_stepWord_47 : dc cX12_stepWord 47 (.bipush 97) 2 49 := ⟨by decide +kernel, rfl⟩
theorem dX12_stepWord_49 : dc cX12_stepWord 49 (.bipush 100) 2 51 := ⟨by decide +kernel, rfl⟩
theorem dX12_stepWord_51 : dc cX12_stepWord 51 (.iconst 0) 1 52 := ⟨by decide +kernel, rfl⟩
theorem dX12_stepWord_52 : dc cX12_stepWord 52 (.iconst 0) 1 53 := ⟨by decide +kernel, rfl⟩
theorem dX12_stepWord_53 : dc cX12_stepWord 53 (.invokestatic 155) 3 56 := ⟨by decide +kernel, rfl⟩
theorem dX12_stepWord_56 : dc cX12_stepWord 56 (.invokevirtual 159) 3 59 := ⟨by decide +kernel, rfl⟩
theorem dX12_stepWord_59 : dc cX12_stepWord 59 (.ifCond .eq 5) 3 62 := ⟨by decide +kernel, rfl⟩
theorem dX12_stepWord_62 : dc cX12_stepWord 62 (.iconst 2) 1 63 := ⟨by decide +kernel, rfl⟩
theorem dX12_stepWord_63 : dc cX12_stepWord 63 (.ireturn) 1 64 := ⟨by decide +kernel, rfl⟩
theorem dX12_stepWord_64 : dc cX12_stepWord 64 (.aload_n 0) 1 65 := ⟨by decide +kernel, rfl⟩
theorem dX12_stepWord_65 : dc cX12_stepWord 65 (.bipush 97) 2 67 := ⟨by decide +kernel, rfl⟩
theorem dX12_stepWord_67 : dc cX12_stepWord 67 (.bipush 110) 2 69 := ⟨by decide +kernel, rfl⟩
theorem dX12_stepWord_69 : dc cX12_stepWord 69 (.bipush 121) 2 71 := ⟨by decide +kernel, rfl⟩
theorem dX12_stepWord_71 : dc cX12_stepWord 71 (.iconst 0) 1 72 := ⟨by decide +kernel, rfl⟩
theorem dX12_stepWord_72 : dc cX12_stepWord 72 (.iconst 0) 1 73 := ⟨by decide +kernel, rfl⟩
theorem dX12_stepWord_73 : dc cX12_stepWord 73 (.iconst 0) 1 74 := ⟨by decide +kernel, rfl⟩
theorem dX12_stepWord_74 : dc cX12_stepWord 74 (.invokestatic 155) 3 77 := ⟨by decide +kernel, rfl⟩
theorem dX12_stepWord_77 : dc cX12_stepWord 77 (.invokevirtual 159) 3 80 := ⟨by decide +kernel, rfl⟩
theorem dX12_stepWord_80 : dc cX12_stepWord 80 (.ifCond .eq 5) 3 83 := ⟨by decide +kernel, rfl⟩
theorem dX12_stepWord_83 : dc cX12_stepWord 83 (.iconst 3) 1 84 := ⟨by decide +kernel, rfl⟩
theorem dX12_stepWord_84 : dc cX12_stepWord 84 (.ireturn) 1 85 := ⟨by decide +kernel, rfl⟩
theorem dX12_stepWord_85 : dc cX12_stepWord 85 (.aload_n 0) 1 86 := ⟨by decide +kernel, rfl⟩
theorem dX12_stepWord_86 : dc cX12_stepWord 86 (.bipush 99) 2 88 := ⟨by decide +kernel, rfl⟩
theorem dX12_stepWord_88 : dc cX12_stepWord 88 (.bipush 108) 2 90 := ⟨by decide +kernel, rfl⟩
theorem dX12_stepWord_90 : dc cX12_stepWord 90 (.bipush 111) 2 92 := ⟨by decide +kernel, rfl⟩
theorem dX12_stepWord_92 : dc cX12_stepWord 92 (.bipush 117) 2 94 := ⟨by decide +kernel, rfl⟩
theorem dX12_stepWord_94 : dc cX12_stepWord 94 (.bipush 100) 2 96 := ⟨by decide +kernel, rfl⟩
theorem dX12_stepWord_96 : dc cX12_stepWord 96 (.iconst 0) 1 97 := ⟨by decide +kernel, rfl⟩
theorem dX12_stepWord_97 : dc cX12_stepWord 97 (.invokestatic 155) 3 100 := ⟨by decide +kernel, rfl⟩
theorem dX12_stepWord_100 : dc cX12_stepWord 100 (.invokevirtual 159) 3 103 := ⟨by decide +kernel, rfl⟩
theorem dX12_stepWord_103 : dc cX12_stepWord 103 (.ifCond .eq 5) 3 106 := ⟨by decide +kernel, rfl⟩
theorem dX12_stepWord_106 : dc cX12_stepWord 106 (.iconst 4) 1 107 := ⟨by decide +kernel, rfl⟩
theorem dX12_stepWord_107 : dc cX12_stepWord 107 (.ireturn) 1 108 := ⟨by decide +kernel, rfl⟩
theorem dX12_stepWord_108 : dc cX12_stepWord 108 (.aload_n 0) 1 109 := ⟨by decide +kernel, rfl⟩
theorem dX12_stepWord_109 : dc cX12_stepWord 109 (.bipush 99) 2 111 := ⟨by decide +kernel, rfl⟩
theorem dX12_stepWord_111 : dc cX12_stepWord 111 (.bipush 108) 2 113 := ⟨by decide +kernel, rfl⟩
theorem dX12_stepWord_113 : dc cX12_stepWord 113 (.bipush 101) 2 115 := ⟨by decide +kernel, rfl⟩
theorem dX12_stepWord_115 : dc cX12_stepWord 115 (.bipush 97) 2 117 := ⟨by decide +kernel, rfl⟩
theorem dX12_stepWord_117 : dc cX12_stepWord 117 (.bipush 114) 2 119 := ⟨by decide +kernel, rfl⟩
theorem dX12_stepWord_119 : dc cX12_stepWord 119 (.iconst 0) 1 120 := ⟨by decide +kernel, rfl⟩
theorem dX12_stepWord_120 : dc cX12_stepWord 120 (.invokestatic 155) 3 123 := ⟨by decide +kernel, rfl⟩
theorem dX12_stepWord_123 : dc cX12_stepWord 123 (.invokevirtual 159) 3 126 := ⟨by decide +kernel, rfl⟩
theorem dX12_stepWord_126 : dc cX12_stepWord 126 (.ifCond .eq 5) 3 129 := ⟨by decide +kernel, rfl⟩
theorem dX12_stepWord_129 : dc cX12_stepWord 129 (.iconst 5) 1 130 := ⟨by decide +kernel, rfl⟩
theorem dX12_stepWord_130 : dc cX12_stepWord 130 (.ireturn) 1 131 := ⟨by decide +kernel, rfl⟩
theorem dX12_stepWord_131 : dc cX12_stepWord 131 (.aload_n 0) 1 132 := ⟨by decide +kernel, rfl⟩
theorem dX12_stepWord_132 : dc cX12_stepWord 132 (.bipush 119) 2 134 := ⟨by decide +kernel, rfl⟩
theorem dX12_stepWord_134 : dc cX12_stepWord 134 (.bipush 104) 2 136 := ⟨by decide +kernel, rfl⟩
theorem dX12_stepWord_136 : dc cX12_stepWord 136 (.bipush 101) 2 138 := ⟨by decide +kernel, rfl⟩
theorem dX12_stepWord_138 : dc cX12_stepWord 138 (.bipush 110) 2 140 := ⟨by decide +kernel, rfl⟩
theorem dX12_stepWord_140 : dc cX12_stepWord 140 (.iconst 0) 1 141 := ⟨by decide +kernel, rfl⟩
theorem dX12_stepWord_141 : dc cX12_stepWord 141 (.iconst 0) 1 142 := ⟨by decide +kernel, rfl⟩
theorem dX12_stepWord_142 : dc cX12_stepWord 142 (.invokestatic 155) 3 145 := ⟨by decide +kernel, rfl⟩
theorem dX12_stepWord_145 : dc cX12_stepWord 145 (.invokevirtual 159) 3 148 := ⟨by decide +kernel, rfl⟩
theorem dX12_stepWord_148 : dc cX12_stepWord 148 (.ifCond .eq 6) 3 151 := ⟨by decide +kernel, rfl⟩
theorem dX12_stepWord_151 : dc cX12_stepWord 151 (.bipush 6) 2 153 := ⟨by decide +kernel, rfl⟩
theorem dX12_stepWord_153 : dc cX12_stepWord 153 (.ireturn) 1 154 := ⟨by decide +kernel, rfl⟩
theorem dX12_stepWord_154 : dc cX12_stepWord 154 (.aload_n 0) 1 155 := ⟨by decide +kernel, rfl⟩
theorem dX12_stepWord_155 : dc cX12_stepWord 155 (.bipush 108) 2 157 := ⟨by decide +kernel, rfl⟩
theorem dX12_stepWord_157 : dc cX12_stepWord 157 (.bipush 111) 2 159 := ⟨by decide +kernel, rfl⟩
theorem dX12_stepWord_159 : dc cX12_stepWord 159 (.bipush 111) 2 161 := ⟨by decide +kernel, rfl⟩
theorem dX12_stepWord_161 : dc cX12_stepWord 161 (.bipush 112) 2 163 := ⟨by decide +kernel, rfl⟩
theorem dX12_stepWord_163 : dc cX12_stepWord 163 (.iconst 0) 1 164 := ⟨by decide +kernel, rfl⟩
theorem dX12_stepWord_164 : dc cX12_stepWord 164 (.iconst 0) 1 165 := ⟨by decide +kernel, rfl⟩
theorem dX12_stepWord_165 : dc cX12_stepWord 165 (.invokestatic 155) 3 168 := ⟨by decide +kernel, rfl⟩
theorem dX12_stepWord_168 : dc cX12_stepWord 168 (.invokevirtual 159) 3 171 := ⟨by decide +kernel, rfl⟩
theorem dX12_stepWord_171 : dc cX12_stepWord 171 (.ifCond .eq 6) 3 174 := ⟨by decide +kernel, rfl⟩
theorem dX12_stepWord_174 : dc cX12_stepWord 174 (.bipush 7) 2 176 := ⟨by decide +kernel, rfl⟩
theorem dX12_stepWord_176 : dc cX12_stepWord 176 (.ireturn) 1 177 := ⟨by decide +kernel, rfl⟩
theorem dX12_stepWord_177 : dc cX12_stepWord 177 (.aload_n 0) 1 178 := ⟨by decide +kernel, rfl⟩
theorem dX12_stepWord_178 : dc cX12_stepWord 178 (.bipush 115) 2 180 := ⟨by decide +kernel, rfl⟩
theorem dX12_stepWord_180 : dc cX12_stepWord 180 (.bipush 116) 2 182 := ⟨by decide +kernel, rfl⟩
theorem dX12_stepWord_182 : dc cX12_stepWord 182 (.bipush 111) 2 184 := ⟨by decide +kernel, rfl⟩
theorem dX12_stepWord_184 : dc cX12_stepWord 184 (.bipush 112) 2 186 := ⟨by decide +kernel, rfl⟩
theorem dX12_stepWord_186 : dc cX12_stepWord 186 (.iconst 0) 1 187 := ⟨by decide +kernel, rfl⟩
theorem dX12_stepWord_187 : dc cX12_stepWord 187 (.iconst 0) 1 188 := ⟨by decide +kernel, rfl⟩
theorem dX12_stepWord_188 : dc cX12_stepWord 188 (.invokestatic 155) 3 191 := ⟨by decide +kernel, rfl⟩
theorem dX12_stepWord_191 : dc cX12_stepWord 191 (.invokevirtual 159) 3 194 := ⟨by decide +kernel, rfl⟩
theorem dX12_stepWord_194 : dc cX12_stepWord 194 (.ifCond .eq 8) 3 197 := ⟨by decide +kernel, rfl⟩
theorem dX12_stepWord_197 : dc cX12_stepWord 197 (.bipush 8) 2 199 := ⟨by decide +kernel, rfl⟩
theorem dX12_stepWord_199 : dc cX12_stepWord 199 (.goto 4) 3 202 := ⟨by decide +kernel, rfl⟩
theorem dX12_stepWord_202 : dc cX12_stepWord 202 (.iconst (-1)) 1 203 := ⟨by decide +kernel, rfl⟩
theorem dX12_stepWord_203 : dc cX12_stepWord 203 (.ireturn) 1 204 := ⟨by decide +kernel, rfl⟩
theorem nm_X12_stepWord : (yX12_stepWord).cls ≠ "java/lang/invoke/MethodHandle" ∧ (yX12_stepWord).cls ≠ "java/lang/invoke/VarHandle" ∧ (parseMethodDescriptor (yX12_stepWord).desc).map (fun d => d.parameters.length) = some 0 := ⟨by decide +kernel, by decide +kernel, by decide +kernel⟩
set_option maxRecDepth 100000 in
set_option maxHeartbeats 4000000 in
theorem c_X12_stepWord {l : Launch} {ad : Nat → Nat} {cy : Nat → ClassId} {D : va_G} {z : Nat} {a0 : Nat} {M : KM} {y : Int32} (h0 : kty a0 = 12) (hf : f_X12_stepWord a0 M = y) : KC l ad cy D z yX12_stepWord cX12_stepWord 1 (some .int) 2 [.ref (ad a0)] M (some (.int y), M) := by
  refine kv_enter (by decide +kernel) (Nat.le_of_ble_eq_true rfl) ?_
  intro x hl hD hz G
  subst hl hD hz
  unfold f_X12_stepWord at hf
  have G : KG ad cy x cX12_stepWord "NoonGuidesModel" 1 (some (some .int)) 2 := G
  show KV ad cy x (some (.int y), M) 0 [(0, .ref (ad a0))] [] M
  refine v_aload_n G dX12_stepWord_0 0 rfl ?_
  refine v_bipush (119 : Int32) G dX12_stepWord_1 (by decide) ?_
  refine v_bipush (97 : Int32) G dX12_stepWord_3 (by decide) ?_
  refine v_bipush (105 : Int32) G dX12_stepWord_5 (by decide) ?_
  refine v_bipush (116 : Int32) G dX12_stepWord_7 (by decide) ?_
  refine v_iconst (0 : Int32) G dX12_stepWord_9 (by decide) ?_
  refine v_iconst (0 : Int32) G dX12_stepWord_10 (by decide) ?_
  obtain ⟨v1, hcv1⟩ : ∃ q, f_X12_spelled (119 : Int32) (97 : Int32) (105 : Int32) (116 : Int32) (0 : Int32) (0 : Int32) M = q := ⟨_, rfl⟩
  replace hf := lt_e hf hcv1.symm
  refine v_callS [.int (119 : Int32), .int (97 : Int32), .int (105 : Int32), .int (116 : Int32), .int (0 : Int32), .int (0 : Int32)] G (c_X12_spelled hcv1) t_1725 t_1726 t_17 t_1727 nm_X12_spelled (by decide) (by decide) rfl rfl (Nat.le_of_ble_eq_true rfl) dX12_stepWord_11 (kv_rl ?_)
  obtain ⟨v2, hcv2⟩ : ∃ q, f_X12_isWord a0 v1 M = q := ⟨_, rfl⟩
  replace hf := lt_e hf hcv2.symm
  refine v_callV [.long v1] G (c_X12_isWord h0 hcv2) h0 (by decide) rfl rfl rfl t_1728 t_1730 t_p65 t_17 t_1731 nm_X12_isWord (by decide) (by decide) rfl rfl (Nat.le_of_ble_eq_true rfl) dX12_stepWord_14 (kv_ri ?_)
  refine v_if_eq 22 G dX12_stepWord_17 (by decide) (fun h27 => ?_) (fun h27 => ?_)
  · replace hf := (if_pos h27).symm.trans hf
    refine v_aload_n G dX12_stepWord_22 0 rfl ?_
    refine v_bipush (103 : Int32) G dX12_stepWord_23 (by decide) ?_
    refine v_bipush (111 : Int32) G dX12_stepWord_25 (by decide) ?_
    refine v_iconst (0 : Int32) G dX12_stepWord_27 (by decide) ?_
    refine v_iconst (0 : Int32) G dX12_stepWord_28 (by decide) ?_
    refine v_iconst (0 : Int32) G dX12_stepWord_29 (by decide) ?_
    refine v_iconst (0 : Int32) G dX12_stepWord_30 (by decide) ?_
    obtain ⟨v3, hcv3⟩ : ∃ q, f_X12_spelled (103 : Int32) (111 : Int32) (0 : Int32) (0 : Int32) (0 : Int32) (0 : Int32) M = q := ⟨_, rfl⟩
    replace hf := lt_e hf hcv3.symm
    refine v_callS [.int (103 : Int32), .int (111 : Int32), .int (0 : Int32), .int (0 : Int32), .int (0 : Int32), .int (0 : Int32)] G (c_X12_spelled hcv3) t_1725 t_1726 t_17 t_1727 nm_X12_spelled (by decide) (by decide) rfl rfl (Nat.le_of_ble_eq_true rfl) dX12_stepWord_31 (kv_rl ?_)
    obtain ⟨v4, hcv4⟩ : ∃ q, f_X12_isWord a0 v3 M = q := ⟨_, rfl⟩
    replace hf := lt_e hf hcv4.symm
    refine v_callV [.long v3] G (c_X12_isWord h0 hcv4) h0 (by decide) rfl rfl rfl t_1728 t_1730 t_p65 t_17 t_1731 nm_X12_isWord (by decide) (by decide) rfl rfl (Nat.le_of_ble_eq_true rfl) dX12_stepWord_34 (kv_ri ?_)
    refine v_if_eq 42 G dX12_stepWord_37 (by decide) (fun h26 => ?_) (fun h26 => ?_)
    · replace hf := (if_pos h26).symm.trans hf
      refine v_aload_n G dX12_stepWord_42 0 rfl ?_
      refine v_bipush (108 : Int32) G dX12_stepWord_43 (by decide) ?_
      refine v_bipush (101 : Int32) G dX12_stepWord_45 (by decide) ?_
      refine v_bipush (97 : Int32) G dX12_stepWord_47 (by decide) ?_
      refine v_bipush (100 : Int32) G dX12_stepWord_49 (by decide) ?_
      refine v_iconst (0 : Int32) G dX12_stepWord_51 (by decide) ?_
      refine v_iconst (0 : Int32) G dX12_stepWord_52 (by decide) ?_
      obtain ⟨v5, hcv5⟩ : ∃ q, f_X12_spelled (108 : Int32) (101 : Int32) (97 : Int32) (100 : Int32) (0 : Int32) (0 : Int32) M = q := ⟨_, rfl⟩
      replace hf := lt_e hf hcv5.symm
      refine v_callS [.int (108 : Int32), .int (101 : Int32), .int (97 : Int32), .int (100 : Int32), .int (0 : Int32), .int (0 : Int32)] G (c_X12_spelled hcv5) t_1725 t_1726 t_17 t_1727 nm_X12_spelled (by decide) (by decide) rfl rfl (Nat.le_of_ble_eq_true rfl) dX12_stepWord_53 (kv_rl ?_)
      obtain ⟨v6, hcv6⟩ : ∃ q, f_X12_isWord a0 v5 M = q := ⟨_, rfl⟩
      replace hf := lt_e hf hcv6.symm
      refine v_callV [.long v5] G (c_X12_isWord h0 hcv6) h0 (by decide) rfl rfl rfl t_1728 t_1730 t_p65 t_17 t_1731 nm_X12_isWord (by decide) (by decide) rfl rfl (Nat.le_of_ble_eq_true rfl) dX12_stepWord_56 (kv_ri ?_)
      refine v_if_eq 64 G dX12_stepWord_59 (by decide) (fun h25 => ?_) (fun h25 => ?_)
      · replace hf := (if_pos h25).symm.trans hf
        refine v_aload_n G dX12_stepWord_64 0 rfl ?_
        refine v_bipush (97 : Int32) G dX12_stepWord_65 (by decide) ?_
        refine v_bipush (110 : Int32) G dX12_stepWord_67 (by decide) ?_
        refine v_bipush (121 : Int32) G dX12_stepWord_69 (by decide) ?_
        refine v_iconst (0 : Int32) G dX12_stepWord_71 (by decide) ?_
        refine v_iconst (0 : Int32) G dX12_stepWord_72 (by decide) ?_
        refine v_iconst (0 : Int32) G dX12_stepWord_73 (by decide) ?_
        obtain ⟨v7, hcv7⟩ : ∃ q, f_X12_spelled (97 : Int32) (110 : Int32) (121 : Int32) (0 : Int32) (0 : Int32) (0 : Int32) M = q := ⟨_, rfl⟩
        replace hf := lt_e hf hcv7.symm
        refine v_callS [.int (97 : Int32), .int (110 : Int32), .int (121 : Int32), .int (0 : Int32), .int (0 : Int32), .int (0 : Int32)] G (c_X12_spelled hcv7) t_1725 t_1726 t_17 t_1727 nm_X12_spelled (by decide) (by decide) rfl rfl (Nat.le_of_ble_eq_true rfl) dX12_stepWord_74 (kv_rl ?_)
        obtain ⟨v8, hcv8⟩ : ∃ q, f_X12_isWord a0 v7 M = q := ⟨_, rfl⟩
        replace hf := lt_e hf hcv8.symm
        refine v_callV [.long v7] G (c_X12_isWord h0 hcv8) h0 (by decide) rfl rfl rfl t_1728 t_1730 t_p65 t_17 t_1731 nm_X12_isWord (by decide) (by decide) rfl rfl (Nat.le_of_ble_eq_true rfl) dX12_stepWord_77 (kv_ri ?_)
        refine v_if_eq 85 G dX12_stepWord_80 (by decide) (fun h24 => ?_) (fun h24 => ?_)
        · replace hf := (if_pos h24).symm.trans hf
          refine v_aload_n G dX12_stepWord_85 0 rfl ?_
          refine v_bipush (99 : Int32) G dX12_stepWord_86 (by decide) ?_
          refine v_bipush (108 : Int32) G dX12_stepWord_88 (by decide) ?_
          refine v_bipush (111 : Int32) G dX12_stepWord_90 (by decide) ?_
          refine v_bipush (117 : Int32) G dX12_stepWord_92 (by decide) ?_
          refine v_bipush (100 : Int32) G dX12_stepWord_94 (by decide) ?_
          refine v_iconst (0 : Int32) G dX12_stepWord_96 (by decide) ?_
          obtain ⟨v9, hcv9⟩ : ∃ q, f_X12_spelled (99 : Int32) (108 : Int32) (111 : Int32) (117 : Int32) (100 : Int32) (0 : Int32) M = q := ⟨_, rfl⟩
          replace hf := lt_e hf hcv9.symm
          refine v_callS [.int (99 : Int32), .int (108 : Int32), .int (111 : Int32), .int (117 : Int32), .int (100 : Int32), .int (0 : Int32)] G (c_X12_spelled hcv9) t_1725 t_1726 t_17 t_1727 nm_X12_spelled (by decide) (by decide) rfl rfl (Nat.le_of_ble_eq_true rfl) dX12_stepWord_97 (kv_rl ?_)
          obtain ⟨v10, hcv10⟩ : ∃ q, f_X12_isWord a0 v9 M = q := ⟨_, rfl⟩
          replace hf := lt_e hf hcv10.symm
          refine v_callV [.long v9] G (c_X12_isWord h0 hcv10) h0 (by decide) rfl rfl rfl t_1728 t_1730 t_p65 t_17 t_1731 nm_X12_isWord (by decide) (by decide) rfl rfl (Nat.le_of_ble_eq_true rfl) dX12_stepWord_100 (kv_ri ?_)
          refine v_if_eq 108 G dX12_stepWord_103 (by decide) (fun h23 => ?_) (fun h23 => ?_)
          · replace hf := (if_pos h23).symm.trans hf
            refine v_aload_n G dX12_stepWord_108 0 rfl ?_
            refine v_bipush (99 : Int32) G dX12_stepWord_109 (by decide) ?_
            refine v_bipush (108 : Int32) G dX12_stepWord_111 (by decide) ?_
            refine v_bipush (101 : Int32) G dX12_stepWord_113 (by decide) ?_
            refine v_bipush (97 : Int32) G dX12_stepWord_115 (by decide) ?_
            refine v_bipush (114 : Int32) G dX12_stepWord_117 (by decide) ?_
            refine v_iconst (0 : Int32) G dX12_stepWord_119 (by decide) ?_
            obtain ⟨v11, hcv11⟩ : ∃ q, f_X12_spelled (99 : Int32) (108 : Int32) (101 : Int32) (97 : Int32) (114 : Int32) (0 : Int32) M = q := ⟨_, rfl⟩
            replace hf := lt_e hf hcv11.symm
            refine v_callS [.int (99 : Int32), .int (108 : Int32), .int (101 : Int32), .int (97 : Int32), .int (114 : Int32), .int (0 : Int32)] G (c_X12_spelled hcv11) t_1725 t_1726 t_17 t_1727 nm_X12_spelled (by decide) (by decide) rfl rfl (Nat.le_of_ble_eq_true rfl) dX12_stepWord_120 (kv_rl ?_)
            obtain ⟨v12, hcv12⟩ : ∃ q, f_X12_isWord a0 v11 M = q := ⟨_, rfl⟩
            replace hf := lt_e hf hcv12.symm
            refine v_callV [.long v11] G (c_X12_isWord h0 hcv12) h0 (by decide) rfl rfl rfl t_1728 t_1730 t_p65 t_17 t_1731 nm_X12_isWord (by decide) (by decide) rfl rfl (Nat.le_of_ble_eq_true rfl) dX12_stepWord_123 (kv_ri ?_)
            refine v_if_eq 131 G dX12_stepWord_126 (by decide) (fun h22 => ?_) (fun h22 => ?_)
            · replace hf := (if_pos h22).symm.trans hf
              refine v_aload_n G dX12_stepWord_131 0 rfl ?_
              refine v_bipush (119 : Int32) G dX12_stepWord_132 (by decide) ?_
              refine v_bipush (104 : Int32) G dX12_stepWord_134 (by decide) ?_
              refine v_bipush (101 : Int32) G dX12_stepWord_136 (by decide) ?_
              refine v_bipush (110 : Int32) G dX12_stepWord_138 (by decide) ?_
              refine v_iconst (0 : Int32) G dX12_stepWord_140 (by decide) ?_
              refine v_iconst (0 : Int32) G dX12_stepWord_141 (by decide) ?_
              obtain ⟨v13, hcv13⟩ : ∃ q, f_X12_spelled (119 : Int32) (104 : Int32) (101 : Int32) (110 : Int32) (0 : Int32) (0 : Int32) M = q := ⟨_, rfl⟩
              replace hf := lt_e hf hcv13.symm
              refine v_callS [.int (119 : Int32), .int (104 : Int32), .int (101 : Int32), .int (110 : Int32), .int (0 : Int32), .int (0 : Int32)] G (c_X12_spelled hcv13) t_1725 t_1726 t_17 t_1727 nm_X12_spelled (by decide) (by decide) rfl rfl (Nat.le_of_ble_eq_true rfl) dX12_stepWord_142 (kv_rl ?_)
              obtain ⟨v14, hcv14⟩ : ∃ q, f_X12_isWord a0 v13 M = q := ⟨_, rfl⟩
              replace hf := lt_e hf hcv14.symm
              refine v_callV [.long v13] G (c_X12_isWord h0 hcv14) h0 (by decide) rfl rfl rfl t_1728 t_1730 t_p65 t_17 t_1731 nm_X12_isWord (by decide) (by decide) rfl rfl (Nat.le_of_ble_eq_true rfl) dX12_stepWord_145 (kv_ri ?_)
              refine v_if_eq 154 G dX12_stepWord_148 (by decide) (fun h21 => ?_) (fun h21 => ?_)
              · replace hf := (if_pos h21).symm.trans hf
                refine v_aload_n G dX12_stepWord_154 0 rfl ?_
                refine v_bipush (108 : Int32) G dX12_stepWord_155 (by decide) ?_
                refine v_bipush (111 : Int32) G dX12_stepWord_157 (by decide) ?_
                refine v_bipush (111 : Int32) G dX12_stepWord_159 (by decide) ?_
                refine v_bipush (112 : Int32) G dX12_stepWord_161 (by decide) ?_
                refine v_iconst (0 : Int32) G dX12_stepWord_163 (by decide) ?_
                refine v_iconst (0 : Int32) G dX12_stepWord_164 (by decide) ?_
                obtain ⟨v15, hcv15⟩ : ∃ q, f_X12_spelled (108 : Int32) (111 : Int32) (111 : Int32) (112 : Int32) (0 : Int32) (0 : Int32) M = q := ⟨_, rfl⟩
                replace hf := lt_e hf hcv15.symm
                refine v_callS [.int (108 : Int32), .int (111 : Int32), .int (111 : Int32), .int (112 : Int32), .int (0 : Int32), .int (0 : Int32)] G (c_X12_spelled hcv15) t_1725 t_1726 t_17 t_1727 nm_X12_spelled (by decide) (by decide) rfl rfl (Nat.le_of_ble_eq_true rfl) dX12_stepWord_165 (kv_rl ?_)
                obtain ⟨v16, hcv16⟩ : ∃ q, f_X12_isWord a0 v15 M = q := ⟨_, rfl⟩
                replace hf := lt_e hf hcv16.symm
                refine v_callV [.long v15] G (c_X12_isWord h0 hcv16) h0 (by decide) rfl rfl rfl t_1728 t_1730 t_p65 t_17 t_1731 nm_X12_isWord (by decide) (by decide) rfl rfl (Nat.le_of_ble_eq_true rfl) dX12_stepWord_168 (kv_ri ?_)
                refine v_if_eq 177 G dX12_stepWord_171 (by decide) (fun h20 => ?_) (fun h20 => ?_)
                · replace hf := (if_pos h20).symm.trans hf
                  refine v_aload_n G dX12_stepWord_177 0 rfl ?_
                  refine v_bipush (115 : Int32) G dX12_stepWord_178 (by decide) ?_
                  refine v_bipush (116 : Int32) G dX12_stepWord_180 (by decide) ?_
                  refine v_bipush (111 : Int32) G dX12_stepWord_182 (by decide) ?_
                  refine v_bipush (112 : Int32) G dX12_stepWord_184 (by decide) ?_
                  refine v_iconst (0 : Int32) G dX12_stepWord_186 (by decide) ?_
                  refine v_iconst (0 : Int32) G dX12_stepWord_187 (by decide) ?_
                  obtain ⟨v17, hcv17⟩ : ∃ q, f_X12_spelled (115 : Int32) (116 : Int32) (111 : Int32) (112 : Int32) (0 : Int32) (0 : Int32) M = q := ⟨_, rfl⟩
                  replace hf := lt_e hf hcv17.symm
                  refine v_callS [.int (115 : Int32), .int (116 : Int32), .int (111 : Int32), .int (112 : Int32), .int (0 : Int32), .int (0 : Int32)] G (c_X12_spelled hcv17) t_1725 t_1726 t_17 t_1727 nm_X12_spelled (by decide) (by decide) rfl rfl (Nat.le_of_ble_eq_true rfl) dX12_stepWord_188 (kv_rl ?_)
                  obtain ⟨v18, hcv18⟩ : ∃ q, f_X12_isWord a0 v17 M = q := ⟨_, rfl⟩
                  replace hf := lt_e hf hcv18.symm
                  refine v_callV [.long v17] G (c_X12_isWord h0 hcv18) h0 (by decide) rfl rfl rfl t_1728 t_1730 t_p65 t_17 t_1731 nm_X12_isWord (by decide) (by decide) rfl rfl (Nat.le_of_ble_eq_true rfl) dX12_stepWord_191 (kv_ri ?_)
                  refine v_if_eq 202 G dX12_stepWord_194 (by decide) (fun h19 => ?_) (fun h19 => ?_)
                  · replace hf := (if_pos h19).symm.trans hf
                    refine v_iconst (-1 : Int32) G dX12_stepWord_202 (by decide) ?_
                    obtain rfl := hf
                    exact v_iret G dX12_stepWord_203
                  · replace hf := (if_neg h19).symm.trans hf
                    refine v_bipush (8 : Int32) G dX12_stepWord_197 (by decide) ?_
                    refine v_goto 203 G dX12_stepWord_199 (by decide) ?_
                    obtain rfl := hf
                    exact v_iret G dX12_stepWord_203
                · replace hf := (if_neg h20).symm.trans hf
                  refine v_bipush (7 : Int32) G dX12_stepWord_174 (by decide) ?_
                  obtain rfl := hf
                  exact v_iret G dX12_stepWord_176
              · replace hf := (if_neg h21).symm.trans hf
                refine v_bipush (6 : Int32) G dX12_stepWord_151 (by decide) ?_
                obtain rfl := hf
                exact v_iret G dX12_stepWord_153
            · replace hf := (if_neg h22).symm.trans hf
              refine v_iconst (5 : Int32) G dX12_stepWord_129 (by decide) ?_
              obtain rfl := hf
              exact v_iret G dX12_stepWord_130
          · replace hf := (if_neg h23).symm.trans hf
            refine v_iconst (4 : Int32) G dX12_stepWord_106 (by decide) ?_
            obtain rfl := hf
            exact v_iret G dX12_stepWord_107
        · replace hf := (if_neg h24).symm.trans hf
          refine v_iconst (3 : Int32) G dX12_stepWord_83 (by decide) ?_
          obtain rfl := hf
          exact v_iret G dX12_stepWord_84
      · replace hf := (if_neg h25).symm.trans hf
        refine v_iconst (2 : Int32) G dX12_stepWord_62 (by decide) ?_
        obtain rfl := hf
        exact v_iret G dX12_stepWord_63
    · replace hf := (if_neg h26).symm.trans hf
      refine v_iconst (1 : Int32) G dX12_stepWord_40 (by decide) ?_
      obtain rfl := hf
      exact v_iret G dX12_stepWord_41
  · replace hf := (if_neg h27).symm.trans hf
    refine v_iconst (0 : Int32) G dX12_stepWord_20 (by decide) ?_
    obtain rfl := hf
    exact v_iret G dX12_stepWord_21
abbrev cX12_testWord : ByteArray := prog_14_method_42_code
def yX12_testWord : MethodName := ⟨RX12, "testWord", "()I"⟩
theorem dX12_testWord_0 : dc cX12_testWord 0 (.aload_n 0) 1 1 := ⟨by decide +kernel, rfl⟩
theorem dX12_testWord_1 : dc cX12_testWord 1 (.bipush 97) 2 3 := ⟨by decide +kernel, rfl⟩
theorem dX12_testWord_3 : dc cX12_testWord 3 (.bipush 116) 2 5 := ⟨by decide +kernel, rfl⟩
theorem dX12_testWord_5 : dc cX12_testWord 5 (.iconst 0) 1 6 := ⟨by decide +kernel, rfl⟩
theorem dX12_testWord_6 : dc cX12_testWord 6 (.iconst 0) 1 7 := ⟨by decide +kernel, rfl⟩
theorem dX12_testWord_7 : dc cX12_testWord 7 (.iconst 0) 1 8 := ⟨by decide +kernel, rfl⟩
theorem dX12_testWord_8 : dc cX12_testWord 8 (.iconst 0) 1 9 := ⟨by decide +kernel, rfl⟩
theorem dX12_testWord_9 : dc cX12_testWord 9 (.invokestatic 155) 3 12 := ⟨by decide +kernel, rfl⟩
theorem dX12_testWord_12 : dc cX12_testWord 12 (.invokevirtual 159) 3 15 := ⟨by decide +kernel, rfl⟩
theorem dX12_testWord_15 : dc cX12_testWord 15 (.ifCond .eq 5) 3 18 := ⟨by decide +kernel, rfl⟩
theorem dX12_testWord_18 : dc cX12_testWord 18 (.iconst 0) 1 19 := ⟨by decide +kernel, rfl⟩
theorem dX12_testWord_19 : dc cX12_testWord 19 (.ireturn) 1 20 := ⟨by decide +kernel, rfl⟩
theorem dX12_testWord_20 : dc cX12_testWord 20 (.aload_n 0) 1 21 := ⟨by decide +kernel, rfl⟩
theorem dX12_testWord_21 : dc cX12_testWord 21 (.bipush 103) 2 23 := ⟨by decide +kernel, rfl⟩
theorem dX12_testWord_23 : dc cX12_testWord 23 (.bipush 108) 2 25 := ⟨by decide +kernel, rfl⟩
theorem dX12_testWord_25 : dc cX12_testWord 25 (.bipush 97) 2 27 := ⟨by decide +kernel, rfl⟩
theorem dX12_testWord_27 : dc cX12_testWord 27 (.bipush 114) 2 29 := ⟨by decide +kernel, rfl⟩
theorem dX12_testWord_29 : dc cX12_testWord 29 (.bipush 101) 2 31 := ⟨by decide +kernel, rfl⟩
theorem dX12_testWord_31 : dc cX12_testWord 31 (.iconst 0) 1 32 := ⟨by decide +kernel, rfl⟩
theorem dX12_testWord_32 : dc cX12_testWord 32 (.invokestatic 155) 3 35 := ⟨by decide +kernel, rfl⟩
theorem dX12_testWord_35 : dc cX12_testWord 35 (.invokevirtual 159) 3 38 := ⟨by decide +kernel, rfl⟩
theorem dX12_testWord_38 : dc cX12_testWord 38 (.ifCond .eq 5) 3 41 := ⟨by decide +kernel, rfl⟩
theorem dX12_testWord_41 : dc cX12_testWord 41 (.iconst 1) 1 42 := ⟨by decide +kernel, rfl⟩
theorem dX12_testWord_42 : dc cX12_testWord 42 (.ireturn) 1 43 := ⟨by decide +kernel, rfl⟩
theorem dX12_testWord_43 : dc cX12_testWord 43 (.aload_n 0) 1 44 := ⟨by decide +kernel, rfl⟩
theorem dX12_testWord_44 : dc cX12_testWord 44 (.bipush 108) 2 46 := ⟨by decide +kernel, rfl⟩
theorem dX12_testWord_46 : dc cX12_testWord 46 (.bipush 111) 2 48 := ⟨by decide +kernel, rfl⟩
theorem dX12_testWord_48 : dc cX12_testWord 48 (.bipush 115) 2 50 := ⟨by decide +kernel, rfl⟩
theorem dX12_testWord_50 : dc cX12_testWord 50 (.bipush 116) 2 52 := ⟨by decide +kernel, rfl⟩
theorem dX12_testWord_52 : dc cX12_testWord 52 (.iconst 0) 1 53 := ⟨by decide +kernel, rfl⟩
theorem dX12_testWord_53 : dc cX12_testWord 53 (.iconst 0) 1 54 := ⟨by decide +kernel, rfl⟩
theorem dX12_testWord_54 : dc cX12_testWord 54 (.invokestatic 155) 3 57 := ⟨by decide +kernel, rfl⟩
theorem dX12_testWord_57 : dc cX12_testWord 57 (.invokevirtual 159) 3 60 := ⟨by decide +kernel, rfl⟩
theorem dX12_testWord_60 : dc cX12_testWord 60 (.ifCond .eq 7) 3 63 := ⟨by decide +kernel, rfl⟩
theorem dX12_testWord_63 : dc cX12_testWord 63 (.iconst 2) 1 64 := ⟨by decide +kernel, rfl⟩
theorem dX12_testWord_64 : dc cX12_testWord 64 (.goto 4) 3 67 := ⟨by decide +kernel, rfl⟩
theorem dX12_testWord_67 : dc cX12_testWord 67 (.iconst (-1)) 1 68 := ⟨by decide +kernel, rfl⟩
theorem dX12_testWord_68 : dc cX12_testWord 68 (.ireturn) 1 69 := ⟨by decide +kernel, rfl⟩
theorem nm_X12_testWord : (yX12_testWord).cls ≠ "java/lang/invoke/MethodHandle" ∧ (yX12_testWord).cls ≠ "java/lang/invoke/VarHandle" ∧ (parseMethodDescriptor (yX12_testWord).desc).map (fun d => d.parameters.length) = some 0 := ⟨by decide +kernel, by decide +kernel, by decide +kernel⟩
set_option maxRecDepth 100000 in
set_option maxHeartbeats 4000000 in
theorem c_X12_testWord {l : Launch} {ad : Nat → Nat} {cy : Nat → ClassId} {D : va_G} {z : Nat} {a0 : Nat} {M : KM} {y : Int32} (h0 : kty a0 = 12) (hf : f_X12_testWord a0 M = y) : KC l ad cy D z yX12_testWord cX12_testWord 1 (some .int) 2 [.ref (ad a0)] M (some (.int y), M) := by
  refine kv_enter (by decide +kernel) (Nat.le_of_ble_eq_true rfl) ?_
  intro x hl hD hz G
  subst hl hD hz
  unfold f_X12_testWord at hf
  have G : KG ad cy x cX12_testWord "NoonGuidesModel" 1 (some (some .int)) 2 := G
  show KV ad cy x (some (.int y), M) 0 [(0, .ref (ad a0))] [] M
  refine v_aload_n G dX12_testWord_0 0 rfl ?_
  refine v_bipush (97 : Int32) G dX12_testWord_1 (by decide) ?_
  refine v_bipush (116 : Int32) G dX12_testWord_3 (by decide) ?_
  refine v_iconst (0 : Int32) G dX12_testWord_5 (by decide) ?_
  refine v_iconst (0 : Int32) G dX12_testWord_6 (by decide) ?_
  refine v_iconst (0 : Int32) G dX12_testWord_7 (by decide) ?_
  refine v_iconst (0 : Int32) G dX12_testWord_8 (by decide) ?_
  obtain ⟨v1, hcv1⟩ : ∃ q, f_X12_spelled (97 : Int32) (116 : Int32) (0 : Int32) (0 : Int32) (0 : Int32) (0 : Int32) M = q := ⟨_, rfl⟩
  replace hf := lt_e hf hcv1.symm
  refine v_callS [.int (97 : Int32), .int (116 : Int32), .int (0 : Int32), .int (0 : Int32), .int (0 : Int32), .int (0 : Int32)] G (c_X12_spelled hcv1) t_1725 t_1726 t_17 t_1727 nm_X12_spelled (by decide) (by decide) rfl rfl (Nat.le_of_ble_eq_true rfl) dX12_testWord_9 (kv_rl ?_)
  obtain ⟨v2, hcv2⟩ : ∃ q, f_X12_isWord a0 v1 M = q := ⟨_, rfl⟩
  replace hf := lt_e hf hcv2.symm
  refine v_callV [.long v1] G (c_X12_isWord h0 hcv2) h0 (by decide) rfl rfl rfl t_1728 t_1730 t_p65 t_17 t_1731 nm_X12_isWord (by decide) (by decide) rfl rfl (Nat.le_of_ble_eq_true rfl) dX12_testWord_12 (kv_ri ?_)
  refine v_if_eq 20 G dX12_testWord_15 (by decide) (fun h9 => ?_) (fun h9 => ?_)
  · replace hf := (if_pos h9).symm.trans hf
    refine v_aload_n G dX12_testWord_20 0 rfl ?_
    refine v_bipush (103 : Int32) G dX12_testWord_21 (by decide) ?_
    refine v_bipush (108 : Int32) G dX12_testWord_23 (by decide) ?_
    refine v_bipush (97 : Int32) G dX12_testWord_25 (by decide) ?_
    refine v_bipush (114 : Int32) G dX12_testWord_27 (by decide) ?_
    refine v_bipush (101 : Int32) G dX12_testWord_29 (by decide) ?_
    refine v_iconst (0 : Int32) G dX12_testWord_31 (by decide) ?_
    obtain ⟨v3, hcv3⟩ : ∃ q, f_X12_spelled (103 : Int32) (108 : Int32) (97 : Int32) (114 : Int32) (101 : Int32) (0 : Int32) M = q := ⟨_, rfl⟩
    replace hf := lt_e hf hcv3.symm
    refine v_callS [.int (103 : Int32), .int (108 : Int32), .int (97 : Int32), .int (114 : Int32), .int (101 : Int32), .int (0 : Int32)] G (c_X12_spelled hcv3) t_1725 t_1726 t_17 t_1727 nm_X12_spelled (by decide) (by decide) rfl rfl (Nat.le_of_ble_eq_true rfl) dX12_testWord_32 (kv_rl ?_)
    obtain ⟨v4, hcv4⟩ : ∃ q, f_X12_isWord a0 v3 M = q := ⟨_, rfl⟩
    replace hf := lt_e hf hcv4.symm
    refine v_callV [.long v3] G (c_X12_isWord h0 hcv4) h0 (by decide) rfl rfl rfl t_1728 t_1730 t_p65 t_17 t_1731 nm_X12_isWord (by decide) (by decide) rfl rfl (Nat.le_of_ble_eq_true rfl) dX12_testWord_35 (kv_ri ?_)
    refine v_if_eq 43 G dX12_testWord_38 (by decide) (fun h8 => ?_) (fun h8 => ?_)
    · replace hf := (if_pos h8).symm.trans hf
      refine v_aload_n G dX12_testWord_43 0 rfl ?_
      refine v_bipush (108 : Int32) G dX12_testWord_44 (by decide) ?_
      refine v_bipush (111 : Int32) G dX12_testWord_46 (by decide) ?_
      refine v_bipush (115 : Int32) G dX12_testWord_48 (by decide) ?_
      refine v_bipush (116 : Int32) G dX12_testWord_50 (by decide) ?_
      refine v_iconst (0 : Int32) G dX12_testWord_52 (by decide) ?_
      refine v_iconst (0 : Int32) G dX12_testWord_53 (by decide) ?_
      obtain ⟨v5, hcv5⟩ : ∃ q, f_X12_spelled (108 : Int32) (111 : Int32) (115 : Int32) (116 : Int32) (0 : Int32) (0 : Int32) M = q := ⟨_, rfl⟩
      replace hf := lt_e hf hcv5.symm
      refine v_callS [.int (108 : Int32), .int (111 : Int32), .int (115 : Int32), .int (116 : Int32), .int (0 : Int32), .int (0 : Int32)] G (c_X12_spelled hcv5) t_1725 t_1726 t_17 t_1727 nm_X12_spelled (by decide) (by decide) rfl rfl (Nat.le_of_ble_eq_true rfl) dX12_testWord_54 (kv_rl ?_)
      obtain ⟨v6, hcv6⟩ : ∃ q, f_X12_isWord a0 v5 M = q := ⟨_, rfl⟩
      replace hf := lt_e hf hcv6.symm
      refine v_callV [.long v5] G (c_X12_isWord h0 hcv6) h0 (by decide) rfl rfl rfl t_1728 t_1730 t_p65 t_17 t_1731 nm_X12_isWord (by decide) (by decide) rfl rfl (Nat.le_of_ble_eq_true rfl) dX12_testWord_57 (kv_ri ?_)
      refine v_if_eq 67 G dX12_testWord_60 (by decide) (fun h7 => ?_) (fun h7 => ?_)
      · replace hf := (if_pos h7).symm.trans hf
        refine v_iconst (-1 : Int32) G dX12_testWord_67 (by decide) ?_
        obtain rfl := hf
        exact v_iret G dX12_testWord_68
      · replace hf := (if_neg h7).symm.trans hf
        refine v_iconst (2 : Int32) G dX12_testWord_63 (by decide) ?_
        refine v_goto 68 G dX12_testWord_64 (by decide) ?_
        obtain rfl := hf
        exact v_iret G dX12_testWord_68
    · replace hf := (if_neg h8).symm.trans hf
      refine v_iconst (1 : Int32) G dX12_testWord_41 (by decide) ?_
      obtain rfl := hf
      exact v_iret G dX12_testWord_42
  · replace hf := (if_neg h9).symm.trans hf
    refine v_iconst (0 : Int32) G dX12_testWord_18 (by decide) ?_
    obtain rfl := hf
    exact v_iret G dX12_testWord_19
abbrev cX12_isEnd : ByteArray := prog_14_method_43_code
def yX12_isEnd : MethodName := ⟨RX12, "isEnd", "()Z"⟩
theorem dX12_isEnd_0 : dc cX12_isEnd 0 (.aload_n 0) 1 1 := ⟨by decide +kernel, rfl⟩
theorem dX12_isEnd_1 : dc cX12_isEnd 1 (.bipush 101) 2 3 := ⟨by decide +kernel, rfl⟩
theorem dX12_isEnd_3 : dc cX12_isEnd 3 (.bipush 110) 2 5 := ⟨by decide +kernel, rfl⟩
theorem dX12_isEnd_5 : dc cX12_isEnd 5 (.bipush 100) 2 7 := ⟨by decide +kernel, rfl⟩
theorem dX12_isEnd_7 : dc cX12_isEnd 7 (.iconst 0) 1 8 := ⟨by decide +kernel, rfl⟩
theorem dX12_isEnd_8 : dc cX12_isEnd 8 (.iconst 0) 1 9 := ⟨by decide +kernel, rfl⟩
theorem dX12_isEnd_9 : dc cX12_isEnd 9 (.iconst 0) 1 10 := ⟨by decide +kernel, rfl⟩
theorem dX12_isEnd_10 : dc cX12_isEnd 10 (.invokestatic 155) 3 13 := ⟨by decide +kernel, rfl⟩
theorem dX12_isEnd_13 : dc cX12_isEnd 13 (.invokevirtual 159) 3 16 := ⟨by decide +kernel, rfl⟩
theorem dX12_isEnd_16 : dc cX12_isEnd 16 (.ireturn) 1 17 := ⟨by decide +kernel, rfl⟩
theorem nm_X12_isEnd : (yX12_isEnd).cls ≠ "java/lang/invoke/MethodHandle" ∧ (yX12_isEnd).cls ≠ "java/lang/invoke/VarHandle" ∧ (parseMethodDescriptor (yX12_isEnd).desc).map (fun d => d.parameters.length) = some 0 := ⟨by decide +kernel, by decide +kernel, by decide +kernel⟩
set_option maxRecDepth 100000 in
theorem z_X12_isEnd {a0 : Nat} {M : KM} {y : Int32} (hf : f_X12_isEnd a0 M = y) : (y = 0 ∨ y = 1) := by
  unfold f_X12_isEnd at hf
  obtain ⟨v1, hcv1⟩ : ∃ q, f_X12_spelled (101 : Int32) (110 : Int32) (100 : Int32) (0 : Int32) (0 : Int32) (0 : Int32) M = q := ⟨_, rfl⟩
  replace hf := lt_e hf hcv1.symm
  obtain ⟨v2, hcv2⟩ : ∃ q, f_X12_isWord a0 v1 M = q := ⟨_, rfl⟩
  replace hf := lt_e hf hcv2.symm
  obtain rfl := hf
  exact (z_X12_isWord hcv2)
set_option maxRecDepth 100000 in
set_option maxHeartbeats 4000000 in
theorem c_X12_isEnd {l : Launch} {ad : Nat → Nat} {cy : Nat → ClassId} {D : va_G} {z : Nat} {a0 : Nat} {M : KM} {y : Int32} (h0 : kty a0 = 12) (hf : f_X12_isEnd a0 M = y) : KC l ad cy D z yX12_isEnd cX12_isEnd 1 (some .boolean) 2 [.ref (ad a0)] M (some (.int y), M) := by
  refine kv_enter (by decide +kernel) (Nat.le_of_ble_eq_true rfl) ?_
  intro x hl hD hz G
  subst hl hD hz
  unfold f_X12_isEnd at hf
  have G : KG ad cy x cX12_isEnd "NoonGuidesModel" 1 (some (some .boolean)) 2 := G
  show KV ad cy x (some (.int y), M) 0 [(0, .ref (ad a0))] [] M
  refine v_aload_n G dX12_isEnd_0 0 rfl ?_
  refine v_bipush (101 : Int32) G dX12_isEnd_1 (by decide) ?_
  refine v_bipush (110 : Int32) G dX12_isEnd_3 (by decide) ?_
  refine v_bipush (100 : Int32) G dX12_isEnd_5 (by decide) ?_
  refine v_iconst (0 : Int32) G dX12_isEnd_7 (by decide) ?_
  refine v_iconst (0 : Int32) G dX12_isEnd_8 (by decide) ?_
  refine v_iconst (0 : Int32) G dX12_isEnd_9 (by decide) ?_
  obtain ⟨v1, hcv1⟩ : ∃ q, f_X12_spelled (101 : Int32) (110 : Int32) (100 : Int32) (0 : Int32) (0 : Int32) (0 : Int32) M = q := ⟨_, rfl⟩
  replace hf := lt_e hf hcv1.symm
  refine v_callS [.int (101 : Int32), .int (110 : Int32), .int (100 : Int32), .int (0 : Int32), .int (0 : Int32), .int (0 : Int32)] G (c_X12_spelled hcv1) t_1725 t_1726 t_17 t_1727 nm_X12_spelled (by decide) (by decide) rfl rfl (Nat.le_of_ble_eq_true rfl) dX12_isEnd_10 (kv_rl ?_)
  obtain ⟨v2, hcv2⟩ : ∃ q, f_X12_isWord a0 v1 M = q := ⟨_, rfl⟩
  replace hf := lt_e hf hcv2.symm
  refine v_callV [.long v1] G (c_X12_isWord h0 hcv2) h0 (by decide) rfl rfl rfl t_1728 t_1730 t_p65 t_17 t_1731 nm_X12_isWord (by decide) (by decide) rfl rfl (Nat.le_of_ble_eq_true rfl) dX12_isEnd_13 (kv_ri ?_)
  obtain rfl := hf
  exact v_zret G (z_X12_isWord hcv2) dX12_isEnd_16
abbrev cX12_isKept : ByteArray := prog_14_method_44_code
def yX12_isKept : MethodName := ⟨RX12, "isKept", "()Z"⟩
theorem dX12_isKept_0 : dc cX12_isKept 0 (.aload_n 0) 1 1 := ⟨by decide +kernel, rfl⟩
theorem dX12_isKept_1 : dc cX12_isKept 1 (.invokevirtual 167) 3 4 := ⟨by decide +kernel, rfl⟩
theorem dX12_isKept_4 : dc cX12_isKept 4 (.ifCond .ne 52) 3 7 := ⟨by decide +kernel, rfl⟩
theorem dX12_isKept_7 : dc cX12_isKept 7 (.aload_n 0) 1 8 := ⟨by decide +kernel, rfl⟩
theorem dX12_isKept_8 : dc cX12_isKept 8 (.invokevirtual 171) 3 11 := ⟨by decide +kernel, rfl⟩
theorem dX12_isKept_11 : dc cX12_isKept 11 (.ifCond .ne 45) 3 14 := ⟨by decide +kernel, rfl⟩
theorem dX12_isKept_14 : dc cX12_isKept 14 (.aload_n 0) 1 15 := ⟨by decide +kernel, rfl⟩
theorem dX12_isKept_15 : dc cX12_isKept 15 (.invokevirtual 174) 3 18 := ⟨by decide +kernel, rfl⟩
theorem dX12_isKept_18 : dc cX12_isKept 18 (.ifCond .ne 38) 3 21 := ⟨by decide +kernel, rfl⟩
theorem dX12_isKept_21 : dc cX12_isKept 21 (.aload_n 0) 1 22 := ⟨by decide +kernel, rfl⟩
theorem dX12_isKept_22 : dc cX12_isKept 22 (.invokevirtual 177) 3 25 := ⟨by decide +kernel, rfl⟩
theorem dX12_isKept_25 : dc cX12_isKept 25 (.ifCond .ne 31) 3 28 := ⟨by decide +kernel, rfl⟩
theorem dX12_isKept_28 : dc cX12_isKept 28 (.aload_n 0) 1 29 := ⟨by decide +kernel, rfl⟩
theorem dX12_isKept_29 : dc cX12_isKept 29 (.invokevirtual 180) 3 32 := ⟨by decide +kernel, rfl⟩
theorem dX12_isKept_32 : dc cX12_isKept 32 (.ifCond .ne 24) 3 35 := ⟨by decide +kernel, rfl⟩
theorem dX12_isKept_35 : dc cX12_isKept 35 (.aload_n 0) 1 36 := ⟨by decide +kernel, rfl⟩
theorem dX12_isKept_36 : dc cX12_isKept 36 (.invokevirtual 183) 3 39 := ⟨by decide +kernel, rfl⟩
theorem dX12_isKept_39 : dc cX12_isKept 39 (.ifCond .ne 17) 3 42 := ⟨by decide +kernel, rfl⟩
theorem dX12_isKept_42 : dc cX12_isKept 42 (.aload_n 0) 1 43 := ⟨by decide +kernel, rfl⟩
theorem dX12_isKept_43 : dc cX12_isKept 43 (.invokevirtual 186) 3 46 := ⟨by decide +kernel, rfl⟩
theorem dX12_isKept_46 : dc cX12_isKept 46 (.ifCond .ne 10) 3 49 := ⟨by decide +kernel, rfl⟩
theorem dX12_isKept_49 : dc cX12_isKept 49 (.aload_n 0) 1 50 := ⟨by decide +kernel, rfl⟩
theorem dX12_isKept_50 : dc cX12_isKept 50 (.invokevirtual 189) 3 53 := ⟨by decide +kernel, rfl⟩
theorem dX12_isKept_53 : dc cX12_isKept 53 (.ifCond .eq 5) 3 56 := ⟨by decide +kernel, rfl⟩
theorem dX12_isKept_56 : dc cX12_isKept 56 (.iconst 1) 1 57 := ⟨by decide +kernel, rfl⟩
theorem dX12_isKept_57 : dc cX12_isKept 57 (.ireturn) 1 58 := ⟨by decide +kernel, rfl⟩
theorem dX12_isKept_58 : dc cX12_isKept 58 (.aload_n 0) 1 59 := ⟨by decide +kernel, rfl⟩
theorem dX12_isKept_59 : dc cX12_isKept 59 (.invokevirtual 192) 3 62 := ⟨by decide +kernel, rfl⟩
theorem dX12_isKept_62 : dc cX12_isKept 62 (.ifCond .ne 31) 3 65 := ⟨by decide +kernel, rfl⟩
theorem dX12_isKept_65 : dc cX12_isKept 65 (.aload_n 0) 1 66 := ⟨by decide +kernel, rfl⟩
theorem dX12_isKept_66 : dc cX12_isKept 66 (.invokevirtual 195) 3 69 := ⟨by decide +kernel, rfl⟩
theorem dX12_isKept_69 : dc cX12_isKept 69 (.ifCond .ne 24) 3 72 := ⟨by decide +kernel, rfl⟩
theorem dX12_isKept_72 : dc cX12_isKept 72 (.aload_n 0) 1 73 := ⟨by decide +kernel, rfl⟩
theorem dX12_isKept_73 : dc cX12_isKept 73 (.invokevirtual 198) 3 76 := ⟨by decide +kernel, rfl⟩
theorem dX12_isKept_76 : dc cX12_isKept 76 (.ifCond .ne 17) 3 79 := ⟨by decide +kernel, rfl⟩
theorem dX12_isKept_79 : dc cX12_isKept 79 (.aload_n 0) 1 80 := ⟨by decide +kernel, rfl⟩
theorem dX12_isKept_80 : dc cX12_isKept 80 (.invokevirtual 201) 3 83 := ⟨by decide +kernel, rfl⟩
theorem dX12_isKept_83 : dc cX12_isKept 83 (.ifCond .ne 10) 3 86 := ⟨by decide +kernel, rfl⟩
theorem dX12_isKept_86 : dc cX12_isKept 86 (.aload_n 0) 1 87 := ⟨by decide +kernel, rfl⟩
theorem dX12_isKept_87 : dc cX12_isKept 87 (.invokevirtual 204) 3 90 := ⟨by decide +kernel, rfl⟩
theorem dX12_isKept_90 : dc cX12_isKept 90 (.ifCond .eq 5) 3 93 := ⟨by decide +kernel, rfl⟩
theorem dX12_isKept_93 : dc cX12_isKept 93 (.iconst 1) 1 94 := ⟨by decide +kernel, rfl⟩
theorem dX12_isKept_94 : dc cX12_isKept 94 (.ireturn) 1 95 := ⟨by decide +kernel, rfl⟩
theorem dX12_isKept_95 : dc cX12_isKept 95 (.aload_n 0) 1 96 := ⟨by decide +kernel, rfl⟩
theorem dX12_isKept_96 : dc cX12_isKept 96 (.invokevirtual 207) 3 99 := ⟨by decide +kernel, rfl⟩
theorem dX12_isKept_99 : dc cX12_isKept 99 (.ifCond .ge 17) 3 102 := ⟨by decide +kernel, rfl⟩
theorem dX12_isKept_102 : dc cX12_isKept 102 (.aload_n 0) 1 103 := ⟨by decide +kernel, rfl⟩
theorem dX12_isKept_103 : dc cX12_isKept 103 (.invokevirtual 211) 3 106 := ⟨by decide +kernel, rfl⟩
theorem dX12_isKept_106 : dc cX12_isKept 106 (.ifCond .ge 10) 3 109 := ⟨by decide +kernel, rfl⟩
theorem dX12_isKept_109 : dc cX12_isKept 109 (.aload_n 0) 1 110 := ⟨by decide +kernel, rfl⟩
theorem dX12_isKept_110 : dc cX12_isKept 110 (.invokevirtual 214) 3 113 := ⟨by decide +kernel, rfl⟩
theorem dX12_isKept_113 : dc cX12_isKept 113 (.ifCond .eq 7) 3 116 := ⟨by decide +kernel, rfl⟩
theorem dX12_isKept_116 : dc cX12_isKept 116 (.iconst 1) 1 117 := ⟨by decide +kernel, rfl⟩
theorem dX12_isKept_117 : dc cX12_isKept 117 (.goto 4) 3 120 := ⟨by decide +kernel, rfl⟩
theorem dX12_isKept_120 : dc cX12_isKept 120 (.iconst 0) 1 121 := ⟨by decide +kernel, rfl⟩
theorem dX12_isKept_121 : dc cX12_isKept 121 (.ireturn) 1 122 := ⟨by decide +kernel, rfl⟩
theorem nm_X12_isKept : (yX12_isKept).cls ≠ "java/lang/invoke/MethodHandle" ∧ (yX12_isKept).cls ≠ "java/lang/invoke/VarHandle" ∧ (parseMethodDescriptor (yX12_isKept).desc).map (fun d => d.parameters.length) = some 0 := ⟨by decide +kernel, by decide +kernel, by decide +kernel⟩
set_option maxRecDepth 100000 in
theorem z_X12_isKept {a0 : Nat} {M : KM} {y : Int32} (hf : f_X12_isKept a0 M = y) : (y = 0 ∨ y = 1) := by
  unfold f_X12_isKept at hf
  obtain ⟨v1, hcv1⟩ : ∃ q, f_X12_isTo a0 M = q := ⟨_, rfl⟩
  replace hf := lt_e hf hcv1.symm
  by_cases h32 : v1 = 0
  · replace hf := (if_pos h32).symm.trans hf
    obtain ⟨v2, hcv2⟩ : ∃ q, f_X12_isClock a0 M = q := ⟨_, rfl⟩
    replace hf := lt_e hf hcv2.symm
    by_cases h31 : v2 = 0
    · replace hf := (if_pos h31).symm.trans hf
      obtain ⟨v3, hcv3⟩ : ∃ q, f_X12_isRope a0 M = q := ⟨_, rfl⟩
      replace hf := lt_e hf hcv3.symm
      by_cases h30 : v3 = 0
      · replace hf := (if_pos h30).symm.trans hf
        obtain ⟨v4, hcv4⟩ : ∃ q, f_X12_isHabit a0 M = q := ⟨_, rfl⟩
        replace hf := lt_e hf hcv4.symm
        by_cases h29 : v4 = 0
        · replace hf := (if_pos h29).symm.trans hf
          obtain ⟨v5, hcv5⟩ : ∃ q, f_X12_isOdds a0 M = q := ⟨_, rfl⟩
          replace hf := lt_e hf hcv5.symm
          by_cases h28 : v5 = 0
          · replace hf := (if_pos h28).symm.trans hf
            obtain ⟨v6, hcv6⟩ : ∃ q, f_X12_isPlace a0 M = q := ⟨_, rfl⟩
            replace hf := lt_e hf hcv6.symm
            by_cases h27 : v6 = 0
            · replace hf := (if_pos h27).symm.trans hf
              obtain ⟨v7, hcv7⟩ : ∃ q, f_X12_isRoad a0 M = q := ⟨_, rfl⟩
              replace hf := lt_e hf hcv7.symm
              by_cases h26 : v7 = 0
              · replace hf := (if_pos h26).symm.trans hf
                obtain ⟨v8, hcv8⟩ : ∃ q, f_X12_isMinutes a0 M = q := ⟨_, rfl⟩
                replace hf := lt_e hf hcv8.symm
                by_cases h25 : v8 = 0
                · replace hf := (if_pos h25).symm.trans hf
                  obtain ⟨v9, hcv9⟩ : ∃ q, f_X12_isSmells a0 M = q := ⟨_, rfl⟩
                  replace hf := lt_e hf hcv9.symm
                  by_cases h24 : v9 = 0
                  · replace hf := (if_pos h24).symm.trans hf
                    obtain ⟨v10, hcv10⟩ : ∃ q, f_X12_isSighted a0 M = q := ⟨_, rfl⟩
                    replace hf := lt_e hf hcv10.symm
                    by_cases h23 : v10 = 0
                    · replace hf := (if_pos h23).symm.trans hf
                      obtain ⟨v11, hcv11⟩ : ∃ q, f_X12_isGlasses a0 M = q := ⟨_, rfl⟩
                      replace hf := lt_e hf hcv11.symm
                      by_cases h22 : v11 = 0
                      · replace hf := (if_pos h22).symm.trans hf
                        obtain ⟨v12, hcv12⟩ : ∃ q, f_X12_isBlind a0 M = q := ⟨_, rfl⟩
                        replace hf := lt_e hf hcv12.symm
                        by_cases h21 : v12 = 0
                        · replace hf := (if_pos h21).symm.trans hf
                          obtain ⟨v13, hcv13⟩ : ∃ q, f_X12_isKnows a0 M = q := ⟨_, rfl⟩
                          replace hf := lt_e hf hcv13.symm
                          by_cases h20 : v13 = 0
                          · replace hf := (if_pos h20).symm.trans hf
                            obtain ⟨v14, hcv14⟩ : ∃ q, f_X12_stepWord a0 M = q := ⟨_, rfl⟩
                            replace hf := lt_e hf hcv14.symm
                            obtain ⟨j116, ej116, hf⟩ := lt_j hf
                            have hj116 : j116 = y → (y = 0 ∨ y = 1) := by
                              intro hf
                              rw [ej116] at hf
                              obtain rfl := hf
                              exact (Or.inr rfl)
                            by_cases h19 : 0 ≤ v14
                            · replace hf := (if_pos h19).symm.trans hf
                              exact hj116 hf
                            · replace hf := (if_neg h19).symm.trans hf
                              obtain ⟨v15, hcv15⟩ : ∃ q, f_X12_testWord a0 M = q := ⟨_, rfl⟩
                              replace hf := lt_e hf hcv15.symm
                              by_cases h18 : 0 ≤ v15
                              · replace hf := (if_pos h18).symm.trans hf
                                exact hj116 hf
                              · replace hf := (if_neg h18).symm.trans hf
                                obtain ⟨v16, hcv16⟩ : ∃ q, f_X12_isEnd a0 M = q := ⟨_, rfl⟩
                                replace hf := lt_e hf hcv16.symm
                                by_cases h17 : v16 = 0
                                · replace hf := (if_pos h17).symm.trans hf
                                  obtain rfl := hf
                                  exact (Or.inl rfl)
                                · replace hf := (if_neg h17).symm.trans hf
                                  exact hj116 hf
                          · replace hf := (if_neg h20).symm.trans hf
                            obtain rfl := hf
                            exact (Or.inr rfl)
                        · replace hf := (if_neg h21).symm.trans hf
                          obtain rfl := hf
                          exact (Or.inr rfl)
                      · replace hf := (if_neg h22).symm.trans hf
                        obtain rfl := hf
                        exact (Or.inr rfl)
                    · replace hf := (if_neg h23).symm.trans hf
                      obtain rfl := hf
                      exact (Or.inr rfl)
                  · replace hf := (if_neg h24).symm.trans hf
                    obtain rfl := hf
                    exact (Or.inr rfl)
                · replace hf := (if_neg h25).symm.trans hf
                  obtain rfl := hf
                  exact (Or.inr rfl)
              · replace hf := (if_neg h26).symm.trans hf
                obtain rfl := hf
                exact (Or.inr rfl)
            · replace hf := (if_neg h27).symm.trans hf
              obtain rfl := hf
              exact (Or.inr rfl)
          · replace hf := (if_neg h28).symm.trans hf
            obtain rfl := hf
            exact (Or.inr rfl)
        · replace hf := (if_neg h29).symm.trans hf
          obtain rfl := hf
          exact (Or.inr rfl)
      · replace hf := (if_neg h30).symm.trans hf
        obtain rfl := hf
        exact (Or.inr rfl)
    · replace hf := (if_neg h31).symm.trans hf
      obtain rfl := hf
      exact (Or.inr rfl)
  · replace hf := (if_neg h32).symm.trans hf
    obtain rfl := hf
    exact (Or.inr rfl)
set_option maxRecDepth 100000 in
set_option maxHeartbeats 4000000 in
theorem c_X12_isKept {l : Launch} {ad : Nat → Nat} {cy : Nat → ClassId} {D : va_G} {z : Nat} {a0 : Nat} {M : KM} {y : Int32} (h0 : kty a0 = 12) (hf : f_X12_isKept a0 M = y) : KC l ad cy D z yX12_isKept cX12_isKept 1 (some .boolean) 3 [.ref (ad a0)] M (some (.int y), M) := by
  refine kv_enter (by decide +kernel) (Nat.le_of_ble_eq_true rfl) ?_
  intro x hl hD hz G
  subst hl hD hz
  unfold f_X12_isKept at hf
  have G : KG ad cy x cX12_isKept "NoonGuidesModel" 1 (some (some .boolean)) 3 := G
  show KV ad cy x (some (.int y), M) 0 [(0, .ref (ad a0))] [] M
  refine v_aload_n G dX12_isKept_0 0 rfl ?_
  obtain ⟨v1, hcv1⟩ : ∃ q, f_X12_isTo a0 M = q := ⟨_, rfl⟩
  replace hf := lt_e hf hcv1.symm
  refine v_callV [] G (c_X12_isTo h0 hcv1) h0 (by decide) rfl rfl rfl t_1758 t_1760 t_p71 t_17 t_1761 nm_X12_isTo (by decide) (by decide) rfl rfl (Nat.le_of_ble_eq_true rfl) dX12_isKept_1 (kv_ri ?_)
  refine v_if_ne 56 G dX12_isKept_4 (by decide) (fun h32 => ?_) (fun h32 => ?_)
  · replace hf := (if_neg h32).symm.trans hf
    refine v_iconst (1 : Int32) G dX12_isKept_56 (by decide) ?_
    obtain rfl := hf
    exact v_zret G (Or.inr rfl) dX12_isKept_57
  · replace hf := (if_pos h32).symm.trans hf
    refine v_aload_n G dX12_isKept_7 0 rfl ?_
    obtain ⟨v2, hcv2⟩ : ∃ q, f_X12_isClock a0 M = q := ⟨_, rfl⟩
    replace hf := lt_e hf hcv2.symm
    refine v_callV [] G (c_X12_isClock h0 hcv2) h0 (by decide) rfl rfl rfl t_1766 t_1768 t_p73 t_17 t_1769 nm_X12_isClock (by decide) (by decide) rfl rfl (Nat.le_of_ble_eq_true rfl) dX12_isKept_8 (kv_ri ?_)
    refine v_if_ne 56 G dX12_isKept_11 (by decide) (fun h31 => ?_) (fun h31 => ?_)
    · replace hf := (if_neg h31).symm.trans hf
      refine v_iconst (1 : Int32) G dX12_isKept_56 (by decide) ?_
      obtain rfl := hf
      exact v_zret G (Or.inr rfl) dX12_isKept_57
    · replace hf := (if_pos h31).symm.trans hf
      refine v_aload_n G dX12_isKept_14 0 rfl ?_
      obtain ⟨v3, hcv3⟩ : ∃ q, f_X12_isRope a0 M = q := ⟨_, rfl⟩
      replace hf := lt_e hf hcv3.symm
      refine v_callV [] G (c_X12_isRope h0 hcv3) h0 (by decide) rfl rfl rfl t_1774 t_1776 t_p75 t_17 t_1777 nm_X12_isRope (by decide) (by decide) rfl rfl (Nat.le_of_ble_eq_true rfl) dX12_isKept_15 (kv_ri ?_)
      refine v_if_ne 56 G dX12_isKept_18 (by decide) (fun h30 => ?_) (fun h30 => ?_)
      · replace hf := (if_neg h30).symm.trans hf
        refine v_iconst (1 : Int32) G dX12_isKept_56 (by decide) ?_
        obtain rfl := hf
        exact v_zret G (Or.inr rfl) dX12_isKept_57
      · replace hf := (if_pos h30).symm.trans hf
        refine v_aload_n G dX12_isKept_21 0 rfl ?_
        obtain ⟨v4, hcv4⟩ : ∃ q, f_X12_isHabit a0 M = q := ⟨_, rfl⟩
        replace hf := lt_e hf hcv4.symm
        refine v_callV [] G (c_X12_isHabit h0 hcv4) h0 (by decide) rfl rfl rfl t_1778 t_1780 t_p76 t_17 t_1781 nm_X12_isHabit (by decide) (by decide) rfl rfl (Nat.le_of_ble_eq_true rfl) dX12_isKept_22 (kv_ri ?_)
        refine v_if_ne 56 G dX12_isKept_25 (by decide) (fun h29 => ?_) (fun h29 => ?_)
        · replace hf := (if_neg h29).symm.trans hf
          refine v_iconst (1 : Int32) G dX12_isKept_56 (by decide) ?_
          obtain rfl := hf
          exact v_zret G (Or.inr rfl) dX12_isKept_57
        · replace hf := (if_pos h29).symm.trans hf
          refine v_aload_n G dX12_isKept_28 0 rfl ?_
          obtain ⟨v5, hcv5⟩ : ∃ q, f_X12_isOdds a0 M = q := ⟨_, rfl⟩
          replace hf := lt_e hf hcv5.symm
          refine v_callV [] G (c_X12_isOdds h0 hcv5) h0 (by decide) rfl rfl rfl t_1786 t_1788 t_p78 t_17 t_1789 nm_X12_isOdds (by decide) (by decide) rfl rfl (Nat.le_of_ble_eq_true rfl) dX12_isKept_29 (kv_ri ?_)
          refine v_if_ne 56 G dX12_isKept_32 (by decide) (fun h28 => ?_) (fun h28 => ?_)
          · replace hf := (if_neg h28).symm.trans hf
            refine v_iconst (1 : Int32) G dX12_isKept_56 (by decide) ?_
            obtain rfl := hf
            exact v_zret G (Or.inr rfl) dX12_isKept_57
          · replace hf := (if_pos h28).symm.trans hf
            refine v_aload_n G dX12_isKept_35 0 rfl ?_
            obtain ⟨v6, hcv6⟩ : ∃ q, f_X12_isPlace a0 M = q := ⟨_, rfl⟩
            replace hf := lt_e hf hcv6.symm
            refine v_callV [] G (c_X12_isPlace h0 hcv6) h0 (by decide) rfl rfl rfl t_1790 t_1792 t_p79 t_17 t_1793 nm_X12_isPlace (by decide) (by decide) rfl rfl (Nat.le_of_ble_eq_true rfl) dX12_isKept_36 (kv_ri ?_)
            refine v_if_ne 56 G dX12_isKept_39 (by decide) (fun h27 => ?_) (fun h27 => ?_)
            · replace hf := (if_neg h27).symm.trans hf
              refine v_iconst (1 : Int32) G dX12_isKept_56 (by decide) ?_
              obtain rfl := hf
              exact v_zret G (Or.inr rfl) dX12_isKept_57
            · replace hf := (if_pos h27).symm.trans hf
              refine v_aload_n G dX12_isKept_42 0 rfl ?_
              obtain ⟨v7, hcv7⟩ : ∃ q, f_X12_isRoad a0 M = q := ⟨_, rfl⟩
              replace hf := lt_e hf hcv7.symm
              refine v_callV [] G (c_X12_isRoad h0 hcv7) h0 (by decide) rfl rfl rfl t_1814 t_1816 t_p85 t_17 t_1817 nm_X12_isRoad (by decide) (by decide) rfl rfl (Nat.le_of_ble_eq_true rfl) dX12_isKept_43 (kv_ri ?_)
              refine v_if_ne 56 G dX12_isKept_46 (by decide) (fun h26 => ?_) (fun h26 => ?_)
              · replace hf := (if_neg h26).symm.trans hf
                refine v_iconst (1 : Int32) G dX12_isKept_56 (by decide) ?_
                obtain rfl := hf
                exact v_zret G (Or.inr rfl) dX12_isKept_57
              · replace hf := (if_pos h26).symm.trans hf
                refine v_aload_n G dX12_isKept_49 0 rfl ?_
                obtain ⟨v8, hcv8⟩ : ∃ q, f_X12_isMinutes a0 M = q := ⟨_, rfl⟩
                replace hf := lt_e hf hcv8.symm
                refine v_callV [] G (c_X12_isMinutes h0 hcv8) h0 (by decide) rfl rfl rfl t_1818 t_1820 t_p86 t_17 t_1821 nm_X12_isMinutes (by decide) (by decide) rfl rfl (Nat.le_of_ble_eq_true rfl) dX12_isKept_50 (kv_ri ?_)
                refine v_if_eq 58 G dX12_isKept_53 (by decide) (fun h25 => ?_) (fun h25 => ?_)
                · replace hf := (if_pos h25).symm.trans hf
                  refine v_aload_n G dX12_isKept_58 0 rfl ?_
                  obtain ⟨v9, hcv9⟩ : ∃ q, f_X12_isSmells a0 M = q := ⟨_, rfl⟩
                  replace hf := lt_e hf hcv9.symm
                  refine v_callV [] G (c_X12_isSmells h0 hcv9) h0 (by decide) rfl rfl rfl t_1823 t_1825 t_p87 t_17 t_1826 nm_X12_isSmells (by decide) (by decide) rfl rfl (Nat.le_of_ble_eq_true rfl) dX12_isKept_59 (kv_ri ?_)
                  refine v_if_ne 93 G dX12_isKept_62 (by decide) (fun h24 => ?_) (fun h24 => ?_)
                  · replace hf := (if_neg h24).symm.trans hf
                    refine v_iconst (1 : Int32) G dX12_isKept_93 (by decide) ?_
                    obtain rfl := hf
                    exact v_zret G (Or.inr rfl) dX12_isKept_94
                  · replace hf := (if_pos h24).symm.trans hf
                    refine v_aload_n G dX12_isKept_65 0 rfl ?_
                    obtain ⟨v10, hcv10⟩ : ∃ q, f_X12_isSighted a0 M = q := ⟨_, rfl⟩
                    replace hf := lt_e hf hcv10.symm
                    refine v_callV [] G (c_X12_isSighted h0 hcv10) h0 (by decide) rfl rfl rfl t_1827 t_1829 t_p88 t_17 t_1830 nm_X12_isSighted (by decide) (by decide) rfl rfl (Nat.le_of_ble_eq_true rfl) dX12_isKept_66 (kv_ri ?_)
                    refine v_if_ne 93 G dX12_isKept_69 (by decide) (fun h23 => ?_) (fun h23 => ?_)
                    · replace hf := (if_neg h23).symm.trans hf
                      refine v_iconst (1 : Int32) G dX12_isKept_93 (by decide) ?_
                      obtain rfl := hf
                      exact v_zret G (Or.inr rfl) dX12_isKept_94
                    · replace hf := (if_pos h23).symm.trans hf
                      refine v_aload_n G dX12_isKept_72 0 rfl ?_
                      obtain ⟨v11, hcv11⟩ : ∃ q, f_X12_isGlasses a0 M = q := ⟨_, rfl⟩
                      replace hf := lt_e hf hcv11.symm
                      refine v_callV [] G (c_X12_isGlasses h0 hcv11) h0 (by decide) rfl rfl rfl t_1832 t_1834 t_p89 t_17 t_1835 nm_X12_isGlasses (by decide) (by decide) rfl rfl (Nat.le_of_ble_eq_true rfl) dX12_isKept_73 (kv_ri ?_)
                      refine v_if_ne 93 G dX12_isKept_76 (by decide) (fun h22 => ?_) (fun h22 => ?_)
                      · replace hf := (if_neg h22).symm.trans hf
                        refine v_iconst (1 : Int32) G dX12_isKept_93 (by decide) ?_
                        obtain rfl := hf
                        exact v_zret G (Or.inr rfl) dX12_isKept_94
                      · replace hf := (if_pos h22).symm.trans hf
                        refine v_aload_n G dX12_isKept_79 0 rfl ?_
                        obtain ⟨v12, hcv12⟩ : ∃ q, f_X12_isBlind a0 M = q := ⟨_, rfl⟩
                        replace hf := lt_e hf hcv12.symm
                        refine v_callV [] G (c_X12_isBlind h0 hcv12) h0 (by decide) rfl rfl rfl t_1836 t_1838 t_p90 t_17 t_1839 nm_X12_isBlind (by decide) (by decide) rfl rfl (Nat.le_of_ble_eq_true rfl) dX12_isKept_80 (kv_ri ?_)
                        refine v_if_ne 93 G dX12_isKept_83 (by decide) (fun h21 => ?_) (fun h21 => ?_)
                        · replace hf := (if_neg h21).symm.trans hf
                          refine v_iconst (1 : Int32) G dX12_isKept_93 (by decide) ?_
                          obtain rfl := hf
                          exact v_zret G (Or.inr rfl) dX12_isKept_94
                        · replace hf := (if_pos h21).symm.trans hf
                          refine v_aload_n G dX12_isKept_86 0 rfl ?_
                          obtain ⟨v13, hcv13⟩ : ∃ q, f_X12_isKnows a0 M = q := ⟨_, rfl⟩
                          replace hf := lt_e hf hcv13.symm
                          refine v_callV [] G (c_X12_isKnows h0 hcv13) h0 (by decide) rfl rfl rfl t_1840 t_1842 t_p91 t_17 t_1843 nm_X12_isKnows (by decide) (by decide) rfl rfl (Nat.le_of_ble_eq_true rfl) dX12_isKept_87 (kv_ri ?_)
                          refine v_if_eq 95 G dX12_isKept_90 (by decide) (fun h20 => ?_) (fun h20 => ?_)
                          · replace hf := (if_pos h20).symm.trans hf
                            refine v_aload_n G dX12_isKept_95 0 rfl ?_
                            obtain ⟨v14, hcv14⟩ : ∃ q, f_X12_stepWord a0 M = q := ⟨_, rfl⟩
                            replace hf := lt_e hf hcv14.symm
                            refine v_callV [] G (c_X12_stepWord h0 hcv14) h0 (by decide) rfl rfl rfl t_1844 t_1846 t_p92 t_17 t_1847 nm_X12_stepWord (by decide) (by decide) rfl rfl (Nat.le_of_ble_eq_true rfl) dX12_isKept_96 (kv_ri ?_)
                            obtain ⟨j116, ej116, hf⟩ := lt_j hf
                            have hj116 : j116 = y → KV ad cy x (some (.int y), M) 116 [] [] M := by
                              intro hf
                              rw [ej116] at hf
                              refine v_iconst (1 : Int32) G dX12_isKept_116 (by decide) ?_
                              refine v_goto 121 G dX12_isKept_117 (by decide) ?_
                              obtain rfl := hf
                              exact v_zret G (Or.inr rfl) dX12_isKept_121
                            refine v_if_ge 116 G dX12_isKept_99 (by decide) (fun h19 => ?_) (fun h19 => ?_)
                            · replace hf := (if_pos h19).symm.trans hf
                              refine v_sub _ [] rfl ?_
                              exact hj116 hf
                            · replace hf := (if_neg h19).symm.trans hf
                              refine v_aload_n G dX12_isKept_102 0 rfl ?_
                              obtain ⟨v15, hcv15⟩ : ∃ q, f_X12_testWord a0 M = q := ⟨_, rfl⟩
                              replace hf := lt_e hf hcv15.symm
                              refine v_callV [] G (c_X12_testWord h0 hcv15) h0 (by decide) rfl rfl rfl t_1721 t_1723 t_p64 t_17 t_1724 nm_X12_testWord (by decide) (by decide) rfl rfl (Nat.le_of_ble_eq_true rfl) dX12_isKept_103 (kv_ri ?_)
                              refine v_if_ge 116 G dX12_isKept_106 (by decide) (fun h18 => ?_) (fun h18 => ?_)
                              · replace hf := (if_pos h18).symm.trans hf
                                refine v_sub _ [] rfl ?_
                                exact hj116 hf
                              · replace hf := (if_neg h18).symm.trans hf
                                refine v_aload_n G dX12_isKept_109 0 rfl ?_
                                obtain ⟨v16, hcv16⟩ : ∃ q, f_X12_isEnd a0 M = q := ⟨_, rfl⟩
                                replace hf := lt_e hf hcv16.symm
                                refine v_callV [] G (c_X12_isEnd h0 hcv16) h0 (by decide) rfl rfl rfl t_1848 t_1850 t_p93 t_17 t_1851 nm_X12_isEnd (by decide) (by decide) rfl rfl (Nat.le_of_ble_eq_true rfl) dX12_isKept_110 (kv_ri ?_)
                                refine v_if_eq 120 G dX12_isKept_113 (by decide) (fun h17 => ?_) (fun h17 => ?_)
                                · replace hf := (if_pos h17).symm.trans hf
                                  refine v_iconst (0 : Int32) G dX12_isKept_120 (by decide) ?_
                                  obtain rfl := hf
                                  exact v_zret G (Or.inl rfl) dX12_isKept_121
                                · replace hf := (if_neg h17).symm.trans hf
                                  refine v_sub _ [] rfl ?_
                                  exact hj116 hf
                          · replace hf := (if_neg h20).symm.trans hf
                            refine v_iconst (1 : Int32) G dX12_isKept_93 (by decide) ?_
                            obtain rfl := hf
                            exact v_zret G (Or.inr rfl) dX12_isKept_94
                · replace hf := (if_neg h25).symm.trans hf
                  refine v_iconst (1 : Int32) G dX12_isKept_56 (by decide) ?_
                  obtain rfl := hf
                  exact v_zret G (Or.inr rfl) dX12_isKept_57
abbrev cX12_isName : ByteArray := prog_14_method_45_code
def yX12_isName : MethodName := ⟨RX12, "isName", "()Z"⟩
theorem dX12_isName_0 : dc cX12_isName 0 (.aload_n 0) 1 1 := ⟨by decide +kernel, rfl⟩
theorem dX12_isName_1 : dc cX12_isName 1 (.getfield 130) 3 4 := ⟨by decide +kernel, rfl⟩
theorem dX12_isName_4 : dc cX12_isName 4 (.iconst 1) 1 5 := ⟨by decide +kernel, rfl⟩
theorem dX12_isName_5 : dc cX12_isName 5 (.if_icmp .ne 23) 3 8 := ⟨by decide +kernel, rfl⟩
theorem dX12_isName_8 : dc cX12_isName 8 (.aload_n 0) 1 9 := ⟨by decide +kernel, rfl⟩
theorem dX12_isName_9 : dc cX12_isName 9 (.getfield 143) 3 12 := ⟨by decide +kernel, rfl⟩
theorem dX12_isName_12 : dc cX12_isName 12 (.bipush 8) 2 14 := ⟨by decide +kernel, rfl⟩
theorem dX12_isName_14 : dc cX12_isName 14 (.if_icmp .gt 14) 3 17 := ⟨by decide +kernel, rfl⟩
theorem dX12_isName_17 : dc cX12_isName 17 (.aload_n 0) 1 18 := ⟨by decide +kernel, rfl⟩
theorem dX12_isName_18 : dc cX12_isName 18 (.invokevirtual 217) 3 21 := ⟨by decide +kernel, rfl⟩
theorem dX12_isName_21 : dc cX12_isName 21 (.ifCond .ne 7) 3 24 := ⟨by decide +kernel, rfl⟩
theorem dX12_isName_24 : dc cX12_isName 24 (.iconst 1) 1 25 := ⟨by decide +kernel, rfl⟩
theorem dX12_isName_25 : dc cX12_isName 25 (.goto 4) 3 28 := ⟨by decide +kernel, rfl⟩
theorem dX12_isName_28 : dc cX12_isName 28 (.iconst 0) 1 29 := ⟨by decide +kernel, rfl⟩
theorem dX12_isName_29 : dc cX12_isName 29 (.ireturn) 1 30 := ⟨by decide +kernel, rfl⟩
theorem nm_X12_isName : (yX12_isName).cls ≠ "java/lang/invoke/MethodHandle" ∧ (yX12_isName).cls ≠ "java/lang/invoke/VarHandle" ∧ (parseMethodDescriptor (yX12_isName).desc).map (fun d => d.parameters.length) = some 0 := ⟨by decide +kernel, by decide +kernel, by decide +kernel⟩
set_option maxRecDepth 100000 in
theorem z_X12_isName {a0 : Nat} {M : KM} {y : Int32} (hf : f_X12_isName a0 M = y) : (y = 0 ∨ y = 1) := by
  unfold f_X12_isName at hf
  by_cases h4 : (M.1 a0 14) = (1 : Int32)
  · replace hf := (if_pos h4).symm.trans hf
    by_cases h3 : (8 : Int32) < (M.1 a0 18)
    · replace hf := (if_pos h3).symm.trans hf
      obtain rfl := hf
      exact (Or.inl rfl)
    · replace hf := (if_neg h3).symm.trans hf
      obtain ⟨v1, hcv1⟩ : ∃ q, f_X12_isKept a0 M = q := ⟨_, rfl⟩
      replace hf := lt_e hf hcv1.symm
      by_cases h2 : v1 = 0
      · replace hf := (if_pos h2).symm.trans hf
        obtain rfl := hf
        exact (Or.inr rfl)
      · replace hf := (if_neg h2).symm.trans hf
        obtain rfl := hf
        exact (Or.inl rfl)
  · replace hf := (if_neg h4).symm.trans hf
    obtain rfl := hf
    exact (Or.inl rfl)
set_option maxRecDepth 100000 in
set_option maxHeartbeats 4000000 in
theorem c_X12_isName {l : Launch} {ad : Nat → Nat} {cy : Nat → ClassId} {D : va_G} {z : Nat} {a0 : Nat} {M : KM} {y : Int32} (h0 : kty a0 = 12) (hf : f_X12_isName a0 M = y) : KC l ad cy D z yX12_isName cX12_isName 1 (some .boolean) 4 [.ref (ad a0)] M (some (.int y), M) := by
  refine kv_enter (by decide +kernel) (Nat.le_of_ble_eq_true rfl) ?_
  intro x hl hD hz G
  subst hl hD hz
  unfold f_X12_isName at hf
  have G : KG ad cy x cX12_isName "NoonGuidesModel" 1 (some (some .boolean)) 4 := G
  show KV ad cy x (some (.int y), M) 0 [(0, .ref (ad a0))] [] M
  refine v_aload_n G dX12_isName_0 0 rfl ?_
  refine gf_12_14 G h0 t_1505 (Or.inl rfl) dX12_isName_1 ?_
  refine v_iconst (1 : Int32) G dX12_isName_4 (by decide) ?_
  refine v_icmp_ne 28 G dX12_isName_5 (by decide) (fun h4 => ?_) (fun h4 => ?_)
  · replace hf := (if_neg h4).symm.trans hf
    refine v_iconst (0 : Int32) G dX12_isName_28 (by decide) ?_
    obtain rfl := hf
    exact v_zret G (Or.inl rfl) dX12_isName_29
  · replace hf := (if_pos h4).symm.trans hf
    refine v_aload_n G dX12_isName_8 0 rfl ?_
    refine gf_12_18 G h0 t_1509 (Or.inl rfl) dX12_isName_9 ?_
    refine v_bipush (8 : Int32) G dX12_isName_12 (by decide) ?_
    refine v_icmp_gt 28 G dX12_isName_14 (by decide) (fun h3 => ?_) (fun h3 => ?_)
    · replace hf := (if_pos h3).symm.trans hf
      refine v_iconst (0 : Int32) G dX12_isName_28 (by decide) ?_
      obtain rfl := hf
      exact v_zret G (Or.inl rfl) dX12_isName_29
    · replace hf := (if_neg h3).symm.trans hf
      refine v_aload_n G dX12_isName_17 0 rfl ?_
      obtain ⟨v1, hcv1⟩ : ∃ q, f_X12_isKept a0 M = q := ⟨_, rfl⟩
      replace hf := lt_e hf hcv1.symm
      refine v_callV [] G (c_X12_isKept h0 hcv1) h0 (by decide) rfl rfl rfl t_1810 t_1812 t_p84 t_17 t_1813 nm_X12_isKept (by decide) (by decide) rfl rfl (Nat.le_of_ble_eq_true rfl) dX12_isName_18 (kv_ri ?_)
      refine v_if_ne 28 G dX12_isName_21 (by decide) (fun h2 => ?_) (fun h2 => ?_)
      · replace hf := (if_neg h2).symm.trans hf
        refine v_iconst (0 : Int32) G dX12_isName_28 (by decide) ?_
        obtain rfl := hf
        exact v_zret G (Or.inl rfl) dX12_isName_29
      · replace hf := (if_pos h2).symm.trans hf
        refine v_iconst (1 : Int32) G dX12_isName_24 (by decide) ?_
        refine v_goto 29 G dX12_isName_25 (by decide) ?_
        obtain rfl := hf
        exact v_zret G (Or.inr rfl) dX12_isName_29
abbrev cX12_fail : ByteArray := prog_14_method_46_code
def yX12_fail : MethodName := ⟨RX12, "fail", "(II)V"⟩
theorem dX12_fail_0 : dc cX12_fail 0 (.aload_n 0) 1 1 := ⟨by decide +kernel, rfl⟩
theorem dX12_fail_1 : dc cX12_fail 1 (.getfield 220) 3 4 := ⟨by decide +kernel, rfl⟩
theorem dX12_fail_4 : dc cX12_fail 4 (.ifCond .le 4) 3 7 := ⟨by decide +kernel, rfl⟩
theorem dX12_fail_7 : dc cX12_fail 7 (.return_) 1 8 := ⟨by decide +kernel, rfl⟩
theorem dX12_fail_8 : dc cX12_fail 8 (.aload_n 0) 1 9 := ⟨by decide +kernel, rfl⟩
theorem dX12_fail_9 : dc cX12_fail 9 (.iload_n 1) 1 10 := ⟨by decide +kernel, rfl⟩
theorem dX12_fail_10 : dc cX12_fail 10 (.putfield 220) 3 13 := ⟨by decide +kernel, rfl⟩
theorem dX12_fail_13 : dc cX12_fail 13 (.aload_n 0) 1 14 := ⟨by decide +kernel, rfl⟩
theorem dX12_fail_14 : dc cX12_fail 14 (.iload_n 2) 1 15 := ⟨by decide +kernel, rfl⟩
theorem dX12_fail_15 : dc cX12_fail 15 (.putfield 223) 3 18 := ⟨by decide +kernel, rfl⟩
theorem dX12_fail_18 : dc cX12_fail 18 (.return_) 1 19 := ⟨by decide +kernel, rfl⟩
theorem nm_X12_fail : (yX12_fail).cls ≠ "java/lang/invoke/MethodHandle" ∧ (yX12_fail).cls ≠ "java/lang/invoke/VarHandle" ∧ (parseMethodDescriptor (yX12_fail).desc).map (fun d => d.parameters.length) = some 2 := ⟨by decide +kernel, by decide +kernel, by decide +kernel⟩
set_option maxRecDepth 100000 in
set_option maxHeartbeats 4000000 in
theorem c_X12_fail {l : Launch} {ad : Nat → Nat} {cy : Nat → ClassId} {D : va_G} {z : Nat} {a0 : Nat} {p1 : Int32} {p2 : Int32} {M : KM} {y : KM} (h0 : kty a0 = 12) (hf : f_X12_fail a0 p1 p2 M = y) : KC l ad cy D z yX12_fail cX12_fail 3 none 1 [.ref (ad a0), .int p1, .int p2] M (none, y) := by
  refine kv_enter (by decide +kernel) (Nat.le_of_ble_eq_true rfl) ?_
  intro x hl hD hz G
  subst hl hD hz
  unfold f_X12_fail at hf
  have G : KG ad cy x cX12_fail "NoonGuidesModel" 3 (some none) 1 := G
  show KV ad cy x (none, y) 0 [(0, .ref (ad a0)), (1, .int p1), (2, .int p2)] [] M
  refine v_aload_n G dX12_fail_0 0 rfl ?_
  refine gf_12_12 G h0 t_1503 (Or.inl rfl) dX12_fail_1 ?_
  refine v_if_le 8 G dX12_fail_4 (by decide) (fun h3 => ?_) (fun h3 => ?_)
  · replace hf := (if_pos h3).symm.trans hf
    refine v_aload_n G dX12_fail_8 0 rfl ?_
    refine v_iload_n G dX12_fail_9 1 rfl ?_
    refine pf_12_12 G h0 t_1503 (Or.inl rfl) dX12_fail_10 ?_
    refine v_nmM (fun M1 eM1 => ?_)
    replace hf := lt_e hf eM1
    refine v_aload_n G dX12_fail_13 0 rfl ?_
    refine v_iload_n G dX12_fail_14 2 rfl ?_
    refine pf_12_13 G h0 t_1504 (Or.inl rfl) dX12_fail_15 ?_
    refine v_nmM (fun M2 eM2 => ?_)
    replace hf := lt_e hf eM2
    obtain rfl := hf
    exact v_vret G dX12_fail_18
  · replace hf := (if_neg h3).symm.trans hf
    obtain rfl := hf
    exact v_vret G dX12_fail_7
abbrev cX12_amiss : ByteArray := prog_14_method_47_code
def yX12_amiss : MethodName := ⟨RX12, "amiss", "()V"⟩
theorem dX12_amiss_0 : dc cX12_amiss 0 (.aload_n 0) 1 1 := ⟨by decide +kernel, rfl⟩
theorem dX12_amiss_1 : dc cX12_amiss 1 (.aload_n 0) 1 2 := ⟨by decide +kernel, rfl⟩
theorem dX12_amiss_2 : dc cX12_amiss 2 (.getfield 130) 3 5 := ⟨by decide +kernel, rfl⟩
theorem dX12_amiss_5 : dc cX12_amiss 5 (.iconst 4) 1 6 := ⟨by decide +kernel, rfl⟩
theorem dX12_amiss_6 : dc cX12_amiss 6 (.if_icmp .ne 7) 3 9 := ⟨by decide +kernel, rfl⟩
theorem dX12_amiss_9 : dc cX12_amiss 9 (.iconst 1) 1 10 := ⟨by decide +kernel, rfl⟩
theorem dX12_amiss_10 : dc cX12_amiss 10 (.goto 4) 3 13 := ⟨by decide +kernel, rfl⟩
theorem dX12_amiss_13 : dc cX12_amiss 13 (.iconst 2) 1 14 := ⟨by decide +kernel, rfl⟩
theorem dX12_amiss_14 : dc cX12_amiss 14 (.aload_n 0) 1 15 := ⟨by decide +kernel, rfl⟩
theorem dX12_amiss_15 : dc cX12_amiss 15 (.getfield 124) 3 18 := ⟨by decide +kernel, rfl⟩
theorem dX12_amiss_18 : dc cX12_amiss 18 (.invokevirtual 226) 3 21 := ⟨by decide +kernel, rfl⟩
theorem dX12_amiss_21 : dc cX12_amiss 21 (.return_) 1 22 := ⟨by decide +kernel, rfl⟩
theorem nm_X12_amiss : (yX12_amiss).cls ≠ "java/lang/invoke/MethodHandle" ∧ (yX12_amiss).cls ≠ "java/lang/invoke/VarHandle" ∧ (parseMethodDescriptor (yX12_amiss).desc).map (fun d => d.parameters.length) = some 0 := ⟨by decide +kernel, by decide +kernel, by decide +kernel⟩
set_option maxRecDepth 100000 in
set_option maxHeartbeats 4000000 in
theorem c_X12_amiss {l : Launch} {ad : Nat → Nat} {cy : Nat → ClassId} {D : va_G} {z : Nat} {a0 : Nat} {M : KM} {y : KM} (h0 : kty a0 = 12) (hf : f_X12_amiss a0 M = y) : KC l ad cy D z yX12_amiss cX12_amiss 1 none 2 [.ref (ad a0)] M (none, y) := by
  refine kv_enter (by decide +kernel) (Nat.le_of_ble_eq_true rfl) ?_
  intro x hl hD hz G
  subst hl hD hz
  unfold f_X12_amiss at hf
  have G : KG ad cy x cX12_amiss "NoonGuidesModel" 1 (some none) 2 := G
  show KV ad cy x (none, y) 0 [(0, .ref (ad a0))] [] M
  refine v_aload_n G dX12_amiss_0 0 rfl ?_
  refine v_aload_n G dX12_amiss_1 0 rfl ?_
  refine gf_12_14 G h0 t_1505 (Or.inl rfl) dX12_amiss_2 ?_
  refine v_iconst (4 : Int32) G dX12_amiss_5 (by decide) ?_
  obtain ⟨j14, ej14, hf⟩ := lt_j hf
  have hj14 : ∀ (x1 : Int32), j14 x1 = y → KV ad cy x (none, y) 14 [(0, .ref (ad a0))] [.int x1, .ref (ad a0)] M := by
    intro x1 hf
    rw [ej14] at hf
    refine v_aload_n G dX12_amiss_14 0 rfl ?_
    refine gf_12_15 G h0 t_1506 (Or.inl rfl) dX12_amiss_15 ?_
    obtain ⟨v2, hcv2⟩ : ∃ q, f_X12_fail a0 x1 (M.1 a0 15) M = q := ⟨_, rfl⟩
    replace hf := lt_e hf hcv2.symm
    refine v_callV [.int x1, .int (M.1 a0 15)] G (c_X12_fail h0 hcv2) h0 (by decide) rfl rfl rfl t_1743 t_1745 t_p68 t_17 t_1746 nm_X12_fail (by decide) (by decide) rfl rfl (Nat.le_of_ble_eq_true rfl) dX12_amiss_18 (kv_rv ?_)
    obtain rfl := hf
    exact v_vret G dX12_amiss_21
  refine v_icmp_ne 13 G dX12_amiss_6 (by decide) (fun h3 => ?_) (fun h3 => ?_)
  · replace hf := (if_neg h3).symm.trans hf
    refine v_iconst (2 : Int32) G dX12_amiss_13 (by decide) ?_
    refine v_sub _ [0] rfl ?_
    exact hj14 (2 : Int32) hf
  · replace hf := (if_pos h3).symm.trans hf
    refine v_iconst (1 : Int32) G dX12_amiss_9 (by decide) ?_
    refine v_goto 14 G dX12_amiss_10 (by decide) ?_
    refine v_sub _ [0] rfl ?_
    exact hj14 (1 : Int32) hf
abbrev cX12_must : ByteArray := prog_14_method_48_code
def yX12_must : MethodName := ⟨RX12, "must", "(Z)V"⟩
theorem dX12_must_0 : dc cX12_must 0 (.aload_n 0) 1 1 := ⟨by decide +kernel, rfl⟩
theorem dX12_must_1 : dc cX12_must 1 (.getfield 220) 3 4 := ⟨by decide +kernel, rfl⟩
theorem dX12_must_4 : dc cX12_must 4 (.ifCond .le 4) 3 7 := ⟨by decide +kernel, rfl⟩
theorem dX12_must_7 : dc cX12_must 7 (.return_) 1 8 := ⟨by decide +kernel, rfl⟩
theorem dX12_must_8 : dc cX12_must 8 (.iload_n 1) 1 9 := ⟨by decide +kernel, rfl⟩
theorem dX12_must_9 : dc cX12_must 9 (.ifCond .eq 10) 3 12 := ⟨by decide +kernel, rfl⟩
theorem dX12_must_12 : dc cX12_must 12 (.aload_n 0) 1 13 := ⟨by decide +kernel, rfl⟩
theorem dX12_must_13 : dc cX12_must 13 (.invokevirtual 230) 3 16 := ⟨by decide +kernel, rfl⟩
theorem dX12_must_16 : dc cX12_must 16 (.goto 7) 3 19 := ⟨by decide +kernel, rfl⟩
theorem dX12_must_19 : dc cX12_must 19 (.aload_n 0) 1 20 := ⟨by decide +kernel, rfl⟩
theorem dX12_must_20 : dc cX12_must 20 (.invokevirtual 233) 3 23 := ⟨by decide +kernel, rfl⟩
theorem dX12_must_23 : dc cX12_must 23 (.return_) 1 24 := ⟨by decide +kernel, rfl⟩
theorem nm_X12_must : (yX12_must).cls ≠ "java/lang/invoke/MethodHandle" ∧ (yX12_must).cls ≠ "java/lang/invoke/VarHandle" ∧ (parseMethodDescriptor (yX12_must).desc).map (fun d => d.parameters.length) = some 1 := ⟨by decide +kernel, by decide +kernel, by decide +kernel⟩
set_option maxRecDepth 100000 in
set_option maxHeartbeats 4000000 in
theorem c_X12_must {l : Launch} {ad : Nat → Nat} {cy : Nat → ClassId} {D : va_G} {z : Nat} (n : Nat) {a0 : Nat} {p1 : Int32} {M : KM} {y : KM} (h0 : kty a0 = 12) (hf : f_X12_must n a0 p1 M = some y) : KC l ad cy D z yX12_must cX12_must 2 none 3 [.ref (ad a0), .int p1] M (none, y) := by
  refine kv_enter (by decide +kernel) (Nat.le_of_ble_eq_true rfl) ?_
  intro x hl hD hz G
  subst hl hD hz
  unfold f_X12_must at hf
  have G : KG ad cy x cX12_must "NoonGuidesModel" 2 (some none) 3 := G
  show KV ad cy x (none, y) 0 [(0, .ref (ad a0)), (1, .int p1)] [] M
  refine v_aload_n G dX12_must_0 0 rfl ?_
  refine gf_12_12 G h0 t_1503 (Or.inl rfl) dX12_must_1 ?_
  refine v_if_le 8 G dX12_must_4 (by decide) (fun h4 => ?_) (fun h4 => ?_)
  · replace hf := (if_pos h4).symm.trans hf
    refine v_iload_n G dX12_must_8 1 rfl ?_
    refine v_if_eq 19 G dX12_must_9 (by decide) (fun h3 => ?_) (fun h3 => ?_)
    · replace hf := (if_pos h3).symm.trans hf
      refine v_aload_n G dX12_must_19 0 rfl ?_
      obtain ⟨v1, hcv1⟩ : ∃ q, f_X12_amiss a0 M = q := ⟨_, rfl⟩
      replace hf := lt_e hf hcv1.symm
      refine v_callV [] G (c_X12_amiss h0 hcv1) h0 (by decide) rfl rfl rfl t_1751 t_1753 t_p70 t_17 t_1754 nm_X12_amiss (by decide) (by decide) rfl rfl (Nat.le_of_ble_eq_true rfl) dX12_must_20 (kv_rv ?_)
      obtain rfl := Option.some.inj hf
      exact v_vret G dX12_must_23
    · replace hf := (if_neg h3).symm.trans hf
      refine v_aload_n G dX12_must_12 0 rfl ?_
      obtain ⟨v2, hcv2, hf⟩ := bd_e hf
      refine v_callV [] G (c_X12_advance n h0 hcv2) h0 (by decide) rfl rfl rfl t_1697 t_1699 t_p60 t_17 t_1700 nm_X12_advance (by decide) (by decide) rfl rfl (Nat.le_of_ble_eq_true rfl) dX12_must_13 (kv_rv ?_)
      refine v_goto 23 G dX12_must_16 (by decide) ?_
      obtain rfl := Option.some.inj hf
      exact v_vret G dX12_must_23
  · replace hf := (if_neg h4).symm.trans hf
    obtain rfl := Option.some.inj hf
    exact v_vret G dX12_must_7
abbrev cX12_count : ByteArray := prog_14_method_49_code
def yX12_count : MethodName := ⟨RX12, "count", "(II)I"⟩
theorem dX12_count_0 : dc cX12_count 0 (.aload_n 0) 1 1 := ⟨by decide +kernel, rfl⟩
theorem dX12_count_1 : dc cX12_count 1 (.getfield 220) 3 4 := ⟨by decide +kernel, rfl⟩
theorem dX12_count_4 : dc cX12_count 4 (.ifCond .ne 15) 3 7 := ⟨by decide +kernel, rfl⟩
theorem dX12_count_7 : dc cX12_count 7 (.aload_n 0) 1 8 := ⟨by decide +kernel, rfl⟩
theorem dX12_count_8 : dc cX12_count 8 (.getfield 130) 3 11 := ⟨by decide +kernel, rfl⟩
theorem dX12_count_11 : dc cX12_count 11 (.iconst 2) 1 12 := ⟨by decide +kernel, rfl⟩
theorem dX12_count_12 : dc cX12_count 12 (.if_icmp .eq 7) 3 15 := ⟨by decide +kernel, rfl⟩
theorem dX12_count_15 : dc cX12_count 15 (.aload_n 0) 1 16 := ⟨by decide +kernel, rfl⟩
theorem dX12_count_16 : dc cX12_count 16 (.invokevirtual 233) 3 19 := ⟨by decide +kernel, rfl⟩
theorem dX12_count_19 : dc cX12_count 19 (.aload_n 0) 1 20 := ⟨by decide +kernel, rfl⟩
theorem dX12_count_20 : dc cX12_count 20 (.getfield 220) 3 23 := ⟨by decide +kernel, rfl⟩
theorem dX12_count_23 : dc cX12_count 23 (.ifCond .ne 27) 3 26 := ⟨by decide +kernel, rfl⟩
theorem dX12_count_26 : dc cX12_count 26 (.aload_n 0) 1 27 := ⟨by decide +kernel, rfl⟩
theorem dX12_count_27 : dc cX12_count 27 (.getfield 149) 3 30 := ⟨by decide +kernel, rfl⟩
theorem dX12_count_30 : dc cX12_count 30 (.i2l) 1 31 := ⟨by decide +kernel, rfl⟩
theorem dX12_count_31 : dc cX12_count 31 (.iload_n 1) 1 32 := ⟨by decide +kernel, rfl⟩
theorem dX12_count_32 : dc cX12_count 32 (.i2l) 1 33 := ⟨by decide +kernel, rfl⟩
theorem dX12_count_33 : dc cX12_count 33 (.iload_n 2) 1 34 := ⟨by decide +kernel, rfl⟩
theorem dX12_count_34 : dc cX12_count 34 (.i2l) 1 35 := ⟨by decide +kernel, rfl⟩
theorem dX12_count_35 : dc cX12_count 35 (.invokestatic 110) 3 38 := ⟨by decide +kernel, rfl⟩
theorem dX12_count_38 : dc cX12_count 38 (.ifCond .ne 12) 3 41 := ⟨by decide +kernel, rfl⟩
theorem dX12_count_41 : dc cX12_count 41 (.aload_n 0) 1 42 := ⟨by decide +kernel, rfl⟩
theorem dX12_count_42 : dc cX12_count 42 (.iconst 4) 1 43 := ⟨by decide +kernel, rfl⟩
theorem dX12_count_43 : dc cX12_count 43 (.aload_n 0) 1 44 := ⟨by decide +kernel, rfl⟩
theorem dX12_count_44 : dc cX12_count 44 (.getfield 124) 3 47 := ⟨by decide +kernel, rfl⟩
theorem dX12_count_47 : dc cX12_count 47 (.invokevirtual 226) 3 50 := ⟨by decide +kernel, rfl⟩
theorem dX12_count_50 : dc cX12_count 50 (.aload_n 0) 1 51 := ⟨by decide +kernel, rfl⟩
theorem dX12_count_51 : dc cX12_count 51 (.getfield 220) 3 54 := ⟨by decide +kernel, rfl⟩
theorem dX12_count_54 : dc cX12_count 54 (.ifCond .le 5) 3 57 := ⟨by decide +kernel, rfl⟩
theorem dX12_count_57 : dc cX12_count 57 (.iconst 0) 1 58 := ⟨by decide +kernel, rfl⟩
theorem dX12_count_58 : dc cX12_count 58 (.ireturn) 1 59 := ⟨by decide +kernel, rfl⟩
theorem dX12_count_59 : dc cX12_count 59 (.aload_n 0) 1 60 := ⟨by decide +kernel, rfl⟩
theorem dX12_count_60 : dc cX12_count 60 (.getfield 149) 3 63 := ⟨by decide +kernel, rfl⟩
theorem dX12_count_63 : dc cX12_count 63 (.istore_n 3) 1 64 := ⟨by decide +kernel, rfl⟩
theorem dX12_count_64 : dc cX12_count 64 (.aload_n 0) 1 65 := ⟨by decide +kernel, rfl⟩
theorem dX12_count_65 : dc cX12_count 65 (.invokevirtual 230) 3 68 := ⟨by decide +kernel, rfl⟩
theorem dX12_count_68 : dc cX12_count 68 (.iload_n 3) 1 69 := ⟨by decide +kernel, rfl⟩
theorem dX12_count_69 : dc cX12_count 69 (.ireturn) 1 70 := ⟨by decide +kernel, rfl⟩
theorem nm_X12_count : (yX12_count).cls ≠ "java/lang/invoke/MethodHandle" ∧ (yX12_count).cls ≠ "java/lang/invoke/VarHandle" ∧ (parseMethodDescriptor (yX12_count).desc).map (fun d => d.parameters.length) = some 2 := ⟨by decide +kernel, by decide +kernel, by decide +kernel⟩
set_option maxRecDepth 100000 in
set_option maxHeartbeats 4000000 in
theorem c_X12_count {l : Launch} {ad : Nat → Nat} {cy : Nat → ClassId} {D : va_G} {z : Nat} (n : Nat) {a0 : Nat} {p1 : Int32} {p2 : Int32} {M : KM} {y : (Int32 × KM)} (h0 : kty a0 = 12) (hf : f_X12_count n a0 p1 p2 M = some y) : KC l ad cy D z yX12_count cX12_count 4 (some .int) 3 [.ref (ad a0), .int p1, .int p2] M (some (.int y.1), y.2) := by
  refine kv_enter (by decide +kernel) (Nat.le_of_ble_eq_true rfl) ?_
  intro x hl hD hz G
  subst hl hD hz
  unfold f_X12_count at hf
  have G : KG ad cy x cX12_count "NoonGuidesModel" 4 (some (some .int)) 3 := G
  show KV ad cy x (some (.int y.1), y.2) 0 [(0, .ref (ad a0)), (1, .int p1), (2, .int p2)] [] M
  refine v_aload_n G dX12_count_0 0 rfl ?_
  refine gf_12_12 G h0 t_1503 (Or.inl rfl) dX12_count_1 ?_
  obtain ⟨j19, ej19, hf⟩ := lt_j hf
  have hj19 : ∀ (M1 : KM), j19 M1 = some y → KV ad cy x (some (.int y.1), y.2) 19 [(0, .ref (ad a0)), (1, .int p1), (2, .int p2)] [] M1 := by
    intro M1 hf
    rw [ej19] at hf
    refine v_aload_n G dX12_count_19 0 rfl ?_
    refine gf_12_12 G h0 t_1503 (Or.inl rfl) dX12_count_20 ?_
    obtain ⟨j50, ej50, hf⟩ := lt_j hf
    have hj50 : ∀ (M2 : KM), j50 M2 = some y → KV ad cy x (some (.int y.1), y.2) 50 [(0, .ref (ad a0))] [] M2 := by
      intro M2 hf
      rw [ej50] at hf
      refine v_aload_n G dX12_count_50 0 rfl ?_
      refine gf_12_12 G h0 t_1503 (Or.inl rfl) dX12_count_51 ?_
      refine v_if_le 59 G dX12_count_54 (by decide) (fun h5 => ?_) (fun h5 => ?_)
      · replace hf := (if_pos h5).symm.trans hf
        refine v_aload_n G dX12_count_59 0 rfl ?_
        refine gf_12_17 G h0 t_1508 (Or.inl rfl) dX12_count_60 ?_
        refine v_nmi (fun v3 ev3 => ?_)
        replace hf := lt_e hf ev3
        refine v_istore_n [(3, .int v3), (0, .ref (ad a0))] G dX12_count_63 (by decide) rfl ?_
        refine v_aload_n G dX12_count_64 1 rfl ?_
        obtain ⟨v4, hcv4, hf⟩ := bd_e hf
        refine v_callV [] G (c_X12_advance n h0 hcv4) h0 (by decide) rfl rfl rfl t_1697 t_1699 t_p60 t_17 t_1700 nm_X12_advance (by decide) (by decide) rfl rfl (Nat.le_of_ble_eq_true rfl) dX12_count_65 (kv_rv ?_)
        refine v_iload_n G dX12_count_68 0 rfl ?_
        obtain rfl := Option.some.inj hf
        exact v_iret G dX12_count_69
      · replace hf := (if_neg h5).symm.trans hf
        refine v_iconst (0 : Int32) G dX12_count_57 (by decide) ?_
        obtain rfl := Option.some.inj hf
        exact v_iret G dX12_count_58
    refine v_if_ne 50 G dX12_count_23 (by decide) (fun h9 => ?_) (fun h9 => ?_)
    · replace hf := (if_neg h9).symm.trans hf
      refine v_sub _ [0] rfl ?_
      exact hj50 M1 hf
    · replace hf := (if_pos h9).symm.trans hf
      refine v_aload_n G dX12_count_26 0 rfl ?_
      refine gf_12_17 G h0 t_1508 (Or.inl rfl) dX12_count_27 ?_
      refine v_i2l G dX12_count_30 ?_
      refine v_iload_n G dX12_count_31 1 rfl ?_
      refine v_i2l G dX12_count_32 ?_
      refine v_iload_n G dX12_count_33 2 rfl ?_
      refine v_i2l G dX12_count_34 ?_
      obtain ⟨v6, hcv6⟩ : ∃ q, f_X12_isIn ((M1.1 a0 17)).toInt64 (p1).toInt64 (p2).toInt64 M1 = q := ⟨_, rfl⟩
      replace hf := lt_e hf hcv6.symm
      refine v_callS [.long ((M1.1 a0 17)).toInt64, .long (p1).toInt64, .long (p2).toInt64] G (c_X12_isIn hcv6) t_1755 t_1756 t_17 t_1757 nm_X12_isIn (by decide) (by decide) rfl rfl (Nat.le_of_ble_eq_true rfl) dX12_count_35 (kv_ri ?_)
      refine v_if_ne 50 G dX12_count_38 (by decide) (fun h8 => ?_) (fun h8 => ?_)
      · replace hf := (if_neg h8).symm.trans hf
        refine v_sub _ [0] rfl ?_
        exact hj50 M1 hf
      · replace hf := (if_pos h8).symm.trans hf
        refine v_aload_n G dX12_count_41 0 rfl ?_
        refine v_iconst (4 : Int32) G dX12_count_42 (by decide) ?_
        refine v_aload_n G dX12_count_43 0 rfl ?_
        refine gf_12_15 G h0 t_1506 (Or.inl rfl) dX12_count_44 ?_
        obtain ⟨v7, hcv7⟩ : ∃ q, f_X12_fail a0 (4 : Int32) (M1.1 a0 15) M1 = q := ⟨_, rfl⟩
        replace hf := lt_e hf hcv7.symm
        refine v_callV [.int (4 : Int32), .int (M1.1 a0 15)] G (c_X12_fail h0 hcv7) h0 (by decide) rfl rfl rfl t_1743 t_1745 t_p68 t_17 t_1746 nm_X12_fail (by decide) (by decide) rfl rfl (Nat.le_of_ble_eq_true rfl) dX12_count_47 (kv_rv ?_)
        refine v_sub _ [0] rfl ?_
        exact hj50 v7 hf
  refine v_if_ne 19 G dX12_count_4 (by decide) (fun h12 => ?_) (fun h12 => ?_)
  · replace hf := (if_neg h12).symm.trans hf
    refine v_sub _ [0, 1, 2] rfl ?_
    exact hj19 M hf
  · replace hf := (if_pos h12).symm.trans hf
    refine v_aload_n G dX12_count_7 0 rfl ?_
    refine gf_12_14 G h0 t_1505 (Or.inl rfl) dX12_count_8 ?_
    refine v_iconst (2 : Int32) G dX12_count_11 (by decide) ?_
    refine v_icmp_eq 19 G dX12_count_12 (by decide) (fun h11 => ?_) (fun h11 => ?_)
    · replace hf := (if_pos h11).symm.trans hf
      refine v_sub _ [0, 1, 2] rfl ?_
      exact hj19 M hf
    · replace hf := (if_neg h11).symm.trans hf
      refine v_aload_n G dX12_count_15 0 rfl ?_
      obtain ⟨v10, hcv10⟩ : ∃ q, f_X12_amiss a0 M = q := ⟨_, rfl⟩
      replace hf := lt_e hf hcv10.symm
      refine v_callV [] G (c_X12_amiss h0 hcv10) h0 (by decide) rfl rfl rfl t_1751 t_1753 t_p70 t_17 t_1754 nm_X12_amiss (by decide) (by decide) rfl rfl (Nat.le_of_ble_eq_true rfl) dX12_count_16 (kv_rv ?_)
      refine v_sub _ [0, 1, 2] rfl ?_
      exact hj19 v10 hf
abbrev cX12_perhaps : ByteArray := prog_14_method_50_code
def yX12_perhaps : MethodName := ⟨RX12, "perhaps", "(Z)Z"⟩
theorem dX12_perhaps_0 : dc cX12_perhaps 0 (.aload_n 0) 1 1 := ⟨by decide +kernel, rfl⟩
theorem dX12_perhaps_1 : dc cX12_perhaps 1 (.getfield 220) 3 4 := ⟨by decide +kernel, rfl⟩
theorem dX12_perhaps_4 : dc cX12_perhaps 4 (.ifCond .gt 7) 3 7 := ⟨by decide +kernel, rfl⟩
theorem dX12_perhaps_7 : dc cX12_perhaps 7 (.iload_n 1) 1 8 := ⟨by decide +kernel, rfl⟩
theorem dX12_perhaps_8 : dc cX12_perhaps 8 (.ifCond .ne 5) 3 11 := ⟨by decide +kernel, rfl⟩
theorem dX12_perhaps_11 : dc cX12_perhaps 11 (.iconst 0) 1 12 := ⟨by decide +kernel, rfl⟩
theorem dX12_perhaps_12 : dc cX12_perhaps 12 (.ireturn) 1 13 := ⟨by decide +kernel, rfl⟩
theorem dX12_perhaps_13 : dc cX12_perhaps 13 (.aload_n 0) 1 14 := ⟨by decide +kernel, rfl⟩
theorem dX12_perhaps_14 : dc cX12_perhaps 14 (.invokevirtual 230) 3 17 := ⟨by decide +kernel, rfl⟩
theorem dX12_perhaps_17 : dc cX12_perhaps 17 (.iconst 1) 1 18 := ⟨by decide +kernel, rfl⟩
theorem dX12_perhaps_18 : dc cX12_perhaps 18 (.ireturn) 1 19 := ⟨by decide +kernel, rfl⟩
theorem nm_X12_perhaps : (yX12_perhaps).cls ≠ "java/lang/invoke/MethodHandle" ∧ (yX12_perhaps).cls ≠ "java/lang/invoke/VarHandle" ∧ (parseMethodDescriptor (yX12_perhaps).desc).map (fun d => d.parameters.length) = some 1 := ⟨by decide +kernel, by decide +kernel, by decide +kernel⟩
set_option maxRecDepth 100000 in
theorem z_X12_perhaps (n : Nat) {a0 : Nat} {p1 : Int32} {M : KM} {y : (Int32 × KM)} (hf : f_X12_perhaps n a0 p1 M = some y) : (y.1 = 0 ∨ y.1 = 1) := by
  unfold f_X12_perhaps at hf
  by_cases h3 : 0 < (M.1 a0 12)
  · replace hf := (if_pos h3).symm.trans hf
    obtain rfl := Option.some.inj hf
    exact (Or.inl rfl)
  · replace hf := (if_neg h3).symm.trans hf
    by_cases h2 : p1 = 0
    · replace hf := (if_pos h2).symm.trans hf
      obtain rfl := Option.some.inj hf
      exact (Or.inl rfl)
    · replace hf := (if_neg h2).symm.trans hf
      obtain ⟨v1, hcv1, hf⟩ := bd_e hf
      obtain rfl := Option.some.inj hf
      exact (Or.inr rfl)
set_option maxRecDepth 100000 in
set_option maxHeartbeats 4000000 in
theorem c_X12_perhaps {l : Launch} {ad : Nat → Nat} {cy : Nat → ClassId} {D : va_G} {z : Nat} (n : Nat) {a0 : Nat} {p1 : Int32} {M : KM} {y : (Int32 × KM)} (h0 : kty a0 = 12) (hf : f_X12_perhaps n a0 p1 M = some y) : KC l ad cy D z yX12_perhaps cX12_perhaps 2 (some .boolean) 3 [.ref (ad a0), .int p1] M (some (.int y.1), y.2) := by
  refine kv_enter (by decide +kernel) (Nat.le_of_ble_eq_true rfl) ?_
  intro x hl hD hz G
  subst hl hD hz
  unfold f_X12_perhaps at hf
  have G : KG ad cy x cX12_perhaps "NoonGuidesModel" 2 (some (some .boolean)) 3 := G
  show KV ad cy x (some (.int y.1), y.2) 0 [(0, .ref (ad a0)), (1, .int p1)] [] M
  refine v_aload_n G dX12_perhaps_0 0 rfl ?_
  refine gf_12_12 G h0 t_1503 (Or.inl rfl) dX12_perhaps_1 ?_
  refine v_if_gt 11 G dX12_perhaps_4 (by decide) (fun h3 => ?_) (fun h3 => ?_)
  · replace hf := (if_pos h3).symm.trans hf
    refine v_iconst (0 : Int32) G dX12_perhaps_11 (by decide) ?_
    obtain rfl := Option.some.inj hf
    exact v_zret G (Or.inl rfl) dX12_perhaps_12
  · replace hf := (if_neg h3).symm.trans hf
    refine v_iload_n G dX12_perhaps_7 1 rfl ?_
    refine v_if_ne 13 G dX12_perhaps_8 (by decide) (fun h2 => ?_) (fun h2 => ?_)
    · replace hf := (if_neg h2).symm.trans hf
      refine v_aload_n G dX12_perhaps_13 0 rfl ?_
      obtain ⟨v1, hcv1, hf⟩ := bd_e hf
      refine v_callV [] G (c_X12_advance n h0 hcv1) h0 (by decide) rfl rfl rfl t_1697 t_1699 t_p60 t_17 t_1700 nm_X12_advance (by decide) (by decide) rfl rfl (Nat.le_of_ble_eq_true rfl) dX12_perhaps_14 (kv_rv ?_)
      refine v_iconst (1 : Int32) G dX12_perhaps_17 (by decide) ?_
      obtain rfl := Option.some.inj hf
      exact v_zret G (Or.inr rfl) dX12_perhaps_18
    · replace hf := (if_pos h2).symm.trans hf
      refine v_iconst (0 : Int32) G dX12_perhaps_11 (by decide) ?_
      obtain rfl := Option.some.inj hf
      exact v_zret G (Or.inl rfl) dX12_perhaps_12
abbrev cX12_lay : ByteArray := prog_14_method_52_code
def yX12_lay : MethodName := ⟨RX12, "lay", "(I)V"⟩
theorem dX12_lay_0 : dc cX12_lay 0 (.iconst 3) 1 1 := ⟨by decide +kernel, rfl⟩
theorem dX12_lay_1 : dc cX12_lay 1 (.istore_n 2) 1 2 := ⟨by decide +kernel, rfl⟩
theorem dX12_lay_2 : dc cX12_lay 2 (.iload_n 2) 1 3 := ⟨by decide +kernel, rfl⟩
theorem dX12_lay_3 : dc cX12_lay 3 (.ifCond .lt 35) 3 6 := ⟨by decide +kernel, rfl⟩
theorem dX12_lay_6 : dc cX12_lay 6 (.aload_n 0) 1 7 := ⟨by decide +kernel, rfl⟩
theorem dX12_lay_7 : dc cX12_lay 7 (.getfield 24) 3 10 := ⟨by decide +kernel, rfl⟩
theorem dX12_lay_10 : dc cX12_lay 10 (.aload_n 0) 1 11 := ⟨by decide +kernel, rfl⟩
theorem dX12_lay_11 : dc cX12_lay 11 (.getfield 236) 3 14 := ⟨by decide +kernel, rfl⟩
theorem dX12_lay_14 : dc cX12_lay 14 (.iload_n 1) 1 15 := ⟨by decide +kernel, rfl⟩
theorem dX12_lay_15 : dc cX12_lay 15 (.bipush 8) 2 17 := ⟨by decide +kernel, rfl⟩
theorem dX12_lay_17 : dc cX12_lay 17 (.iload_n 2) 1 18 := ⟨by decide +kernel, rfl⟩
theorem dX12_lay_18 : dc cX12_lay 18 (.imul) 1 19 := ⟨by decide +kernel, rfl⟩
theorem dX12_lay_19 : dc cX12_lay 19 (.ishr) 1 20 := ⟨by decide +kernel, rfl⟩
theorem dX12_lay_20 : dc cX12_lay 20 (.i2b) 1 21 := ⟨by decide +kernel, rfl⟩
theorem dX12_lay_21 : dc cX12_lay 21 (.bastore) 1 22 := ⟨by decide +kernel, rfl⟩
theorem dX12_lay_22 : dc cX12_lay 22 (.aload_n 0) 1 23 := ⟨by decide +kernel, rfl⟩
theorem dX12_lay_23 : dc cX12_lay 23 (.dup) 1 24 := ⟨by decide +kernel, rfl⟩
theorem dX12_lay_24 : dc cX12_lay 24 (.getfield 236) 3 27 := ⟨by decide +kernel, rfl⟩
theorem dX12_lay_27 : dc cX12_lay 27 (.iconst 1) 1 28 := ⟨by decide +kernel, rfl⟩
theorem dX12_lay_28 : dc cX12_lay 28 (.iadd) 1 29 := ⟨by decide +kernel, rfl⟩
theorem dX12_lay_29 : dc cX12_lay 29 (.putfield 236) 3 32 := ⟨by decide +kernel, rfl⟩
theorem dX12_lay_32 : dc cX12_lay 32 (.iinc 2 (-1)) 3 35 := ⟨by decide +kernel, rfl⟩
theorem dX12_lay_35 : dc cX12_lay 35 (.goto (-33)) 3 38 := ⟨by decide +kernel, rfl⟩
theorem dX12_lay_38 : dc cX12_lay 38 (.return_) 1 39 := ⟨by decide +kernel, rfl⟩
theorem nm_X12_lay : (yX12_lay).cls ≠ "java/lang/invoke/MethodHandle" ∧ (yX12_lay).cls ≠ "java/lang/invoke/VarHandle" ∧ (parseMethodDescriptor (yX12_lay).desc).map (fun d => d.parameters.length) = some 1 := ⟨by decide +kernel, by decide +kernel, by decide +kernel⟩
set_option maxRecDepth 100000 in
set_option maxHeartbeats 4000000 in
theorem s_X12_lay_2 {ad : Nat → Nat} {cy : Nat → ClassId} {x : KX} (G : KG ad cy x cX12_lay "NoonGuidesModel" 3 (some none) 1) {a0 : Nat} {c1 : Int32} (h0 : kty a0 = 12) {y : KM} : ∀ (n : Nat) (w2 : Int32) (M : KM), lp_X12_lay_2 n a0 c1 w2 M = some y → KV ad cy x (none, y) 2 [(0, .ref (ad a0)), (1, .int c1), (2, .int w2)] [] M := by
  intro n
  induction n with
  | zero =>
    intro w2 M hf
    cases hf
  | succ n ih =>
    intro w2 M hf
    rw [lp_X12_lay_2] at hf
    refine v_iload_n G dX12_lay_2 2 rfl ?_
    refine v_if_lt 38 G dX12_lay_3 (by decide) (fun h5 => ?_) (fun h5 => ?_)
    · replace hf := (if_pos h5).symm.trans hf
      obtain rfl := Option.some.inj hf
      exact v_vret G dX12_lay_38
    · replace hf := (if_neg h5).symm.trans hf
      refine v_aload_n G dX12_lay_6 0 rfl ?_
      refine gf_12_7 G h0 t_1498 (Or.inl rfl) dX12_lay_7 ?_
      refine v_aload_n G dX12_lay_10 0 rfl ?_
      refine gf_12_8 G h0 t_1499 (Or.inl rfl) dX12_lay_11 ?_
      refine v_iload_n G dX12_lay_14 1 rfl ?_
      refine v_bipush (8 : Int32) G dX12_lay_15 (by decide) ?_
      refine v_iload_n G dX12_lay_17 2 rfl ?_
      refine v_imul G dX12_lay_18 ?_
      refine v_ishr G dX12_lay_19 ?_
      refine v_i2b G dX12_lay_20 ?_
      obtain ⟨g1, hf⟩ := gd_e hf
      refine as_21 G (kf_12_4 h0) g1 dX12_lay_21 ?_
      refine v_nmM (fun M2 eM2 => ?_)
      replace hf := lt_e hf eM2
      refine v_aload_n G dX12_lay_22 0 rfl ?_
      refine v_dup G dX12_lay_23 rfl ?_
      refine gf_12_8 G h0 t_1499 (Or.inl rfl) dX12_lay_24 ?_
      refine v_iconst (1 : Int32) G dX12_lay_27 (by decide) ?_
      refine v_iadd G dX12_lay_28 ?_
      refine pf_12_8 G h0 t_1499 (Or.inl rfl) dX12_lay_29 ?_
      refine v_nmM (fun M3 eM3 => ?_)
      replace hf := lt_e hf eM3
      obtain ⟨v4, ev4⟩ : ∃ q : Int32, q = w2 + (-1 : Int32) := ⟨_, rfl⟩
      replace hf := lt_e hf ev4
      refine v_iinc v4 [(2, .int v4), (0, .ref (ad a0)), (1, .int c1)] G dX12_lay_32 2 rfl (by rw [ev4]; rfl) (by decide) rfl ?_
      refine v_goto 2 G dX12_lay_35 (by decide) ?_
      refine v_sub _ [1, 2, 0] rfl ?_
      exact ih v4 M3 hf
set_option maxRecDepth 100000 in
set_option maxHeartbeats 4000000 in
theorem c_X12_lay {l : Launch} {ad : Nat → Nat} {cy : Nat → ClassId} {D : va_G} {z : Nat} (n : Nat) {a0 : Nat} {p1 : Int32} {M : KM} {y : KM} (h0 : kty a0 = 12) (hf : f_X12_lay n a0 p1 M = some y) : KC l ad cy D z yX12_lay cX12_lay 3 none 1 [.ref (ad a0), .int p1] M (none, y) := by
  refine kv_enter (by decide +kernel) (Nat.le_of_ble_eq_true rfl) ?_
  intro x hl hD hz G
  subst hl hD hz
  unfold f_X12_lay at hf
  have G : KG ad cy x cX12_lay "NoonGuidesModel" 3 (some none) 1 := G
  show KV ad cy x (none, y) 0 [(0, .ref (ad a0)), (1, .int p1)] [] M
  refine v_iconst (3 : Int32) G dX12_lay_0 (by decide) ?_
  refine v_istore_n [(2, .int (3 : Int32)), (0, .ref (ad a0)), (1, .int p1)] G dX12_lay_1 (by decide) rfl ?_
  refine v_sub _ [1, 2, 0] rfl ?_
  refine s_X12_lay_2 G h0 n (3 : Int32) M hf
abbrev cX12_feed : ByteArray := prog_14_method_51_code
def yX12_feed : MethodName := ⟨RX12, "feed", "(IIIII)I"⟩
theorem dX12_feed_0 : dc cX12_feed 0 (.aload_n 0) 1 1 := ⟨by decide +kernel, rfl⟩
theorem dX12_feed_1 : dc cX12_feed 1 (.iconst 0) 1 2 := ⟨by decide +kernel, rfl⟩
theorem dX12_feed_2 : dc cX12_feed 2 (.putfield 75) 3 5 := ⟨by decide +kernel, rfl⟩
theorem dX12_feed_5 : dc cX12_feed 5 (.aload_n 0) 1 6 := ⟨by decide +kernel, rfl⟩
theorem dX12_feed_6 : dc cX12_feed 6 (.getfield 236) 3 9 := ⟨by decide +kernel, rfl⟩
theorem dX12_feed_9 : dc cX12_feed 9 (.bipush 20) 2 11 := ⟨by decide +kernel, rfl⟩
theorem dX12_feed_11 : dc cX12_feed 11 (.iadd) 1 12 := ⟨by decide +kernel, rfl⟩
theorem dX12_feed_12 : dc cX12_feed 12 (.sipush 900) 3 15 := ⟨by decide +kernel, rfl⟩
theorem dX12_feed_15 : dc cX12_feed 15 (.if_icmp .le 5) 3 18 := ⟨by decide +kernel, rfl⟩
theorem dX12_feed_18 : dc cX12_feed 18 (.iconst (-1)) 1 19 := ⟨by decide +kernel, rfl⟩
theorem dX12_feed_19 : dc cX12_feed 19 (.ireturn) 1 20 := ⟨by decide +kernel, rfl⟩
theorem dX12_feed_20 : dc cX12_feed 20 (.aload_n 0) 1 21 := ⟨by decide +kernel, rfl⟩
theorem dX12_feed_21 : dc cX12_feed 21 (.iload_n 1) 1 22 := ⟨by decide +kernel, rfl⟩
theorem dX12_feed_22 : dc cX12_feed 22 (.invokevirtual 239) 3 25 := ⟨by decide +kernel, rfl⟩
theorem dX12_feed_25 : dc cX12_feed 25 (.aload_n 0) 1 26 := ⟨by decide +kernel, rfl⟩
theorem dX12_feed_26 : dc cX12_feed 26 (.iload_n 2) 1 27 := ⟨by decide +kernel, rfl⟩
theorem dX12_feed_27 : dc cX12_feed 27 (.invokevirtual 239) 3 30 := ⟨by decide +kernel, rfl⟩
theorem dX12_feed_30 : dc cX12_feed 30 (.aload_n 0) 1 31 := ⟨by decide +kernel, rfl⟩
theorem dX12_feed_31 : dc cX12_feed 31 (.iload_n 3) 1 32 := ⟨by decide +kernel, rfl⟩
theorem dX12_feed_32 : dc cX12_feed 32 (.invokevirtual 239) 3 35 := ⟨by decide +kernel, rfl⟩
theorem dX12_feed_35 : dc cX12_feed 35 (.aload_n 0) 1 36 := ⟨by decide +kernel, rfl⟩
theorem dX12_feed_36 : dc cX12_feed 36 (.iload 4) 2 38 := ⟨by decide +kernel, rfl⟩
theorem dX12_feed_38 : dc cX12_feed 38 (.invokevirtual 239) 3 41 := ⟨by decide +kernel, rfl⟩
theorem dX12_feed_41 : dc cX12_feed 41 (.aload_n 0) 1 42 := ⟨by decide +kernel, rfl⟩
theorem dX12_feed_42 : dc cX12_feed 42 (.iload 5) 2 44 := ⟨by decide +kernel, rfl⟩
theorem dX12_feed_44 : dc cX12_feed 44 (.invokevirtual 239) 3 47 := ⟨by decide +kernel, rfl⟩
theorem dX12_feed_47 : dc cX12_feed 47 (.aload_n 0) 1 48 := ⟨by decide +kernel, rfl⟩
theorem dX12_feed_48 : dc cX12_feed 48 (.getfield 236) 3 51 := ⟨by decide +kernel, rfl⟩
theorem dX12_feed_51 : dc cX12_feed 51 (.ireturn) 1 52 := ⟨by decide +kernel, rfl⟩
theorem nm_X12_feed : (yX12_feed).cls ≠ "java/lang/invoke/MethodHandle" ∧ (yX12_feed).cls ≠ "java/lang/invoke/VarHandle" ∧ (parseMethodDescriptor (yX12_feed).desc).map (fun d => d.parameters.length) = some 5 := ⟨by decide +kernel, by decide +kernel, by decide +kernel⟩
set_option maxRecDepth 100000 in
set_option maxHeartbeats 4000000 in
theorem c_X12_feed {l : Launch} {ad : Nat → Nat} {cy : Nat → ClassId} {D : va_G} {z : Nat} (n : Nat) {a0 : Nat} {p1 : Int32} {p2 : Int32} {p3 : Int32} {p4 : Int32} {p5 : Int32} {M : KM} {y : (Int32 × KM)} (h0 : kty a0 = 12) (hf : f_X12_feed n a0 p1 p2 p3 p4 p5 M = some y) : KC l ad cy D z yX12_feed cX12_feed 6 (some .int) 2 [.ref (ad a0), .int p1, .int p2, .int p3, .int p4, .int p5] M (some (.int y.1), y.2) := by
  refine kv_enter (by decide +kernel) (Nat.le_of_ble_eq_true rfl) ?_
  intro x hl hD hz G
  subst hl hD hz
  unfold f_X12_feed at hf
  have G : KG ad cy x cX12_feed "NoonGuidesModel" 6 (some (some .int)) 2 := G
  show KV ad cy x (some (.int y.1), y.2) 0 [(0, .ref (ad a0)), (1, .int p1), (2, .int p2), (3, .int p3), (4, .int p4), (5, .int p5)] [] M
  refine v_aload_n G dX12_feed_0 0 rfl ?_
  refine v_iconst (0 : Int32) G dX12_feed_1 (by decide) ?_
  refine pf_12_1 G h0 t_1492 (Or.inl rfl) dX12_feed_2 ?_
  refine v_nmM (fun M1 eM1 => ?_)
  replace hf := lt_e hf eM1
  refine v_aload_n G dX12_feed_5 0 rfl ?_
  refine gf_12_8 G h0 t_1499 (Or.inl rfl) dX12_feed_6 ?_
  refine v_bipush (20 : Int32) G dX12_feed_9 (by decide) ?_
  refine v_iadd G dX12_feed_11 ?_
  refine v_sipush (900 : Int32) G dX12_feed_12 (by decide) ?_
  refine v_icmp_le 20 G dX12_feed_15 (by decide) (fun h7 => ?_) (fun h7 => ?_)
  · replace hf := (if_pos h7).symm.trans hf
    refine v_aload_n G dX12_feed_20 0 rfl ?_
    refine v_iload_n G dX12_feed_21 1 rfl ?_
    obtain ⟨v2, hcv2, hf⟩ := bd_e hf
    refine v_callV [.int p1] G (c_X12_lay n h0 hcv2) h0 (by decide) rfl rfl rfl t_1681 t_1683 t_p58 t_17 t_1684 nm_X12_lay (by decide) (by decide) rfl rfl (Nat.le_of_ble_eq_true rfl) dX12_feed_22 (kv_rv ?_)
    refine v_aload_n G dX12_feed_25 0 rfl ?_
    refine v_iload_n G dX12_feed_26 2 rfl ?_
    obtain ⟨v3, hcv3, hf⟩ := bd_e hf
    refine v_callV [.int p2] G (c_X12_lay n h0 hcv3) h0 (by decide) rfl rfl rfl t_1681 t_1683 t_p58 t_17 t_1684 nm_X12_lay (by decide) (by decide) rfl rfl (Nat.le_of_ble_eq_true rfl) dX12_feed_27 (kv_rv ?_)
    refine v_aload_n G dX12_feed_30 0 rfl ?_
    refine v_iload_n G dX12_feed_31 3 rfl ?_
    obtain ⟨v4, hcv4, hf⟩ := bd_e hf
    refine v_callV [.int p3] G (c_X12_lay n h0 hcv4) h0 (by decide) rfl rfl rfl t_1681 t_1683 t_p58 t_17 t_1684 nm_X12_lay (by decide) (by decide) rfl rfl (Nat.le_of_ble_eq_true rfl) dX12_feed_32 (kv_rv ?_)
    refine v_aload_n G dX12_feed_35 0 rfl ?_
    refine v_iload G dX12_feed_36 4 rfl ?_
    obtain ⟨v5, hcv5, hf⟩ := bd_e hf
    refine v_callV [.int p4] G (c_X12_lay n h0 hcv5) h0 (by decide) rfl rfl rfl t_1681 t_1683 t_p58 t_17 t_1684 nm_X12_lay (by decide) (by decide) rfl rfl (Nat.le_of_ble_eq_true rfl) dX12_feed_38 (kv_rv ?_)
    refine v_aload_n G dX12_feed_41 0 rfl ?_
    refine v_iload G dX12_feed_42 5 rfl ?_
    obtain ⟨v6, hcv6, hf⟩ := bd_e hf
    refine v_callV [.int p5] G (c_X12_lay n h0 hcv6) h0 (by decide) rfl rfl rfl t_1681 t_1683 t_p58 t_17 t_1684 nm_X12_lay (by decide) (by decide) rfl rfl (Nat.le_of_ble_eq_true rfl) dX12_feed_44 (kv_rv ?_)
    refine v_aload_n G dX12_feed_47 0 rfl ?_
    refine gf_12_8 G h0 t_1499 (Or.inl rfl) dX12_feed_48 ?_
    obtain rfl := Option.some.inj hf
    exact v_iret G dX12_feed_51
  · replace hf := (if_neg h7).symm.trans hf
    refine v_iconst (-1 : Int32) G dX12_feed_18 (by decide) ?_
    obtain rfl := Option.some.inj hf
    exact v_iret G dX12_feed_19
abbrev cX12_starts : ByteArray := prog_14_method_53_code
def yX12_starts : MethodName := ⟨RX12, "starts", "(II)Z"⟩
theorem dX12_starts_0 : dc cX12_starts 0 (.iload_n 1) 1 1 := ⟨by decide +kernel, rfl⟩
theorem dX12_starts_1 : dc cX12_starts 1 (.ifCond .lt 16) 3 4 := ⟨by decide +kernel, rfl⟩
theorem dX12_starts_4 : dc cX12_starts 4 (.iload_n 1) 1 5 := ⟨by decide +kernel, rfl⟩
theorem dX12_starts_5 : dc cX12_starts 5 (.aload_n 0) 1 6 := ⟨by decide +kernel, rfl⟩
theorem dX12_starts_6 : dc cX12_starts 6 (.getfield 236) 3 9 := ⟨by decide +kernel, rfl⟩
theorem dX12_starts_9 : dc cX12_starts 9 (.if_icmp .gt 8) 3 12 := ⟨by decide +kernel, rfl⟩
theorem dX12_starts_12 : dc cX12_starts 12 (.iload_n 1) 1 13 := ⟨by decide +kernel, rfl⟩
theorem dX12_starts_13 : dc cX12_starts 13 (.iload_n 2) 1 14 := ⟨by decide +kernel, rfl⟩
theorem dX12_starts_14 : dc cX12_starts 14 (.if_icmp .le 9) 3 17 := ⟨by decide +kernel, rfl⟩
theorem dX12_starts_17 : dc cX12_starts 17 (.aload_n 0) 1 18 := ⟨by decide +kernel, rfl⟩
theorem dX12_starts_18 : dc cX12_starts 18 (.iconst 5) 1 19 := ⟨by decide +kernel, rfl⟩
theorem dX12_starts_19 : dc cX12_starts 19 (.invokevirtual 90) 3 22 := ⟨by decide +kernel, rfl⟩
theorem dX12_starts_22 : dc cX12_starts 22 (.ireturn) 1 23 := ⟨by decide +kernel, rfl⟩
theorem dX12_starts_23 : dc cX12_starts 23 (.aload_n 0) 1 24 := ⟨by decide +kernel, rfl⟩
theorem dX12_starts_24 : dc cX12_starts 24 (.iload_n 1) 1 25 := ⟨by decide +kernel, rfl⟩
theorem dX12_starts_25 : dc cX12_starts 25 (.putfield 118) 3 28 := ⟨by decide +kernel, rfl⟩
theorem dX12_starts_28 : dc cX12_starts 28 (.aload_n 0) 1 29 := ⟨by decide +kernel, rfl⟩
theorem dX12_starts_29 : dc cX12_starts 29 (.iconst 0) 1 30 := ⟨by decide +kernel, rfl⟩
theorem dX12_starts_30 : dc cX12_starts 30 (.putfield 236) 3 33 := ⟨by decide +kernel, rfl⟩
theorem dX12_starts_33 : dc cX12_starts 33 (.aload_n 0) 1 34 := ⟨by decide +kernel, rfl⟩
theorem dX12_starts_34 : dc cX12_starts 34 (.iconst 0) 1 35 := ⟨by decide +kernel, rfl⟩
theorem dX12_starts_35 : dc cX12_starts 35 (.putfield 121) 3 38 := ⟨by decide +kernel, rfl⟩
theorem dX12_starts_38 : dc cX12_starts 38 (.aload_n 0) 1 39 := ⟨by decide +kernel, rfl⟩
theorem dX12_starts_39 : dc cX12_starts 39 (.iconst 0) 1 40 := ⟨by decide +kernel, rfl⟩
theorem dX12_starts_40 : dc cX12_starts 40 (.putfield 220) 3 43 := ⟨by decide +kernel, rfl⟩
theorem dX12_starts_43 : dc cX12_starts 43 (.aload_n 0) 1 44 := ⟨by decide +kernel, rfl⟩
theorem dX12_starts_44 : dc cX12_starts 44 (.invokevirtual 230) 3 47 := ⟨by decide +kernel, rfl⟩
theorem dX12_starts_47 : dc cX12_starts 47 (.iconst 1) 1 48 := ⟨by decide +kernel, rfl⟩
theorem dX12_starts_48 : dc cX12_starts 48 (.ireturn) 1 49 := ⟨by decide +kernel, rfl⟩
theorem nm_X12_starts : (yX12_starts).cls ≠ "java/lang/invoke/MethodHandle" ∧ (yX12_starts).cls ≠ "java/lang/invoke/VarHandle" ∧ (parseMethodDescriptor (yX12_starts).desc).map (fun d => d.parameters.length) = some 2 := ⟨by decide +kernel, by decide +kernel, by decide +kernel⟩
set_option maxRecDepth 100000 in
theorem z_X12_starts (n : Nat) {a0 : Nat} {p1 : Int32} {p2 : Int32} {M : KM} {y : (Int32 × KM)} (hf : f_X12_starts n a0 p1 p2 M = some y) : (y.1 = 0 ∨ y.1 = 1) := by
  unfold f_X12_starts at hf
  obtain ⟨j17, ej17, hf⟩ := lt_j hf
  have hj17 : j17 = some y → (y.1 = 0 ∨ y.1 = 1) := by
    intro hf
    rw [ej17] at hf
    obtain ⟨v1, hcv1⟩ : ∃ q, f_X12_no a0 (5 : Int32) M = q := ⟨_, rfl⟩
    replace hf := lt_e hf hcv1.symm
    obtain rfl := Option.some.inj hf
    exact (z_X12_no hcv1)
  by_cases h9 : p1 < 0
  · replace hf := (if_pos h9).symm.trans hf
    exact hj17 hf
  · replace hf := (if_neg h9).symm.trans hf
    by_cases h8 : (M.1 a0 8) < p1
    · replace hf := (if_pos h8).symm.trans hf
      exact hj17 hf
    · replace hf := (if_neg h8).symm.trans hf
      by_cases h7 : p1 ≤ p2
      · replace hf := (if_pos h7).symm.trans hf
        obtain ⟨M2, eM2⟩ : ∃ q : KM, q = (uI M a0 9 p1) := ⟨_, rfl⟩
        replace hf := lt_e hf eM2
        obtain ⟨M3, eM3⟩ : ∃ q : KM, q = (uI M2 a0 8 (0 : Int32)) := ⟨_, rfl⟩
        replace hf := lt_e hf eM3
        obtain ⟨M4, eM4⟩ : ∃ q : KM, q = (uI M3 a0 16 (0 : Int32)) := ⟨_, rfl⟩
        replace hf := lt_e hf eM4
        obtain ⟨M5, eM5⟩ : ∃ q : KM, q = (uI M4 a0 12 (0 : Int32)) := ⟨_, rfl⟩
        replace hf := lt_e hf eM5
        obtain ⟨v6, hcv6, hf⟩ := bd_e hf
        obtain rfl := Option.some.inj hf
        exact (Or.inr rfl)
      · replace hf := (if_neg h7).symm.trans hf
        exact hj17 hf
set_option maxRecDepth 100000 in
set_option maxHeartbeats 4000000 in
theorem c_X12_starts {l : Launch} {ad : Nat → Nat} {cy : Nat → ClassId} {D : va_G} {z : Nat} (n : Nat) {a0 : Nat} {p1 : Int32} {p2 : Int32} {M : KM} {y : (Int32 × KM)} (h0 : kty a0 = 12) (hf : f_X12_starts n a0 p1 p2 M = some y) : KC l ad cy D z yX12_starts cX12_starts 3 (some .boolean) 3 [.ref (ad a0), .int p1, .int p2] M (some (.int y.1), y.2) := by
  refine kv_enter (by decide +kernel) (Nat.le_of_ble_eq_true rfl) ?_
  intro x hl hD hz G
  subst hl hD hz
  unfold f_X12_starts at hf
  have G : KG ad cy x cX12_starts "NoonGuidesModel" 3 (some (some .boolean)) 3 := G
  show KV ad cy x (some (.int y.1), y.2) 0 [(0, .ref (ad a0)), (1, .int p1), (2, .int p2)] [] M
  refine v_iload_n G dX12_starts_0 1 rfl ?_
  obtain ⟨j17, ej17, hf⟩ := lt_j hf
  have hj17 : j17 = some y → KV ad cy x (some (.int y.1), y.2) 17 [(0, .ref (ad a0))] [] M := by
    intro hf
    rw [ej17] at hf
    refine v_aload_n G dX12_starts_17 0 rfl ?_
    refine v_iconst (5 : Int32) G dX12_starts_18 (by decide) ?_
    obtain ⟨v1, hcv1⟩ : ∃ q, f_X12_no a0 (5 : Int32) M = q := ⟨_, rfl⟩
    replace hf := lt_e hf hcv1.symm
    refine v_callV [.int (5 : Int32)] G (c_X12_no h0 hcv1) h0 (by decide) rfl rfl rfl t_1649 t_1651 t_p55 t_17 t_1652 nm_X12_no (by decide) (by decide) rfl rfl (Nat.le_of_ble_eq_true rfl) dX12_starts_19 (kv_ri ?_)
    obtain rfl := Option.some.inj hf
    exact v_zret G (z_X12_no hcv1) dX12_starts_22
  refine v_if_lt 17 G dX12_starts_1 (by decide) (fun h9 => ?_) (fun h9 => ?_)
  · replace hf := (if_pos h9).symm.trans hf
    refine v_sub _ [0] rfl ?_
    exact hj17 hf
  · replace hf := (if_neg h9).symm.trans hf
    refine v_iload_n G dX12_starts_4 1 rfl ?_
    refine v_aload_n G dX12_starts_5 0 rfl ?_
    refine gf_12_8 G h0 t_1499 (Or.inl rfl) dX12_starts_6 ?_
    refine v_icmp_gt 17 G dX12_starts_9 (by decide) (fun h8 => ?_) (fun h8 => ?_)
    · replace hf := (if_pos h8).symm.trans hf
      refine v_sub _ [0] rfl ?_
      exact hj17 hf
    · replace hf := (if_neg h8).symm.trans hf
      refine v_iload_n G dX12_starts_12 1 rfl ?_
      refine v_iload_n G dX12_starts_13 2 rfl ?_
      refine v_icmp_le 23 G dX12_starts_14 (by decide) (fun h7 => ?_) (fun h7 => ?_)
      · replace hf := (if_pos h7).symm.trans hf
        refine v_aload_n G dX12_starts_23 0 rfl ?_
        refine v_iload_n G dX12_starts_24 1 rfl ?_
        refine pf_12_9 G h0 t_1500 (Or.inl rfl) dX12_starts_25 ?_
        refine v_nmM (fun M2 eM2 => ?_)
        replace hf := lt_e hf eM2
        refine v_aload_n G dX12_starts_28 0 rfl ?_
        refine v_iconst (0 : Int32) G dX12_starts_29 (by decide) ?_
        refine pf_12_8 G h0 t_1499 (Or.inl rfl) dX12_starts_30 ?_
        refine v_nmM (fun M3 eM3 => ?_)
        replace hf := lt_e hf eM3
        refine v_aload_n G dX12_starts_33 0 rfl ?_
        refine v_iconst (0 : Int32) G dX12_starts_34 (by decide) ?_
        refine pf_12_16 G h0 t_1507 (Or.inl rfl) dX12_starts_35 ?_
        refine v_nmM (fun M4 eM4 => ?_)
        replace hf := lt_e hf eM4
        refine v_aload_n G dX12_starts_38 0 rfl ?_
        refine v_iconst (0 : Int32) G dX12_starts_39 (by decide) ?_
        refine pf_12_12 G h0 t_1503 (Or.inl rfl) dX12_starts_40 ?_
        refine v_nmM (fun M5 eM5 => ?_)
        replace hf := lt_e hf eM5
        refine v_aload_n G dX12_starts_43 0 rfl ?_
        obtain ⟨v6, hcv6, hf⟩ := bd_e hf
        refine v_callV [] G (c_X12_advance n h0 hcv6) h0 (by decide) rfl rfl rfl t_1697 t_1699 t_p60 t_17 t_1700 nm_X12_advance (by decide) (by decide) rfl rfl (Nat.le_of_ble_eq_true rfl) dX12_starts_44 (kv_rv ?_)
        refine v_iconst (1 : Int32) G dX12_starts_47 (by decide) ?_
        obtain rfl := Option.some.inj hf
        exact v_zret G (Or.inr rfl) dX12_starts_48
      · replace hf := (if_neg h7).symm.trans hf
        refine v_sub _ [0] rfl ?_
        exact hj17 hf
abbrev cX12_isWell : ByteArray := prog_14_method_54_code
def yX12_isWell : MethodName := ⟨RX12, "isWell", "()Z"⟩
theorem dX12_isWell_0 : dc cX12_isWell 0 (.aload_n 0) 1 1 := ⟨by decide +kernel, rfl⟩
theorem dX12_isWell_1 : dc cX12_isWell 1 (.aload_n 0) 1 2 := ⟨by decide +kernel, rfl⟩
theorem dX12_isWell_2 : dc cX12_isWell 2 (.getfield 220) 3 5 := ⟨by decide +kernel, rfl⟩
theorem dX12_isWell_5 : dc cX12_isWell 5 (.putfield 28) 3 8 := ⟨by decide +kernel, rfl⟩
theorem dX12_isWell_8 : dc cX12_isWell 8 (.aload_n 0) 1 9 := ⟨by decide +kernel, rfl⟩
theorem dX12_isWell_9 : dc cX12_isWell 9 (.aload_n 0) 1 10 := ⟨by decide +kernel, rfl⟩
theorem dX12_isWell_10 : dc cX12_isWell 10 (.getfield 220) 3 13 := ⟨by decide +kernel, rfl⟩
theorem dX12_isWell_13 : dc cX12_isWell 13 (.ifCond .ne 7) 3 16 := ⟨by decide +kernel, rfl⟩
theorem dX12_isWell_16 : dc cX12_isWell 16 (.iconst (-1)) 1 17 := ⟨by decide +kernel, rfl⟩
theorem dX12_isWell_17 : dc cX12_isWell 17 (.goto 7) 3 20 := ⟨by decide +kernel, rfl⟩
theorem dX12_isWell_20 : dc cX12_isWell 20 (.aload_n 0) 1 21 := ⟨by decide +kernel, rfl⟩
theorem dX12_isWell_21 : dc cX12_isWell 21 (.getfield 223) 3 24 := ⟨by decide +kernel, rfl⟩
theorem dX12_isWell_24 : dc cX12_isWell 24 (.putfield 32) 3 27 := ⟨by decide +kernel, rfl⟩
theorem dX12_isWell_27 : dc cX12_isWell 27 (.aload_n 0) 1 28 := ⟨by decide +kernel, rfl⟩
theorem dX12_isWell_28 : dc cX12_isWell 28 (.getfield 220) 3 31 := ⟨by decide +kernel, rfl⟩
theorem dX12_isWell_31 : dc cX12_isWell 31 (.ifCond .eq 12) 3 34 := ⟨by decide +kernel, rfl⟩
theorem dX12_isWell_34 : dc cX12_isWell 34 (.aload_n 0) 1 35 := ⟨by decide +kernel, rfl⟩
theorem dX12_isWell_35 : dc cX12_isWell 35 (.bipush 10) 2 37 := ⟨by decide +kernel, rfl⟩
theorem dX12_isWell_37 : dc cX12_isWell 37 (.invokevirtual 90) 3 40 := ⟨by decide +kernel, rfl⟩
theorem dX12_isWell_40 : dc cX12_isWell 40 (.ifCond .eq 7) 3 43 := ⟨by decide +kernel, rfl⟩
theorem dX12_isWell_43 : dc cX12_isWell 43 (.iconst 1) 1 44 := ⟨by decide +kernel, rfl⟩
theorem dX12_isWell_44 : dc cX12_isWell 44 (.goto 4) 3 47 := ⟨by decide +kernel, rfl⟩
theorem dX12_isWell_47 : dc cX12_isWell 47 (.iconst 0) 1 48 := ⟨by decide +kernel, rfl⟩
theorem dX12_isWell_48 : dc cX12_isWell 48 (.ireturn) 1 49 := ⟨by decide +kernel, rfl⟩
theorem nm_X12_isWell : (yX12_isWell).cls ≠ "java/lang/invoke/MethodHandle" ∧ (yX12_isWell).cls ≠ "java/lang/invoke/VarHandle" ∧ (parseMethodDescriptor (yX12_isWell).desc).map (fun d => d.parameters.length) = some 0 := ⟨by decide +kernel, by decide +kernel, by decide +kernel⟩
set_option maxRecDepth 100000 in
theorem z_X12_isWell {a0 : Nat} {M : KM} {y : (Int32 × KM)} (hf : f_X12_isWell a0 M = y) : (y.1 = 0 ∨ y.1 = 1) := by
  unfold f_X12_isWell at hf
  obtain ⟨M1, eM1⟩ : ∃ q : KM, q = (uI M a0 10 (M.1 a0 12)) := ⟨_, rfl⟩
  replace hf := lt_e hf eM1
  obtain ⟨j24, ej24, hf⟩ := lt_j hf
  have hj24 : ∀ (x2 : Int32), j24 x2 = y → (y.1 = 0 ∨ y.1 = 1) := by
    intro x2 hf
    rw [ej24] at hf
    obtain ⟨M3, eM3⟩ : ∃ q : KM, q = (uI M1 a0 11 x2) := ⟨_, rfl⟩
    replace hf := lt_e hf eM3
    obtain ⟨j43, ej43, hf⟩ := lt_j hf
    have hj43 : ∀ (M4 : KM), j43 M4 = y → (y.1 = 0 ∨ y.1 = 1) := by
      intro M4 hf
      rw [ej43] at hf
      obtain rfl := hf
      exact (Or.inr rfl)
    by_cases h7 : (M3.1 a0 12) = 0
    · replace hf := (if_pos h7).symm.trans hf
      exact hj43 M3 hf
    · replace hf := (if_neg h7).symm.trans hf
      obtain ⟨v5, hcv5⟩ : ∃ q, f_X12_no a0 (10 : Int32) M3 = q := ⟨_, rfl⟩
      replace hf := lt_e hf hcv5.symm
      by_cases h6 : v5.1 = 0
      · replace hf := (if_pos h6).symm.trans hf
        obtain rfl := hf
        exact (Or.inl rfl)
      · replace hf := (if_neg h6).symm.trans hf
        exact hj43 v5.2 hf
  by_cases h8 : (M1.1 a0 12) = 0
  · replace hf := (if_pos h8).symm.trans hf
    exact hj24 (-1 : Int32) hf
  · replace hf := (if_neg h8).symm.trans hf
    exact hj24 (M1.1 a0 13) hf
set_option maxRecDepth 100000 in
set_option maxHeartbeats 4000000 in
theorem c_X12_isWell {l : Launch} {ad : Nat → Nat} {cy : Nat → ClassId} {D : va_G} {z : Nat} {a0 : Nat} {M : KM} {y : (Int32 × KM)} (h0 : kty a0 = 12) (hf : f_X12_isWell a0 M = y) : KC l ad cy D z yX12_isWell cX12_isWell 1 (some .boolean) 2 [.ref (ad a0)] M (some (.int y.1), y.2) := by
  refine kv_enter (by decide +kernel) (Nat.le_of_ble_eq_true rfl) ?_
  intro x hl hD hz G
  subst hl hD hz
  unfold f_X12_isWell at hf
  have G : KG ad cy x cX12_isWell "NoonGuidesModel" 1 (some (some .boolean)) 2 := G
  show KV ad cy x (some (.int y.1), y.2) 0 [(0, .ref (ad a0))] [] M
  refine v_aload_n G dX12_isWell_0 0 rfl ?_
  refine v_aload_n G dX12_isWell_1 0 rfl ?_
  refine gf_12_12 G h0 t_1503 (Or.inl rfl) dX12_isWell_2 ?_
  refine pf_12_10 G h0 t_1501 (Or.inl rfl) dX12_isWell_5 ?_
  refine v_nmM (fun M1 eM1 => ?_)
  replace hf := lt_e hf eM1
  refine v_aload_n G dX12_isWell_8 0 rfl ?_
  refine v_aload_n G dX12_isWell_9 0 rfl ?_
  refine gf_12_12 G h0 t_1503 (Or.inl rfl) dX12_isWell_10 ?_
  obtain ⟨j24, ej24, hf⟩ := lt_j hf
  have hj24 : ∀ (x2 : Int32), j24 x2 = y → KV ad cy x (some (.int y.1), y.2) 24 [(0, .ref (ad a0))] [.int x2, .ref (ad a0)] M1 := by
    intro x2 hf
    rw [ej24] at hf
    refine pf_12_11 G h0 t_1502 (Or.inl rfl) dX12_isWell_24 ?_
    refine v_nmM (fun M3 eM3 => ?_)
    replace hf := lt_e hf eM3
    refine v_aload_n G dX12_isWell_27 0 rfl ?_
    refine gf_12_12 G h0 t_1503 (Or.inl rfl) dX12_isWell_28 ?_
    obtain ⟨j43, ej43, hf⟩ := lt_j hf
    have hj43 : ∀ (M4 : KM), j43 M4 = y → KV ad cy x (some (.int y.1), y.2) 43 [] [] M4 := by
      intro M4 hf
      rw [ej43] at hf
      refine v_iconst (1 : Int32) G dX12_isWell_43 (by decide) ?_
      refine v_goto 48 G dX12_isWell_44 (by decide) ?_
      obtain rfl := hf
      exact v_zret G (Or.inr rfl) dX12_isWell_48
    refine v_if_eq 43 G dX12_isWell_31 (by decide) (fun h7 => ?_) (fun h7 => ?_)
    · replace hf := (if_pos h7).symm.trans hf
      refine v_sub _ [] rfl ?_
      exact hj43 M3 hf
    · replace hf := (if_neg h7).symm.trans hf
      refine v_aload_n G dX12_isWell_34 0 rfl ?_
      refine v_bipush (10 : Int32) G dX12_isWell_35 (by decide) ?_
      obtain ⟨v5, hcv5⟩ : ∃ q, f_X12_no a0 (10 : Int32) M3 = q := ⟨_, rfl⟩
      replace hf := lt_e hf hcv5.symm
      refine v_callV [.int (10 : Int32)] G (c_X12_no h0 hcv5) h0 (by decide) rfl rfl rfl t_1649 t_1651 t_p55 t_17 t_1652 nm_X12_no (by decide) (by decide) rfl rfl (Nat.le_of_ble_eq_true rfl) dX12_isWell_37 (kv_ri ?_)
      refine v_if_eq 47 G dX12_isWell_40 (by decide) (fun h6 => ?_) (fun h6 => ?_)
      · replace hf := (if_pos h6).symm.trans hf
        refine v_iconst (0 : Int32) G dX12_isWell_47 (by decide) ?_
        obtain rfl := hf
        exact v_zret G (Or.inl rfl) dX12_isWell_48
      · replace hf := (if_neg h6).symm.trans hf
        refine v_sub _ [] rfl ?_
        exact hj43 v5.2 hf
  refine v_if_ne 20 G dX12_isWell_13 (by decide) (fun h8 => ?_) (fun h8 => ?_)
  · replace hf := (if_neg h8).symm.trans hf
    refine v_aload_n G dX12_isWell_20 0 rfl ?_
    refine gf_12_13 G h0 t_1504 (Or.inl rfl) dX12_isWell_21 ?_
    refine v_sub _ [0] rfl ?_
    exact hj24 (M1.1 a0 13) hf
  · replace hf := (if_pos h8).symm.trans hf
    refine v_iconst (-1 : Int32) G dX12_isWell_16 (by decide) ?_
    refine v_goto 24 G dX12_isWell_17 (by decide) ?_
    refine v_sub _ [0] rfl ?_
    exact hj24 (-1 : Int32) hf
abbrev cX12_fault : ByteArray := prog_14_method_55_code
def yX12_fault : MethodName := ⟨RX12, "fault", "(I)I"⟩
theorem dX12_fault_0 : dc cX12_fault 0 (.aload_n 0) 1 1 := ⟨by decide +kernel, rfl⟩
theorem dX12_fault_1 : dc cX12_fault 1 (.iconst 0) 1 2 := ⟨by decide +kernel, rfl⟩
theorem dX12_fault_2 : dc cX12_fault 2 (.putfield 75) 3 5 := ⟨by decide +kernel, rfl⟩
theorem dX12_fault_5 : dc cX12_fault 5 (.iload_n 1) 1 6 := ⟨by decide +kernel, rfl⟩
theorem dX12_fault_6 : dc cX12_fault 6 (.ifCond .ne 10) 3 9 := ⟨by decide +kernel, rfl⟩
theorem dX12_fault_9 : dc cX12_fault 9 (.aload_n 0) 1 10 := ⟨by decide +kernel, rfl⟩
theorem dX12_fault_10 : dc cX12_fault 10 (.getfield 28) 3 13 := ⟨by decide +kernel, rfl⟩
theorem dX12_fault_13 : dc cX12_fault 13 (.goto 16) 3 16 := ⟨by decide +kernel, rfl⟩
theorem dX12_fault_16 : dc cX12_fault 16 (.iload_n 1) 1 17 := ⟨by decide +kernel, rfl⟩
theorem dX12_fault_17 : dc cX12_fault 17 (.iconst 1) 1 18 := ⟨by decide +kernel, rfl⟩
theorem dX12_fault_18 : dc cX12_fault 18 (.if_icmp .ne 10) 3 21 := ⟨by decide +kernel, rfl⟩
theorem dX12_fault_21 : dc cX12_fault 21 (.aload_n 0) 1 22 := ⟨by decide +kernel, rfl⟩
theorem dX12_fault_22 : dc cX12_fault 22 (.getfield 32) 3 25 := ⟨by decide +kernel, rfl⟩
theorem dX12_fault_25 : dc cX12_fault 25 (.goto 4) 3 28 := ⟨by decide +kernel, rfl⟩
theorem dX12_fault_28 : dc cX12_fault 28 (.iconst (-1)) 1 29 := ⟨by decide +kernel, rfl⟩
theorem dX12_fault_29 : dc cX12_fault 29 (.ireturn) 1 30 := ⟨by decide +kernel, rfl⟩
theorem nm_X12_fault : (yX12_fault).cls ≠ "java/lang/invoke/MethodHandle" ∧ (yX12_fault).cls ≠ "java/lang/invoke/VarHandle" ∧ (parseMethodDescriptor (yX12_fault).desc).map (fun d => d.parameters.length) = some 1 := ⟨by decide +kernel, by decide +kernel, by decide +kernel⟩
set_option maxRecDepth 100000 in
set_option maxHeartbeats 4000000 in
theorem c_X12_fault {l : Launch} {ad : Nat → Nat} {cy : Nat → ClassId} {D : va_G} {z : Nat} {a0 : Nat} {p1 : Int32} {M : KM} {y : (Int32 × KM)} (h0 : kty a0 = 12) (hf : f_X12_fault a0 p1 M = y) : KC l ad cy D z yX12_fault cX12_fault 2 (some .int) 1 [.ref (ad a0), .int p1] M (some (.int y.1), y.2) := by
  refine kv_enter (by decide +kernel) (Nat.le_of_ble_eq_true rfl) ?_
  intro x hl hD hz G
  subst hl hD hz
  unfold f_X12_fault at hf
  have G : KG ad cy x cX12_fault "NoonGuidesModel" 2 (some (some .int)) 1 := G
  show KV ad cy x (some (.int y.1), y.2) 0 [(0, .ref (ad a0)), (1, .int p1)] [] M
  refine v_aload_n G dX12_fault_0 0 rfl ?_
  refine v_iconst (0 : Int32) G dX12_fault_1 (by decide) ?_
  refine pf_12_1 G h0 t_1492 (Or.inl rfl) dX12_fault_2 ?_
  refine v_nmM (fun M1 eM1 => ?_)
  replace hf := lt_e hf eM1
  refine v_iload_n G dX12_fault_5 1 rfl ?_
  refine v_if_ne 16 G dX12_fault_6 (by decide) (fun h3 => ?_) (fun h3 => ?_)
  · replace hf := (if_neg h3).symm.trans hf
    refine v_iload_n G dX12_fault_16 1 rfl ?_
    refine v_iconst (1 : Int32) G dX12_fault_17 (by decide) ?_
    refine v_icmp_ne 28 G dX12_fault_18 (by decide) (fun h2 => ?_) (fun h2 => ?_)
    · replace hf := (if_neg h2).symm.trans hf
      refine v_iconst (-1 : Int32) G dX12_fault_28 (by decide) ?_
      obtain rfl := hf
      exact v_iret G dX12_fault_29
    · replace hf := (if_pos h2).symm.trans hf
      refine v_aload_n G dX12_fault_21 0 rfl ?_
      refine gf_12_11 G h0 t_1502 (Or.inl rfl) dX12_fault_22 ?_
      refine v_goto 29 G dX12_fault_25 (by decide) ?_
      obtain rfl := hf
      exact v_iret G dX12_fault_29
  · replace hf := (if_pos h3).symm.trans hf
    refine v_aload_n G dX12_fault_9 0 rfl ?_
    refine gf_12_10 G h0 t_1501 (Or.inl rfl) dX12_fault_10 ?_
    refine v_goto 29 G dX12_fault_13 (by decide) ?_
    obtain rfl := hf
    exact v_iret G dX12_fault_29
abbrev cX12_empties : ByteArray := prog_14_method_56_code
def yX12_empties : MethodName := ⟨RX12, "empties", "(I)V"⟩
theorem dX12_empties_0 : dc cX12_empties 0 (.sipush 562) 3 3 := ⟨by decide +kernel, rfl⟩
theorem dX12_empties_3 : dc cX12_empties 3 (.iload_n 1) 1 4 := ⟨by decide +kernel, rfl⟩
theorem dX12_empties_4 : dc cX12_empties 4 (.imul) 1 5 := ⟨by decide +kernel, rfl⟩
theorem dX12_empties_5 : dc cX12_empties 5 (.istore_n 2) 1 6 := ⟨by decide +kernel, rfl⟩
theorem dX12_empties_6 : dc cX12_empties 6 (.iconst 0) 1 7 := ⟨by decide +kernel, rfl⟩
theorem dX12_empties_7 : dc cX12_empties 7 (.istore_n 3) 1 8 := ⟨by decide +kernel, rfl⟩
theorem dX12_empties_8 : dc cX12_empties 8 (.iload_n 3) 1 9 := ⟨by decide +kernel, rfl⟩
theorem dX12_empties_9 : dc cX12_empties 9 (.sipush 562) 3 12 := ⟨by decide +kernel, rfl⟩
theorem dX12_empties_12 : dc cX12_empties 12 (.if_icmp .ge 18) 3 15 := ⟨by decide +kernel, rfl⟩
theorem dX12_empties_15 : dc cX12_empties 15 (.aload_n 0) 1 16 := ⟨by decide +kernel, rfl⟩
theorem dX12_empties_16 : dc cX12_empties 16 (.getfield 35) 3 19 := ⟨by decide +kernel, rfl⟩
theorem dX12_empties_19 : dc cX12_empties 19 (.iload_n 2) 1 20 := ⟨by decide +kernel, rfl⟩
theorem dX12_empties_20 : dc cX12_empties 20 (.iload_n 3) 1 21 := ⟨by decide +kernel, rfl⟩
theorem dX12_empties_21 : dc cX12_empties 21 (.iadd) 1 22 := ⟨by decide +kernel, rfl⟩
theorem dX12_empties_22 : dc cX12_empties 22 (.iconst 0) 1 23 := ⟨by decide +kernel, rfl⟩
theorem dX12_empties_23 : dc cX12_empties 23 (.iastore) 1 24 := ⟨by decide +kernel, rfl⟩
theorem dX12_empties_24 : dc cX12_empties 24 (.iinc 3 1) 3 27 := ⟨by decide +kernel, rfl⟩
theorem dX12_empties_27 : dc cX12_empties 27 (.goto (-19)) 3 30 := ⟨by decide +kernel, rfl⟩
theorem dX12_empties_30 : dc cX12_empties 30 (.aload_n 0) 1 31 := ⟨by decide +kernel, rfl⟩
theorem dX12_empties_31 : dc cX12_empties 31 (.getfield 35) 3 34 := ⟨by decide +kernel, rfl⟩
theorem dX12_empties_34 : dc cX12_empties 34 (.iload_n 2) 1 35 := ⟨by decide +kernel, rfl⟩
theorem dX12_empties_35 : dc cX12_empties 35 (.iconst 3) 1 36 := ⟨by decide +kernel, rfl⟩
theorem dX12_empties_36 : dc cX12_empties 36 (.iadd) 1 37 := ⟨by decide +kernel, rfl⟩
theorem dX12_empties_37 : dc cX12_empties 37 (.bipush 10) 2 39 := ⟨by decide +kernel, rfl⟩
theorem dX12_empties_39 : dc cX12_empties 39 (.iastore) 1 40 := ⟨by decide +kernel, rfl⟩
theorem dX12_empties_40 : dc cX12_empties 40 (.aload_n 0) 1 41 := ⟨by decide +kernel, rfl⟩
theorem dX12_empties_41 : dc cX12_empties 41 (.getfield 35) 3 44 := ⟨by decide +kernel, rfl⟩
theorem dX12_empties_44 : dc cX12_empties 44 (.iload_n 2) 1 45 := ⟨by decide +kernel, rfl⟩
theorem dX12_empties_45 : dc cX12_empties 45 (.iconst 4) 1 46 := ⟨by decide +kernel, rfl⟩
theorem dX12_empties_46 : dc cX12_empties 46 (.iadd) 1 47 := ⟨by decide +kernel, rfl⟩
theorem dX12_empties_47 : dc cX12_empties 47 (.bipush 16) 2 49 := ⟨by decide +kernel, rfl⟩
theorem dX12_empties_49 : dc cX12_empties 49 (.iastore) 1 50 := ⟨by decide +kernel, rfl⟩
theorem dX12_empties_50 : dc cX12_empties 50 (.aload_n 0) 1 51 := ⟨by decide +kernel, rfl⟩
theorem dX12_empties_51 : dc cX12_empties 51 (.getfield 35) 3 54 := ⟨by decide +kernel, rfl⟩
theorem dX12_empties_54 : dc cX12_empties 54 (.iload_n 2) 1 55 := ⟨by decide +kernel, rfl⟩
theorem dX12_empties_55 : dc cX12_empties 55 (.iconst 5) 1 56 := ⟨by decide +kernel, rfl⟩
theorem dX12_empties_56 : dc cX12_empties 56 (.iadd) 1 57 := ⟨by decide +kernel, rfl⟩
theorem dX12_empties_57 : dc cX12_empties 57 (.sipush 480) 3 60 := ⟨by decide +kernel, rfl⟩
theorem dX12_empties_60 : dc cX12_empties 60 (.iastore) 1 61 := ⟨by decide +kernel, rfl⟩
theorem dX12_empties_61 : dc cX12_empties 61 (.aload_n 0) 1 62 := ⟨by decide +kernel, rfl⟩
theorem dX12_empties_62 : dc cX12_empties 62 (.getfield 35) 3 65 := ⟨by decide +kernel, rfl⟩
theorem dX12_empties_65 : dc cX12_empties 65 (.iload_n 2) 1 66 := ⟨by decide +kernel, rfl⟩
theorem dX12_empties_66 : dc cX12_empties 66 (.bipush 6) 2 68 := ⟨by decide +kernel, rfl⟩
theorem dX12_empties_68 : dc cX12_empties 68 (.iadd) 1 69 := ⟨by decide +kernel, rfl⟩
theorem dX12_empties_69 : dc cX12_empties 69 (.bipush 9) 2 71 := ⟨by decide +kernel, rfl⟩
theorem dX12_empties_71 : dc cX12_empties 71 (.iastore) 1 72 := ⟨by decide +kernel, rfl⟩
theorem dX12_empties_72 : dc cX12_empties 72 (.aload_n 0) 1 73 := ⟨by decide +kernel, rfl⟩
theorem dX12_empties_73 : dc cX12_empties 73 (.getfield 35) 3 76 := ⟨by decide +kernel, rfl⟩
theorem dX12_empties_76 : dc cX12_empties 76 (.iload_n 2) 1 77 := ⟨by decide +kernel, rfl⟩
theorem dX12_empties_77 : dc cX12_empties 77 (.bipush 7) 2 79 := ⟨by decide +kernel, rfl⟩
theorem dX12_empties_79 : dc cX12_empties 79 (.iadd) 1 80 := ⟨by decide +kernel, rfl⟩
theorem dX12_empties_80 : dc cX12_empties 80 (.iconst 3) 1 81 := ⟨by decide +kernel, rfl⟩
theorem dX12_empties_81 : dc cX12_empties 81 (.iastore) 1 82 := ⟨by decide +kernel, rfl⟩
theorem dX12_empties_82 : dc cX12_empties 82 (.aload_n 0) 1 83 := ⟨by decide +kernel, rfl⟩
theorem dX12_empties_83 : dc cX12_empties 83 (.getfield 35) 3 86 := ⟨by decide +kernel, rfl⟩
theorem dX12_empties_86 : dc cX12_empties 86 (.iload_n 2) 1 87 := ⟨by decide +kernel, rfl⟩
theorem dX12_empties_87 : dc cX12_empties 87 (.bipush 8) 2 89 := ⟨by decide +kernel, rfl⟩
theorem dX12_empties_89 : dc cX12_empties 89 (.iadd) 1 90 := ⟨by decide +kernel, rfl⟩
theorem dX12_empties_90 : dc cX12_empties 90 (.iconst 4) 1 91 := ⟨by decide +kernel, rfl⟩
theorem dX12_empties_91 : dc cX12_empties 91 (.iastore) 1 92 := ⟨by decide +kernel, rfl⟩
theorem dX12_empties_92 : dc cX12_empties 92 (.iconst 0) 1 93 := ⟨by decide +kernel, rfl⟩
theorem dX12_empties_93 : dc cX12_empties 93 (.istore_n 3) 1 94 := ⟨by decide +kernel, rfl⟩
theorem dX12_empties_94 : dc cX12_empties 94 (.iload_n 3) 1 95 := ⟨by decide +kernel, rfl⟩
theorem dX12_empties_95 : dc cX12_empties 95 (.bipush 8) 2 97 := ⟨by decide +kernel, rfl⟩
theorem dX12_empties_97 : dc cX12_empties 97 (.if_icmp .ge 33) 3 100 := ⟨by decide +kernel, rfl⟩
theorem dX12_empties_100 : dc cX12_empties 100 (.aload_n 0) 1 101 := ⟨by decide +kernel, rfl⟩
theorem dX12_empties_101 : dc cX12_empties 101 (.getfield 35) 3 104 := ⟨by decide +kernel, rfl⟩
theorem dX12_empties_104 : dc cX12_empties 104 (.iload_n 2) 1 105 := ⟨by decide +kernel, rfl⟩
theorem dX12_empties_105 : dc cX12_empties 105 (.bipush 66) 2 107 := ⟨by decide +kernel, rfl⟩
theorem dX12_empties_107 : dc cX12_empties 107 (.iadd) 1 108 := ⟨by decide +kernel, rfl⟩
theorem dX12_empties_108 : dc cX12_empties 108 (.iload_n 3) 1 109 := ⟨by decide +kernel, rfl⟩
theorem dX12_empties_109 : dc cX12_empties 109 (.iadd) 1 110 := ⟨by decide +kernel, rfl⟩
theorem dX12_empties_110 : dc cX12_empties 110 (.iconst (-1)) 1 111 := ⟨by decide +kernel, rfl⟩
theorem dX12_empties_111 : dc cX12_empties 111 (.iastore) 1 112 := ⟨by decide +kernel, rfl⟩
theorem dX12_empties_112 : dc cX12_empties 112 (.aload_n 0) 1 113 := ⟨by decide +kernel, rfl⟩
theorem dX12_empties_113 : dc cX12_empties 113 (.getfield 35) 3 116 := ⟨by decide +kernel, rfl⟩
theorem dX12_empties_116 : dc cX12_empties 116 (.iload_n 2) 1 117 := ⟨by decide +kernel, rfl⟩
theorem dX12_empties_117 : dc cX12_empties 117 (.bipush 82) 2 119 := ⟨by decide +kernel, rfl⟩
theorem dX12_empties_119 : dc cX12_empties 119 (.iadd) 1 120 := ⟨by decide +kernel, rfl⟩
theorem dX12_empties_120 : dc cX12_empties 120 (.iload_n 3) 1 121 := ⟨by decide +kernel, rfl⟩
theorem dX12_empties_121 : dc cX12_empties 121 (.iadd) 1 122 := ⟨by decide +kernel, rfl⟩
theorem dX12_empties_122 : dc cX12_empties 122 (.iconst (-1)) 1 123 := ⟨by decide +kernel, rfl⟩
theorem dX12_empties_123 : dc cX12_empties 123 (.iastore) 1 124 := ⟨by decide +kernel, rfl⟩
theorem dX12_empties_124 : dc cX12_empties 124 (.iinc 3 1) 3 127 := ⟨by decide +kernel, rfl⟩
theorem dX12_empties_127 : dc cX12_empties 127 (.goto (-33)) 3 130 := ⟨by decide +kernel, rfl⟩
theorem dX12_empties_130 : dc cX12_empties 130 (.return_) 1 131 := ⟨by decide +kernel, rfl⟩
theorem nm_X12_empties : (yX12_empties).cls ≠ "java/lang/invoke/MethodHandle" ∧ (yX12_empties).cls ≠ "java/lang/invoke/VarHandle" ∧ (parseMethodDescriptor (yX12_empties).desc).map (fun d => d.parameters.length) = some 1 := ⟨by decide +kernel, by decide +kernel, by decide +kernel⟩
set_option maxRecDepth 100000 in
set_option maxHeartbeats 4000000 in
theorem s_X12_empties_8 {ad : Nat → Nat} {cy : Nat → ClassId} {x : KX} (G : KG ad cy x cX12_empties "NoonGuidesModel" 4 (some none) 1) {a0 : Nat} {c2 : Int32} (h0 : kty a0 = 12) {k30 : KM → Option KM} {y : KM} (hk30 : ∀ (M : KM), k30 M = some y → KV ad cy x (none, y) 30 [(0, .ref (ad a0)), (2, .int c2)] [] M) : ∀ (n : Nat) (w3 : Int32) (M : KM), lp_X12_empties_8 n a0 c2 w3 M k30 = some y → KV ad cy x (none, y) 8 [(0, .ref (ad a0)), (2, .int c2), (3, .int w3)] [] M := by
  intro n
  induction n with
  | zero =>
    intro w3 M hf
    cases hf
  | succ n ih =>
    intro w3 M hf
    rw [lp_X12_empties_8] at hf
    refine v_iload_n G dX12_empties_8 2 rfl ?_
    refine v_sipush (562 : Int32) G dX12_empties_9 (by decide) ?_
    refine v_icmp_ge 30 G dX12_empties_12 (by decide) (fun h5 => ?_) (fun h5 => ?_)
    · replace hf := (if_pos h5).symm.trans hf
      refine v_sub _ [0, 1] rfl ?_
      exact hk30 M hf
    · replace hf := (if_neg h5).symm.trans hf
      refine v_aload_n G dX12_empties_15 0 rfl ?_
      refine gf_12_20 G h0 t_1511 (Or.inl rfl) dX12_empties_16 ?_
      refine v_iload_n G dX12_empties_19 1 rfl ?_
      refine v_iload_n G dX12_empties_20 2 rfl ?_
      refine v_iadd G dX12_empties_21 ?_
      refine v_iconst (0 : Int32) G dX12_empties_22 (by decide) ?_
      obtain ⟨g2, hf⟩ := gd_e hf
      refine as_36 G (kf_12_5 h0) g2 dX12_empties_23 ?_
      refine v_nmM (fun M3 eM3 => ?_)
      replace hf := lt_e hf eM3
      obtain ⟨v4, ev4⟩ : ∃ q : Int32, q = w3 + (1 : Int32) := ⟨_, rfl⟩
      replace hf := lt_e hf ev4
      refine v_iinc v4 [(3, .int v4), (0, .ref (ad a0)), (2, .int c2)] G dX12_empties_24 2 rfl (by rw [ev4]; rfl) (by decide) rfl ?_
      refine v_goto 8 G dX12_empties_27 (by decide) ?_
      refine v_sub _ [1, 2, 0] rfl ?_
      exact ih v4 M3 hf
set_option maxRecDepth 100000 in
set_option maxHeartbeats 4000000 in
theorem s_X12_empties_94 {ad : Nat → Nat} {cy : Nat → ClassId} {x : KX} (G : KG ad cy x cX12_empties "NoonGuidesModel" 4 (some none) 1) {a0 : Nat} {c2 : Int32} (h0 : kty a0 = 12) {y : KM} : ∀ (n : Nat) (w3 : Int32) (M : KM), lp_X12_empties_94 n a0 c2 w3 M = some y → KV ad cy x (none, y) 94 [(0, .ref (ad a0)), (2, .int c2), (3, .int w3)] [] M := by
  intro n
  induction n with
  | zero =>
    intro w3 M hf
    cases hf
  | succ n ih =>
    intro w3 M hf
    rw [lp_X12_empties_94] at hf
    refine v_iload_n G dX12_empties_94 2 rfl ?_
    refine v_bipush (8 : Int32) G dX12_empties_95 (by decide) ?_
    refine v_icmp_ge 130 G dX12_empties_97 (by decide) (fun h24 => ?_) (fun h24 => ?_)
    · replace hf := (if_pos h24).symm.trans hf
      obtain rfl := Option.some.inj hf
      exact v_vret G dX12_empties_130
    · replace hf := (if_neg h24).symm.trans hf
      refine v_aload_n G dX12_empties_100 0 rfl ?_
      refine gf_12_20 G h0 t_1511 (Or.inl rfl) dX12_empties_101 ?_
      refine v_iload_n G dX12_empties_104 1 rfl ?_
      refine v_bipush (66 : Int32) G dX12_empties_105 (by decide) ?_
      refine v_iadd G dX12_empties_107 ?_
      refine v_iload_n G dX12_empties_108 2 rfl ?_
      refine v_iadd G dX12_empties_109 ?_
      refine v_iconst (-1 : Int32) G dX12_empties_110 (by decide) ?_
      obtain ⟨g19, hf⟩ := gd_e hf
      refine as_36 G (kf_12_5 h0) g19 dX12_empties_111 ?_
      refine v_nmM (fun M20 eM20 => ?_)
      replace hf := lt_e hf eM20
      refine v_aload_n G dX12_empties_112 0 rfl ?_
      refine gf_12_20 G h0 t_1511 (Or.inl rfl) dX12_empties_113 ?_
      refine v_iload_n G dX12_empties_116 1 rfl ?_
      refine v_bipush (82 : Int32) G dX12_empties_117 (by decide) ?_
      refine v_iadd G dX12_empties_119 ?_
      refine v_iload_n G dX12_empties_120 2 rfl ?_
      refine v_iadd G dX12_empties_121 ?_
      refine v_iconst (-1 : Int32) G dX12_empties_122 (by decide) ?_
      obtain ⟨g21, hf⟩ := gd_e hf
      refine as_36 G (kf_12_5 h0) g21 dX12_empties_123 ?_
      refine v_nmM (fun M22 eM22 => ?_)
      replace hf := lt_e hf eM22
      obtain ⟨v23, ev23⟩ : ∃ q : Int32, q = w3 + (1 : Int32) := ⟨_, rfl⟩
      replace hf := lt_e hf ev23
      refine v_iinc v23 [(3, .int v23), (0, .ref (ad a0)), (2, .int c2)] G dX12_empties_124 2 rfl (by rw [ev23]; rfl) (by decide) rfl ?_
      refine v_goto 94 G dX12_empties_127 (by decide) ?_
      refine v_sub _ [1, 2, 0] rfl ?_
      exact ih v23 M22 hf
set_option maxRecDepth 100000 in
set_option maxHeartbeats 4000000 in
theorem c_X12_empties {l : Launch} {ad : Nat → Nat} {cy : Nat → ClassId} {D : va_G} {z : Nat} (n : Nat) {a0 : Nat} {p1 : Int32} {M : KM} {y : KM} (h0 : kty a0 = 12) (hf : f_X12_empties n a0 p1 M = some y) : KC l ad cy D z yX12_empties cX12_empties 4 none 1 [.ref (ad a0), .int p1] M (none, y) := by
  refine kv_enter (by decide +kernel) (Nat.le_of_ble_eq_true rfl) ?_
  intro x hl hD hz G
  subst hl hD hz
  unfold f_X12_empties at hf
  have G : KG ad cy x cX12_empties "NoonGuidesModel" 4 (some none) 1 := G
  show KV ad cy x (none, y) 0 [(0, .ref (ad a0)), (1, .int p1)] [] M
  refine v_sipush (562 : Int32) G dX12_empties_0 (by decide) ?_
  refine v_iload_n G dX12_empties_3 1 rfl ?_
  refine v_imul G dX12_empties_4 ?_
  refine v_nmi (fun v1 ev1 => ?_)
  replace hf := lt_e hf ev1
  refine v_istore_n [(2, .int v1), (0, .ref (ad a0)), (1, .int p1)] G dX12_empties_5 (by decide) rfl ?_
  refine v_iconst (0 : Int32) G dX12_empties_6 (by decide) ?_
  refine v_istore_n [(3, .int (0 : Int32)), (2, .int v1), (0, .ref (ad a0)), (1, .int p1)] G dX12_empties_7 (by decide) rfl ?_
  refine v_sub _ [2, 1, 0] rfl ?_
  refine s_X12_empties_8 G h0 (fun M6 hf => ?_) n (0 : Int32) M hf
  · refine v_aload_n G dX12_empties_30 0 rfl ?_
    refine gf_12_20 G h0 t_1511 (Or.inl rfl) dX12_empties_31 ?_
    refine v_iload_n G dX12_empties_34 1 rfl ?_
    refine v_iconst (3 : Int32) G dX12_empties_35 (by decide) ?_
    refine v_iadd G dX12_empties_36 ?_
    refine v_bipush (10 : Int32) G dX12_empties_37 (by decide) ?_
    obtain ⟨g7, hf⟩ := gd_e hf
    refine as_36 G (kf_12_5 h0) g7 dX12_empties_39 ?_
    refine v_nmM (fun M8 eM8 => ?_)
    replace hf := lt_e hf eM8
    refine v_aload_n G dX12_empties_40 0 rfl ?_
    refine gf_12_20 G h0 t_1511 (Or.inl rfl) dX12_empties_41 ?_
    refine v_iload_n G dX12_empties_44 1 rfl ?_
    refine v_iconst (4 : Int32) G dX12_empties_45 (by decide) ?_
    refine v_iadd G dX12_empties_46 ?_
    refine v_bipush (16 : Int32) G dX12_empties_47 (by decide) ?_
    obtain ⟨g9, hf⟩ := gd_e hf
    refine as_36 G (kf_12_5 h0) g9 dX12_empties_49 ?_
    refine v_nmM (fun M10 eM10 => ?_)
    replace hf := lt_e hf eM10
    refine v_aload_n G dX12_empties_50 0 rfl ?_
    refine gf_12_20 G h0 t_1511 (Or.inl rfl) dX12_empties_51 ?_
    refine v_iload_n G dX12_empties_54 1 rfl ?_
    refine v_iconst (5 : Int32) G dX12_empties_55 (by decide) ?_
    refine v_iadd G dX12_empties_56 ?_
    refine v_sipush (480 : Int32) G dX12_empties_57 (by decide) ?_
    obtain ⟨g11, hf⟩ := gd_e hf
    refine as_36 G (kf_12_5 h0) g11 dX12_empties_60 ?_
    refine v_nmM (fun M12 eM12 => ?_)
    replace hf := lt_e hf eM12
    refine v_aload_n G dX12_empties_61 0 rfl ?_
    refine gf_12_20 G h0 t_1511 (Or.inl rfl) dX12_empties_62 ?_
    refine v_iload_n G dX12_empties_65 1 rfl ?_
    refine v_bipush (6 : Int32) G dX12_empties_66 (by decide) ?_
    refine v_iadd G dX12_empties_68 ?_
    refine v_bipush (9 : Int32) G dX12_empties_69 (by decide) ?_
    obtain ⟨g13, hf⟩ := gd_e hf
    refine as_36 G (kf_12_5 h0) g13 dX12_empties_71 ?_
    refine v_nmM (fun M14 eM14 => ?_)
    replace hf := lt_e hf eM14
    refine v_aload_n G dX12_empties_72 0 rfl ?_
    refine gf_12_20 G h0 t_1511 (Or.inl rfl) dX12_empties_73 ?_
    refine v_iload_n G dX12_empties_76 1 rfl ?_
    refine v_bipush (7 : Int32) G dX12_empties_77 (by decide) ?_
    refine v_iadd G dX12_empties_79 ?_
    refine v_iconst (3 : Int32) G dX12_empties_80 (by decide) ?_
    obtain ⟨g15, hf⟩ := gd_e hf
    refine as_36 G (kf_12_5 h0) g15 dX12_empties_81 ?_
    refine v_nmM (fun M16 eM16 => ?_)
    replace hf := lt_e hf eM16
    refine v_aload_n G dX12_empties_82 0 rfl ?_
    refine gf_12_20 G h0 t_1511 (Or.inl rfl) dX12_empties_83 ?_
    refine v_iload_n G dX12_empties_86 1 rfl ?_
    refine v_bipush (8 : Int32) G dX12_empties_87 (by decide) ?_
    refine v_iadd G dX12_empties_89 ?_
    refine v_iconst (4 : Int32) G dX12_empties_90 (by decide) ?_
    obtain ⟨g17, hf⟩ := gd_e hf
    refine as_36 G (kf_12_5 h0) g17 dX12_empties_91 ?_
    refine v_nmM (fun M18 eM18 => ?_)
    replace hf := lt_e hf eM18
    refine v_iconst (0 : Int32) G dX12_empties_92 (by decide) ?_
    refine v_istore_n [(3, .int (0 : Int32)), (0, .ref (ad a0)), (2, .int v1)] G dX12_empties_93 (by decide) rfl ?_
    refine v_sub _ [1, 2, 0] rfl ?_
    refine s_X12_empties_94 G h0 n (0 : Int32) M18 hf
abbrev cX12_manyOf : ByteArray := prog_14_method_57_code
def yX12_manyOf : MethodName := ⟨RX12, "manyOf", "(II)I"⟩
theorem dX12_manyOf_0 : dc cX12_manyOf 0 (.aload_n 0) 1 1 := ⟨by decide +kernel, rfl⟩
theorem dX12_manyOf_1 : dc cX12_manyOf 1 (.getfield 35) 3 4 := ⟨by decide +kernel, rfl⟩
theorem dX12_manyOf_4 : dc cX12_manyOf 4 (.sipush 562) 3 7 := ⟨by decide +kernel, rfl⟩
theorem dX12_manyOf_7 : dc cX12_manyOf 7 (.iload_n 1) 1 8 := ⟨by decide +kernel, rfl⟩
theorem dX12_manyOf_8 : dc cX12_manyOf 8 (.imul) 1 9 := ⟨by decide +kernel, rfl⟩
theorem dX12_manyOf_9 : dc cX12_manyOf 9 (.iload_n 2) 1 10 := ⟨by decide +kernel, rfl⟩
theorem dX12_manyOf_10 : dc cX12_manyOf 10 (.ifCond .ne 7) 3 13 := ⟨by decide +kernel, rfl⟩
theorem dX12_manyOf_13 : dc cX12_manyOf 13 (.iconst 0) 1 14 := ⟨by decide +kernel, rfl⟩
theorem dX12_manyOf_14 : dc cX12_manyOf 14 (.goto 4) 3 17 := ⟨by decide +kernel, rfl⟩
theorem dX12_manyOf_17 : dc cX12_manyOf 17 (.iconst 2) 1 18 := ⟨by decide +kernel, rfl⟩
theorem dX12_manyOf_18 : dc cX12_manyOf 18 (.iadd) 1 19 := ⟨by decide +kernel, rfl⟩
theorem dX12_manyOf_19 : dc cX12_manyOf 19 (.iaload) 1 20 := ⟨by decide +kernel, rfl⟩
theorem dX12_manyOf_20 : dc cX12_manyOf 20 (.ireturn) 1 21 := ⟨by decide +kernel, rfl⟩
theorem nm_X12_manyOf : (yX12_manyOf).cls ≠ "java/lang/invoke/MethodHandle" ∧ (yX12_manyOf).cls ≠ "java/lang/invoke/VarHandle" ∧ (parseMethodDescriptor (yX12_manyOf).desc).map (fun d => d.parameters.length) = some 2 := ⟨by decide +kernel, by decide +kernel, by decide +kernel⟩
set_option maxRecDepth 100000 in
set_option maxHeartbeats 4000000 in
theorem c_X12_manyOf {l : Launch} {ad : Nat → Nat} {cy : Nat → ClassId} {D : va_G} {z : Nat} (n : Nat) {a0 : Nat} {p1 : Int32} {p2 : Int32} {M : KM} {y : Int32} (h0 : kty a0 = 12) (hf : f_X12_manyOf n a0 p1 p2 M = some y) : KC l ad cy D z yX12_manyOf cX12_manyOf 3 (some .int) 1 [.ref (ad a0), .int p1, .int p2] M (some (.int y), M) := by
  refine kv_enter (by decide +kernel) (Nat.le_of_ble_eq_true rfl) ?_
  intro x hl hD hz G
  subst hl hD hz
  unfold f_X12_manyOf at hf
  have G : KG ad cy x cX12_manyOf "NoonGuidesModel" 3 (some (some .int)) 1 := G
  show KV ad cy x (some (.int y), M) 0 [(0, .ref (ad a0)), (1, .int p1), (2, .int p2)] [] M
  refine v_aload_n G dX12_manyOf_0 0 rfl ?_
  refine gf_12_20 G h0 t_1511 (Or.inl rfl) dX12_manyOf_1 ?_
  refine v_sipush (562 : Int32) G dX12_manyOf_4 (by decide) ?_
  refine v_iload_n G dX12_manyOf_7 1 rfl ?_
  refine v_imul G dX12_manyOf_8 ?_
  refine v_iload_n G dX12_manyOf_9 2 rfl ?_
  refine v_if_ne 17 G dX12_manyOf_10 (by decide) (fun h3 => ?_) (fun h3 => ?_)
  · replace hf := (if_neg h3).symm.trans hf
    refine v_iconst (2 : Int32) G dX12_manyOf_17 (by decide) ?_
    refine v_iadd G dX12_manyOf_18 ?_
    obtain ⟨g1, hf⟩ := gd_e hf
    refine al_36 G (kf_12_5 h0) g1 dX12_manyOf_19 ?_
    obtain rfl := Option.some.inj hf
    exact v_iret G dX12_manyOf_20
  · replace hf := (if_pos h3).symm.trans hf
    refine v_iconst (0 : Int32) G dX12_manyOf_13 (by decide) ?_
    refine v_goto 18 G dX12_manyOf_14 (by decide) ?_
    refine v_iadd G dX12_manyOf_18 ?_
    obtain ⟨g2, hf⟩ := gd_e hf
    refine al_36 G (kf_12_5 h0) g2 dX12_manyOf_19 ?_
    obtain rfl := Option.some.inj hf
    exact v_iret G dX12_manyOf_20
abbrev cX12_named : ByteArray := prog_14_method_58_code
def yX12_named : MethodName := ⟨RX12, "named", "(II)I"⟩
theorem dX12_named_0 : dc cX12_named 0 (.iconst 0) 1 1 := ⟨by decide +kernel, rfl⟩
theorem dX12_named_1 : dc cX12_named 1 (.istore_n 3) 1 2 := ⟨by decide +kernel, rfl⟩
theorem dX12_named_2 : dc cX12_named 2 (.iload_n 3) 1 3 := ⟨by decide +kernel, rfl⟩
theorem dX12_named_3 : dc cX12_named 3 (.aload_n 0) 1 4 := ⟨by decide +kernel, rfl⟩
theorem dX12_named_4 : dc cX12_named 4 (.iload_n 1) 1 5 := ⟨by decide +kernel, rfl⟩
theorem dX12_named_5 : dc cX12_named 5 (.iload_n 2) 1 6 := ⟨by decide +kernel, rfl⟩
theorem dX12_named_6 : dc cX12_named 6 (.invokevirtual 242) 3 9 := ⟨by decide +kernel, rfl⟩
theorem dX12_named_9 : dc cX12_named 9 (.if_icmp .ge 35) 3 12 := ⟨by decide +kernel, rfl⟩
theorem dX12_named_12 : dc cX12_named 12 (.aload_n 0) 1 13 := ⟨by decide +kernel, rfl⟩
theorem dX12_named_13 : dc cX12_named 13 (.getfield 44) 3 16 := ⟨by decide +kernel, rfl⟩
theorem dX12_named_16 : dc cX12_named 16 (.bipush 16) 2 18 := ⟨by decide +kernel, rfl⟩
theorem dX12_named_18 : dc cX12_named 18 (.iload_n 1) 1 19 := ⟨by decide +kernel, rfl⟩
theorem dX12_named_19 : dc cX12_named 19 (.imul) 1 20 := ⟨by decide +kernel, rfl⟩
theorem dX12_named_20 : dc cX12_named 20 (.bipush 8) 2 22 := ⟨by decide +kernel, rfl⟩
theorem dX12_named_22 : dc cX12_named 22 (.iload_n 2) 1 23 := ⟨by decide +kernel, rfl⟩
theorem dX12_named_23 : dc cX12_named 23 (.imul) 1 24 := ⟨by decide +kernel, rfl⟩
theorem dX12_named_24 : dc cX12_named 24 (.iadd) 1 25 := ⟨by decide +kernel, rfl⟩
theorem dX12_named_25 : dc cX12_named 25 (.iload_n 3) 1 26 := ⟨by decide +kernel, rfl⟩
theorem dX12_named_26 : dc cX12_named 26 (.iadd) 1 27 := ⟨by decide +kernel, rfl⟩
theorem dX12_named_27 : dc cX12_named 27 (.laload) 1 28 := ⟨by decide +kernel, rfl⟩
theorem dX12_named_28 : dc cX12_named 28 (.aload_n 0) 1 29 := ⟨by decide +kernel, rfl⟩
theorem dX12_named_29 : dc cX12_named 29 (.getfield 136) 3 32 := ⟨by decide +kernel, rfl⟩
theorem dX12_named_32 : dc cX12_named 32 (.lcmp) 1 33 := ⟨by decide +kernel, rfl⟩
theorem dX12_named_33 : dc cX12_named 33 (.ifCond .ne 5) 3 36 := ⟨by decide +kernel, rfl⟩
theorem dX12_named_36 : dc cX12_named 36 (.iload_n 3) 1 37 := ⟨by decide +kernel, rfl⟩
theorem dX12_named_37 : dc cX12_named 37 (.ireturn) 1 38 := ⟨by decide +kernel, rfl⟩
theorem dX12_named_38 : dc cX12_named 38 (.iinc 3 1) 3 41 := ⟨by decide +kernel, rfl⟩
theorem dX12_named_41 : dc cX12_named 41 (.goto (-39)) 3 44 := ⟨by decide +kernel, rfl⟩
theorem dX12_named_44 : dc cX12_named 44 (.iconst (-1)) 1 45 := ⟨by decide +kernel, rfl⟩
theorem dX12_named_45 : dc cX12_named 45 (.ireturn) 1 46 := ⟨by decide +kernel, rfl⟩
theorem nm_X12_named : (yX12_named).cls ≠ "java/lang/invoke/MethodHandle" ∧ (yX12_named).cls ≠ "java/lang/invoke/VarHandle" ∧ (parseMethodDescriptor (yX12_named).desc).map (fun d => d.parameters.length) = some 2 := ⟨by decide +kernel, by decide +kernel, by decide +kernel⟩
set_option maxRecDepth 100000 in
set_option maxHeartbeats 4000000 in
theorem s_X12_named_2 {ad : Nat → Nat} {cy : Nat → ClassId} {x : KX} (G : KG ad cy x cX12_named "NoonGuidesModel" 4 (some (some .int)) 2) {a0 : Nat} {c1 : Int32} {c2 : Int32} {M : KM} (h0 : kty a0 = 12) {y : Int32} : ∀ (n : Nat) (w3 : Int32), lp_X12_named_2 n a0 c1 c2 M w3 = some y → KV ad cy x (some (.int y), M) 2 [(0, .ref (ad a0)), (1, .int c1), (2, .int c2), (3, .int w3)] [] M := by
  intro n
  induction n with
  | zero =>
    intro w3 hf
    cases hf
  | succ n ih =>
    intro w3 hf
    rw [lp_X12_named_2] at hf
    refine v_iload_n G dX12_named_2 3 rfl ?_
    refine v_aload_n G dX12_named_3 0 rfl ?_
    refine v_iload_n G dX12_named_4 1 rfl ?_
    refine v_iload_n G dX12_named_5 2 rfl ?_
    obtain ⟨v1, hcv1, hf⟩ := bd_e hf
    refine v_callV [.int c1, .int c2] G (c_X12_manyOf n h0 hcv1) h0 (by decide) rfl rfl rfl t_1802 t_1804 t_p82 t_17 t_1805 nm_X12_manyOf (by decide) (by decide) rfl rfl (Nat.le_of_ble_eq_true rfl) dX12_named_6 (kv_ri ?_)
    refine v_icmp_ge 44 G dX12_named_9 (by decide) (fun h5 => ?_) (fun h5 => ?_)
    · replace hf := (if_pos h5).symm.trans hf
      refine v_iconst (-1 : Int32) G dX12_named_44 (by decide) ?_
      obtain rfl := Option.some.inj hf
      exact v_iret G dX12_named_45
    · replace hf := (if_neg h5).symm.trans hf
      refine v_aload_n G dX12_named_12 0 rfl ?_
      refine gf_12_23 G h0 t_1514 (Or.inl rfl) dX12_named_13 ?_
      refine v_bipush (16 : Int32) G dX12_named_16 (by decide) ?_
      refine v_iload_n G dX12_named_18 1 rfl ?_
      refine v_imul G dX12_named_19 ?_
      refine v_bipush (8 : Int32) G dX12_named_20 (by decide) ?_
      refine v_iload_n G dX12_named_22 2 rfl ?_
      refine v_imul G dX12_named_23 ?_
      refine v_iadd G dX12_named_24 ?_
      refine v_iload_n G dX12_named_25 3 rfl ?_
      refine v_iadd G dX12_named_26 ?_
      obtain ⟨g2, hf⟩ := gd_e hf
      refine al_38 G (kf_12_8 h0) g2 dX12_named_27 ?_
      refine v_aload_n G dX12_named_28 0 rfl ?_
      refine gf_12_19 G h0 t_1510 (Or.inl rfl) dX12_named_29 ?_
      refine v_lcmp G dX12_named_32 ?_
      refine v_if_ne 38 G dX12_named_33 (by decide) (fun h4 => ?_) (fun h4 => ?_)
      · replace hf := (if_neg h4).symm.trans hf
        obtain ⟨v3, ev3⟩ : ∃ q : Int32, q = w3 + (1 : Int32) := ⟨_, rfl⟩
        replace hf := lt_e hf ev3
        refine v_iinc v3 [(3, .int v3), (0, .ref (ad a0)), (1, .int c1), (2, .int c2)] G dX12_named_38 3 rfl (by rw [ev3]; rfl) (by decide) rfl ?_
        refine v_goto 2 G dX12_named_41 (by decide) ?_
        refine v_sub _ [1, 2, 3, 0] rfl ?_
        exact ih v3 hf
      · replace hf := (if_pos h4).symm.trans hf
        refine v_iload_n G dX12_named_36 3 rfl ?_
        obtain rfl := Option.some.inj hf
        exact v_iret G dX12_named_37
set_option maxRecDepth 100000 in
set_option maxHeartbeats 4000000 in
theorem c_X12_named {l : Launch} {ad : Nat → Nat} {cy : Nat → ClassId} {D : va_G} {z : Nat} (n : Nat) {a0 : Nat} {p1 : Int32} {p2 : Int32} {M : KM} {y : Int32} (h0 : kty a0 = 12) (hf : f_X12_named n a0 p1 p2 M = some y) : KC l ad cy D z yX12_named cX12_named 4 (some .int) 2 [.ref (ad a0), .int p1, .int p2] M (some (.int y), M) := by
  refine kv_enter (by decide +kernel) (Nat.le_of_ble_eq_true rfl) ?_
  intro x hl hD hz G
  subst hl hD hz
  unfold f_X12_named at hf
  have G : KG ad cy x cX12_named "NoonGuidesModel" 4 (some (some .int)) 2 := G
  show KV ad cy x (some (.int y), M) 0 [(0, .ref (ad a0)), (1, .int p1), (2, .int p2)] [] M
  refine v_iconst (0 : Int32) G dX12_named_0 (by decide) ?_
  refine v_istore_n [(3, .int (0 : Int32)), (0, .ref (ad a0)), (1, .int p1), (2, .int p2)] G dX12_named_1 (by decide) rfl ?_
  refine v_sub _ [1, 2, 3, 0] rfl ?_
  refine s_X12_named_2 G h0 n (0 : Int32) hf
abbrev cX12_readNew : ByteArray := prog_14_method_59_code
def yX12_readNew : MethodName := ⟨RX12, "readNew", "(I)I"⟩
theorem dX12_readNew_0 : dc cX12_readNew 0 (.aload_n 0) 1 1 := ⟨by decide +kernel, rfl⟩
theorem dX12_readNew_1 : dc cX12_readNew 1 (.iconst 4) 1 2 := ⟨by decide +kernel, rfl⟩
theorem dX12_readNew_2 : dc cX12_readNew 2 (.iload_n 1) 1 3 := ⟨by decide +kernel, rfl⟩
theorem dX12_readNew_3 : dc cX12_readNew 3 (.invokevirtual 242) 3 6 := ⟨by decide +kernel, rfl⟩
theorem dX12_readNew_6 : dc cX12_readNew 6 (.istore_n 2) 1 7 := ⟨by decide +kernel, rfl⟩
theorem dX12_readNew_7 : dc cX12_readNew 7 (.iload_n 2) 1 8 := ⟨by decide +kernel, rfl⟩
theorem dX12_readNew_8 : dc cX12_readNew 8 (.bipush 8) 2 10 := ⟨by decide +kernel, rfl⟩
theorem dX12_readNew_10 : dc cX12_readNew 10 (.if_icmp .ne 13) 3 13 := ⟨by decide +kernel, rfl⟩
theorem dX12_readNew_13 : dc cX12_readNew 13 (.aload_n 0) 1 14 := ⟨by decide +kernel, rfl⟩
theorem dX12_readNew_14 : dc cX12_readNew 14 (.bipush 6) 2 16 := ⟨by decide +kernel, rfl⟩
theorem dX12_readNew_16 : dc cX12_readNew 16 (.aload_n 0) 1 17 := ⟨by decide +kernel, rfl⟩
theorem dX12_readNew_17 : dc cX12_readNew 17 (.getfield 124) 3 20 := ⟨by decide +kernel, rfl⟩
theorem dX12_readNew_20 : dc cX12_readNew 20 (.invokevirtual 226) 3 23 := ⟨by decide +kernel, rfl⟩
theorem dX12_readNew_23 : dc cX12_readNew 23 (.aload_n 0) 1 24 := ⟨by decide +kernel, rfl⟩
theorem dX12_readNew_24 : dc cX12_readNew 24 (.getfield 220) 3 27 := ⟨by decide +kernel, rfl⟩
theorem dX12_readNew_27 : dc cX12_readNew 27 (.ifCond .le 5) 3 30 := ⟨by decide +kernel, rfl⟩
theorem dX12_readNew_30 : dc cX12_readNew 30 (.iconst 0) 1 31 := ⟨by decide +kernel, rfl⟩
theorem dX12_readNew_31 : dc cX12_readNew 31 (.ireturn) 1 32 := ⟨by decide +kernel, rfl⟩
theorem dX12_readNew_32 : dc cX12_readNew 32 (.aload_n 0) 1 33 := ⟨by decide +kernel, rfl⟩
theorem dX12_readNew_33 : dc cX12_readNew 33 (.invokevirtual 230) 3 36 := ⟨by decide +kernel, rfl⟩
theorem dX12_readNew_36 : dc cX12_readNew 36 (.aload_n 0) 1 37 := ⟨by decide +kernel, rfl⟩
theorem dX12_readNew_37 : dc cX12_readNew 37 (.invokevirtual 245) 3 40 := ⟨by decide +kernel, rfl⟩
theorem dX12_readNew_40 : dc cX12_readNew 40 (.ifCond .ne 7) 3 43 := ⟨by decide +kernel, rfl⟩
theorem dX12_readNew_43 : dc cX12_readNew 43 (.aload_n 0) 1 44 := ⟨by decide +kernel, rfl⟩
theorem dX12_readNew_44 : dc cX12_readNew 44 (.invokevirtual 233) 3 47 := ⟨by decide +kernel, rfl⟩
theorem dX12_readNew_47 : dc cX12_readNew 47 (.aload_n 0) 1 48 := ⟨by decide +kernel, rfl⟩
theorem dX12_readNew_48 : dc cX12_readNew 48 (.getfield 220) 3 51 := ⟨by decide +kernel, rfl⟩
theorem dX12_readNew_51 : dc cX12_readNew 51 (.ifCond .ne 30) 3 54 := ⟨by decide +kernel, rfl⟩
theorem dX12_readNew_54 : dc cX12_readNew 54 (.aload_n 0) 1 55 := ⟨by decide +kernel, rfl⟩
theorem dX12_readNew_55 : dc cX12_readNew 55 (.iconst 4) 1 56 := ⟨by decide +kernel, rfl⟩
theorem dX12_readNew_56 : dc cX12_readNew 56 (.iconst 0) 1 57 := ⟨by decide +kernel, rfl⟩
theorem dX12_readNew_57 : dc cX12_readNew 57 (.invokevirtual 248) 3 60 := ⟨by decide +kernel, rfl⟩
theorem dX12_readNew_60 : dc cX12_readNew 60 (.ifCond .ge 12) 3 63 := ⟨by decide +kernel, rfl⟩
theorem dX12_readNew_63 : dc cX12_readNew 63 (.aload_n 0) 1 64 := ⟨by decide +kernel, rfl⟩
theorem dX12_readNew_64 : dc cX12_readNew 64 (.iconst 4) 1 65 := ⟨by decide +kernel, rfl⟩
theorem dX12_readNew_65 : dc cX12_readNew 65 (.iconst 1) 1 66 := ⟨by decide +kernel, rfl⟩
theorem dX12_readNew_66 : dc cX12_readNew 66 (.invokevirtual 248) 3 69 := ⟨by decide +kernel, rfl⟩
theorem dX12_readNew_69 : dc cX12_readNew 69 (.ifCond .lt 12) 3 72 := ⟨by decide +kernel, rfl⟩
theorem dX12_readNew_72 : dc cX12_readNew 72 (.aload_n 0) 1 73 := ⟨by decide +kernel, rfl⟩
theorem dX12_readNew_73 : dc cX12_readNew 73 (.iconst 3) 1 74 := ⟨by decide +kernel, rfl⟩
theorem dX12_readNew_74 : dc cX12_readNew 74 (.aload_n 0) 1 75 := ⟨by decide +kernel, rfl⟩
theorem dX12_readNew_75 : dc cX12_readNew 75 (.getfield 124) 3 78 := ⟨by decide +kernel, rfl⟩
theorem dX12_readNew_78 : dc cX12_readNew 78 (.invokevirtual 226) 3 81 := ⟨by decide +kernel, rfl⟩
theorem dX12_readNew_81 : dc cX12_readNew 81 (.aload_n 0) 1 82 := ⟨by decide +kernel, rfl⟩
theorem dX12_readNew_82 : dc cX12_readNew 82 (.getfield 220) 3 85 := ⟨by decide +kernel, rfl⟩
theorem dX12_readNew_85 : dc cX12_readNew 85 (.ifCond .le 5) 3 88 := ⟨by decide +kernel, rfl⟩
theorem dX12_readNew_88 : dc cX12_readNew 88 (.iconst 0) 1 89 := ⟨by decide +kernel, rfl⟩
theorem dX12_readNew_89 : dc cX12_readNew 89 (.ireturn) 1 90 := ⟨by decide +kernel, rfl⟩
theorem dX12_readNew_90 : dc cX12_readNew 90 (.aload_n 0) 1 91 := ⟨by decide +kernel, rfl⟩
theorem dX12_readNew_91 : dc cX12_readNew 91 (.getfield 44) 3 94 := ⟨by decide +kernel, rfl⟩
theorem dX12_readNew_94 : dc cX12_readNew 94 (.bipush 64) 2 96 := ⟨by decide +kernel, rfl⟩
theorem dX12_readNew_96 : dc cX12_readNew 96 (.bipush 8) 2 98 := ⟨by decide +kernel, rfl⟩
theorem dX12_readNew_98 : dc cX12_readNew 98 (.iload_n 1) 1 99 := ⟨by decide +kernel, rfl⟩
theorem dX12_readNew_99 : dc cX12_readNew 99 (.imul) 1 100 := ⟨by decide +kernel, rfl⟩
theorem dX12_readNew_100 : dc cX12_readNew 100 (.iadd) 1 101 := ⟨by decide +kernel, rfl⟩
theorem dX12_readNew_101 : dc cX12_readNew 101 (.iload_n 2) 1 102 := ⟨by decide +kernel, rfl⟩
theorem dX12_readNew_102 : dc cX12_readNew 102 (.iadd) 1 103 := ⟨by decide +kernel, rfl⟩
theorem dX12_readNew_103 : dc cX12_readNew 103 (.aload_n 0) 1 104 := ⟨by decide +kernel, rfl⟩
theorem dX12_readNew_104 : dc cX12_readNew 104 (.getfield 136) 3 107 := ⟨by decide +kernel, rfl⟩
theorem dX12_readNew_107 : dc cX12_readNew 107 (.lastore) 1 108 := ⟨by decide +kernel, rfl⟩
theorem dX12_readNew_108 : dc cX12_readNew 108 (.aload_n 0) 1 109 := ⟨by decide +kernel, rfl⟩
theorem dX12_readNew_109 : dc cX12_readNew 109 (.invokevirtual 230) 3 112 := ⟨by decide +kernel, rfl⟩
theorem dX12_readNew_112 : dc cX12_readNew 112 (.iload_n 2) 1 113 := ⟨by decide +kernel, rfl⟩
theorem dX12_readNew_113 : dc cX12_readNew 113 (.ireturn) 1 114 := ⟨by decide +kernel, rfl⟩
theorem nm_X12_readNew : (yX12_readNew).cls ≠ "java/lang/invoke/MethodHandle" ∧ (yX12_readNew).cls ≠ "java/lang/invoke/VarHandle" ∧ (parseMethodDescriptor (yX12_readNew).desc).map (fun d => d.parameters.length) = some 1 := ⟨by decide +kernel, by decide +kernel, by decide +kernel⟩
set_option maxRecDepth 100000 in
set_option maxHeartbeats 4000000 in
theorem c_X12_readNew {l : Launch} {ad : Nat → Nat} {cy : Nat → ClassId} {D : va_G} {z : Nat} (n : Nat) {a0 : Nat} {p1 : Int32} {M : KM} {y : (Int32 × KM)} (h0 : kty a0 = 12) (hf : f_X12_readNew n a0 p1 M = some y) : KC l ad cy D z yX12_readNew cX12_readNew 3 (some .int) 5 [.ref (ad a0), .int p1] M (some (.int y.1), y.2) := by
  refine kv_enter (by decide +kernel) (Nat.le_of_ble_eq_true rfl) ?_
  intro x hl hD hz G
  subst hl hD hz
  unfold f_X12_readNew at hf
  have G : KG ad cy x cX12_readNew "NoonGuidesModel" 3 (some (some .int)) 5 := G
  show KV ad cy x (some (.int y.1), y.2) 0 [(0, .ref (ad a0)), (1, .int p1)] [] M
  refine v_aload_n G dX12_readNew_0 0 rfl ?_
  refine v_iconst (4 : Int32) G dX12_readNew_1 (by decide) ?_
  refine v_iload_n G dX12_readNew_2 1 rfl ?_
  obtain ⟨v1, hcv1, hf⟩ := bd_e hf
  refine v_callV [.int (4 : Int32), .int p1] G (c_X12_manyOf n h0 hcv1) h0 (by decide) rfl rfl rfl t_1802 t_1804 t_p82 t_17 t_1805 nm_X12_manyOf (by decide) (by decide) rfl rfl (Nat.le_of_ble_eq_true rfl) dX12_readNew_3 (kv_ri ?_)
  refine v_istore_n [(2, .int v1), (0, .ref (ad a0)), (1, .int p1)] G dX12_readNew_6 (by decide) rfl ?_
  refine v_iload_n G dX12_readNew_7 0 rfl ?_
  refine v_bipush (8 : Int32) G dX12_readNew_8 (by decide) ?_
  obtain ⟨j23, ej23, hf⟩ := lt_j hf
  have hj23 : ∀ (M2 : KM), j23 M2 = some y → KV ad cy x (some (.int y.1), y.2) 23 [(0, .ref (ad a0)), (1, .int p1), (2, .int v1)] [] M2 := by
    intro M2 hf
    rw [ej23] at hf
    refine v_aload_n G dX12_readNew_23 0 rfl ?_
    refine gf_12_12 G h0 t_1503 (Or.inl rfl) dX12_readNew_24 ?_
    refine v_if_le 32 G dX12_readNew_27 (by decide) (fun h19 => ?_) (fun h19 => ?_)
    · replace hf := (if_pos h19).symm.trans hf
      refine v_aload_n G dX12_readNew_32 0 rfl ?_
      obtain ⟨v3, hcv3, hf⟩ := bd_e hf
      refine v_callV [] G (c_X12_advance n h0 hcv3) h0 (by decide) rfl rfl rfl t_1697 t_1699 t_p60 t_17 t_1700 nm_X12_advance (by decide) (by decide) rfl rfl (Nat.le_of_ble_eq_true rfl) dX12_readNew_33 (kv_rv ?_)
      refine v_aload_n G dX12_readNew_36 0 rfl ?_
      obtain ⟨v4, hcv4⟩ : ∃ q, f_X12_isName a0 v3 = q := ⟨_, rfl⟩
      replace hf := lt_e hf hcv4.symm
      refine v_callV [] G (c_X12_isName h0 hcv4) h0 (by decide) rfl rfl rfl t_1806 t_1808 t_p83 t_17 t_1809 nm_X12_isName (by decide) (by decide) rfl rfl (Nat.le_of_ble_eq_true rfl) dX12_readNew_37 (kv_ri ?_)
      obtain ⟨j47, ej47, hf⟩ := lt_j hf
      have hj47 : ∀ (M5 : KM), j47 M5 = some y → KV ad cy x (some (.int y.1), y.2) 47 [(0, .ref (ad a0)), (1, .int p1), (2, .int v1)] [] M5 := by
        intro M5 hf
        rw [ej47] at hf
        refine v_aload_n G dX12_readNew_47 0 rfl ?_
        refine gf_12_12 G h0 t_1503 (Or.inl rfl) dX12_readNew_48 ?_
        obtain ⟨j81, ej81, hf⟩ := lt_j hf
        have hj81 : ∀ (M6 : KM), j81 M6 = some y → KV ad cy x (some (.int y.1), y.2) 81 [(0, .ref (ad a0)), (1, .int p1), (2, .int v1)] [] M6 := by
          intro M6 hf
          rw [ej81] at hf
          refine v_aload_n G dX12_readNew_81 0 rfl ?_
          refine gf_12_12 G h0 t_1503 (Or.inl rfl) dX12_readNew_82 ?_
          refine v_if_le 90 G dX12_readNew_85 (by decide) (fun h10 => ?_) (fun h10 => ?_)
          · replace hf := (if_pos h10).symm.trans hf
            refine v_aload_n G dX12_readNew_90 0 rfl ?_
            refine gf_12_23 G h0 t_1514 (Or.inl rfl) dX12_readNew_91 ?_
            refine v_bipush (64 : Int32) G dX12_readNew_94 (by decide) ?_
            refine v_bipush (8 : Int32) G dX12_readNew_96 (by decide) ?_
            refine v_iload_n G dX12_readNew_98 1 rfl ?_
            refine v_imul G dX12_readNew_99 ?_
            refine v_iadd G dX12_readNew_100 ?_
            refine v_iload_n G dX12_readNew_101 2 rfl ?_
            refine v_iadd G dX12_readNew_102 ?_
            refine v_aload_n G dX12_readNew_103 0 rfl ?_
            refine gf_12_19 G h0 t_1510 (Or.inl rfl) dX12_readNew_104 ?_
            obtain ⟨g7, hf⟩ := gd_e hf
            refine as_38 G (kf_12_8 h0) g7 dX12_readNew_107 ?_
            refine v_nmM (fun M8 eM8 => ?_)
            replace hf := lt_e hf eM8
            refine v_aload_n G dX12_readNew_108 0 rfl ?_
            obtain ⟨v9, hcv9, hf⟩ := bd_e hf
            refine v_callV [] G (c_X12_advance n h0 hcv9) h0 (by decide) rfl rfl rfl t_1697 t_1699 t_p60 t_17 t_1700 nm_X12_advance (by decide) (by decide) rfl rfl (Nat.le_of_ble_eq_true rfl) dX12_readNew_109 (kv_rv ?_)
            refine v_iload_n G dX12_readNew_112 2 rfl ?_
            obtain rfl := Option.some.inj hf
            exact v_iret G dX12_readNew_113
          · replace hf := (if_neg h10).symm.trans hf
            refine v_iconst (0 : Int32) G dX12_readNew_88 (by decide) ?_
            obtain rfl := Option.some.inj hf
            exact v_iret G dX12_readNew_89
        refine v_if_ne 81 G dX12_readNew_51 (by decide) (fun h16 => ?_) (fun h16 => ?_)
        · replace hf := (if_neg h16).symm.trans hf
          refine v_sub _ [0, 1, 2] rfl ?_
          exact hj81 M5 hf
        · replace hf := (if_pos h16).symm.trans hf
          refine v_aload_n G dX12_readNew_54 0 rfl ?_
          refine v_iconst (4 : Int32) G dX12_readNew_55 (by decide) ?_
          refine v_iconst (0 : Int32) G dX12_readNew_56 (by decide) ?_
          obtain ⟨v11, hcv11, hf⟩ := bd_e hf
          refine v_callV [.int (4 : Int32), .int (0 : Int32)] G (c_X12_named n h0 hcv11) h0 (by decide) rfl rfl rfl t_1852 t_1854 t_p94 t_17 t_1855 nm_X12_named (by decide) (by decide) rfl rfl (Nat.le_of_ble_eq_true rfl) dX12_readNew_57 (kv_ri ?_)
          obtain ⟨j72, ej72, hf⟩ := lt_j hf
          have hj72 : j72 = some y → KV ad cy x (some (.int y.1), y.2) 72 [(0, .ref (ad a0)), (1, .int p1), (2, .int v1)] [] M5 := by
            intro hf
            rw [ej72] at hf
            refine v_aload_n G dX12_readNew_72 0 rfl ?_
            refine v_iconst (3 : Int32) G dX12_readNew_73 (by decide) ?_
            refine v_aload_n G dX12_readNew_74 0 rfl ?_
            refine gf_12_15 G h0 t_1506 (Or.inl rfl) dX12_readNew_75 ?_
            obtain ⟨v12, hcv12⟩ : ∃ q, f_X12_fail a0 (3 : Int32) (M5.1 a0 15) M5 = q := ⟨_, rfl⟩
            replace hf := lt_e hf hcv12.symm
            refine v_callV [.int (3 : Int32), .int (M5.1 a0 15)] G (c_X12_fail h0 hcv12) h0 (by decide) rfl rfl rfl t_1743 t_1745 t_p68 t_17 t_1746 nm_X12_fail (by decide) (by decide) rfl rfl (Nat.le_of_ble_eq_true rfl) dX12_readNew_78 (kv_rv ?_)
            refine v_sub _ [0, 1, 2] rfl ?_
            exact hj81 v12 hf
          refine v_if_ge 72 G dX12_readNew_60 (by decide) (fun h15 => ?_) (fun h15 => ?_)
          · replace hf := (if_pos h15).symm.trans hf
            refine v_sub _ [0, 1, 2] rfl ?_
            exact hj72 hf
          · replace hf := (if_neg h15).symm.trans hf
            refine v_aload_n G dX12_readNew_63 0 rfl ?_
            refine v_iconst (4 : Int32) G dX12_readNew_64 (by decide) ?_
            refine v_iconst (1 : Int32) G dX12_readNew_65 (by decide) ?_
            obtain ⟨v13, hcv13, hf⟩ := bd_e hf
            refine v_callV [.int (4 : Int32), .int (1 : Int32)] G (c_X12_named n h0 hcv13) h0 (by decide) rfl rfl rfl t_1852 t_1854 t_p94 t_17 t_1855 nm_X12_named (by decide) (by decide) rfl rfl (Nat.le_of_ble_eq_true rfl) dX12_readNew_66 (kv_ri ?_)
            refine v_if_lt 81 G dX12_readNew_69 (by decide) (fun h14 => ?_) (fun h14 => ?_)
            · replace hf := (if_pos h14).symm.trans hf
              refine v_sub _ [0, 1, 2] rfl ?_
              exact hj81 M5 hf
            · replace hf := (if_neg h14).symm.trans hf
              refine v_sub _ [0, 1, 2] rfl ?_
              exact hj72 hf
      refine v_if_ne 47 G dX12_readNew_40 (by decide) (fun h18 => ?_) (fun h18 => ?_)
      · replace hf := (if_neg h18).symm.trans hf
        refine v_sub _ [0, 1, 2] rfl ?_
        exact hj47 v3 hf
      · replace hf := (if_pos h18).symm.trans hf
        refine v_aload_n G dX12_readNew_43 0 rfl ?_
        obtain ⟨v17, hcv17⟩ : ∃ q, f_X12_amiss a0 v3 = q := ⟨_, rfl⟩
        replace hf := lt_e hf hcv17.symm
        refine v_callV [] G (c_X12_amiss h0 hcv17) h0 (by decide) rfl rfl rfl t_1751 t_1753 t_p70 t_17 t_1754 nm_X12_amiss (by decide) (by decide) rfl rfl (Nat.le_of_ble_eq_true rfl) dX12_readNew_44 (kv_rv ?_)
        refine v_sub _ [0, 1, 2] rfl ?_
        exact hj47 v17 hf
    · replace hf := (if_neg h19).symm.trans hf
      refine v_iconst (0 : Int32) G dX12_readNew_30 (by decide) ?_
      obtain rfl := Option.some.inj hf
      exact v_iret G dX12_readNew_31
  refine v_icmp_ne 23 G dX12_readNew_10 (by decide) (fun h21 => ?_) (fun h21 => ?_)
  · replace hf := (if_neg h21).symm.trans hf
    refine v_sub _ [1, 2, 0] rfl ?_
    exact hj23 M hf
  · replace hf := (if_pos h21).symm.trans hf
    refine v_aload_n G dX12_readNew_13 1 rfl ?_
    refine v_bipush (6 : Int32) G dX12_readNew_14 (by decide) ?_
    refine v_aload_n G dX12_readNew_16 1 rfl ?_
    refine gf_12_15 G h0 t_1506 (Or.inl rfl) dX12_readNew_17 ?_
    obtain ⟨v20, hcv20⟩ : ∃ q, f_X12_fail a0 (6 : Int32) (M.1 a0 15) M = q := ⟨_, rfl⟩
    replace hf := lt_e hf hcv20.symm
    refine v_callV [.int (6 : Int32), .int (M.1 a0 15)] G (c_X12_fail h0 hcv20) h0 (by decide) rfl rfl rfl t_1743 t_1745 t_p68 t_17 t_1746 nm_X12_fail (by decide) (by decide) rfl rfl (Nat.le_of_ble_eq_true rfl) dX12_readNew_20 (kv_rv ?_)
    refine v_sub _ [1, 2, 0] rfl ?_
    exact hj23 v20 hf
abbrev cX12_told : ByteArray := prog_14_method_60_code
def yX12_told : MethodName := ⟨RX12, "told", "(II)I"⟩
theorem dX12_told_0 : dc cX12_told 0 (.aload_n 0) 1 1 := ⟨by decide +kernel, rfl⟩
theorem dX12_told_1 : dc cX12_told 1 (.getfield 220) 3 4 := ⟨by decide +kernel, rfl⟩
theorem dX12_told_4 : dc cX12_told 4 (.ifCond .ne 14) 3 7 := ⟨by decide +kernel, rfl⟩
theorem dX12_told_7 : dc cX12_told 7 (.aload_n 0) 1 8 := ⟨by decide +kernel, rfl⟩
theorem dX12_told_8 : dc cX12_told 8 (.invokevirtual 245) 3 11 := ⟨by decide +kernel, rfl⟩
theorem dX12_told_11 : dc cX12_told 11 (.ifCond .ne 7) 3 14 := ⟨by decide +kernel, rfl⟩
theorem dX12_told_14 : dc cX12_told 14 (.aload_n 0) 1 15 := ⟨by decide +kernel, rfl⟩
theorem dX12_told_15 : dc cX12_told 15 (.invokevirtual 233) 3 18 := ⟨by decide +kernel, rfl⟩
theorem dX12_told_18 : dc cX12_told 18 (.aload_n 0) 1 19 := ⟨by decide +kernel, rfl⟩
theorem dX12_told_19 : dc cX12_told 19 (.getfield 220) 3 22 := ⟨by decide +kernel, rfl⟩
theorem dX12_told_22 : dc cX12_told 22 (.ifCond .le 5) 3 25 := ⟨by decide +kernel, rfl⟩
theorem dX12_told_25 : dc cX12_told 25 (.iconst 0) 1 26 := ⟨by decide +kernel, rfl⟩
theorem dX12_told_26 : dc cX12_told 26 (.ireturn) 1 27 := ⟨by decide +kernel, rfl⟩
theorem dX12_told_27 : dc cX12_told 27 (.aload_n 0) 1 28 := ⟨by decide +kernel, rfl⟩
theorem dX12_told_28 : dc cX12_told 28 (.iload_n 1) 1 29 := ⟨by decide +kernel, rfl⟩
theorem dX12_told_29 : dc cX12_told 29 (.iload_n 2) 1 30 := ⟨by decide +kernel, rfl⟩
theorem dX12_told_30 : dc cX12_told 30 (.invokevirtual 248) 3 33 := ⟨by decide +kernel, rfl⟩
theorem dX12_told_33 : dc cX12_told 33 (.istore_n 3) 1 34 := ⟨by decide +kernel, rfl⟩
theorem dX12_told_34 : dc cX12_told 34 (.iload_n 3) 1 35 := ⟨by decide +kernel, rfl⟩
theorem dX12_told_35 : dc cX12_told 35 (.ifCond .ge 12) 3 38 := ⟨by decide +kernel, rfl⟩
theorem dX12_told_38 : dc cX12_told 38 (.aload_n 0) 1 39 := ⟨by decide +kernel, rfl⟩
theorem dX12_told_39 : dc cX12_told 39 (.iconst 3) 1 40 := ⟨by decide +kernel, rfl⟩
theorem dX12_told_40 : dc cX12_told 40 (.aload_n 0) 1 41 := ⟨by decide +kernel, rfl⟩
theorem dX12_told_41 : dc cX12_told 41 (.getfield 124) 3 44 := ⟨by decide +kernel, rfl⟩
theorem dX12_told_44 : dc cX12_told 44 (.invokevirtual 226) 3 47 := ⟨by decide +kernel, rfl⟩
theorem dX12_told_47 : dc cX12_told 47 (.iconst 0) 1 48 := ⟨by decide +kernel, rfl⟩
theorem dX12_told_48 : dc cX12_told 48 (.iload_n 3) 1 49 := ⟨by decide +kernel, rfl⟩
theorem dX12_told_49 : dc cX12_told 49 (.invokestatic 251) 3 52 := ⟨by decide +kernel, rfl⟩
theorem dX12_told_52 : dc cX12_told 52 (.ireturn) 1 53 := ⟨by decide +kernel, rfl⟩
theorem nm_X12_told : (yX12_told).cls ≠ "java/lang/invoke/MethodHandle" ∧ (yX12_told).cls ≠ "java/lang/invoke/VarHandle" ∧ (parseMethodDescriptor (yX12_told).desc).map (fun d => d.parameters.length) = some 2 := ⟨by decide +kernel, by decide +kernel, by decide +kernel⟩
set_option maxRecDepth 100000 in
set_option maxHeartbeats 4000000 in
theorem c_X12_told {l : Launch} {ad : Nat → Nat} {cy : Nat → ClassId} {D : va_G} {z : Nat} (n : Nat) {a0 : Nat} {p1 : Int32} {p2 : Int32} {M : KM} {y : (Int32 × KM)} (h0 : kty a0 = 12) (hf : f_X12_told n a0 p1 p2 M = some y) : KC l ad cy D z yX12_told cX12_told 4 (some .int) 5 [.ref (ad a0), .int p1, .int p2] M (some (.int y.1), y.2) := by
  refine kv_enter (by decide +kernel) (Nat.le_of_ble_eq_true rfl) ?_
  intro x hl hD hz G
  subst hl hD hz
  unfold f_X12_told at hf
  have G : KG ad cy x cX12_told "NoonGuidesModel" 4 (some (some .int)) 5 := G
  show KV ad cy x (some (.int y.1), y.2) 0 [(0, .ref (ad a0)), (1, .int p1), (2, .int p2)] [] M
  refine v_aload_n G dX12_told_0 0 rfl ?_
  refine gf_12_12 G h0 t_1503 (Or.inl rfl) dX12_told_1 ?_
  obtain ⟨j18, ej18, hf⟩ := lt_j hf
  have hj18 : ∀ (M1 : KM), j18 M1 = some y → KV ad cy x (some (.int y.1), y.2) 18 [(0, .ref (ad a0)), (1, .int p1), (2, .int p2)] [] M1 := by
    intro M1 hf
    rw [ej18] at hf
    refine v_aload_n G dX12_told_18 0 rfl ?_
    refine gf_12_12 G h0 t_1503 (Or.inl rfl) dX12_told_19 ?_
    refine v_if_le 27 G dX12_told_22 (by decide) (fun h7 => ?_) (fun h7 => ?_)
    · replace hf := (if_pos h7).symm.trans hf
      refine v_aload_n G dX12_told_27 0 rfl ?_
      refine v_iload_n G dX12_told_28 1 rfl ?_
      refine v_iload_n G dX12_told_29 2 rfl ?_
      obtain ⟨v2, hcv2, hf⟩ := bd_e hf
      refine v_callV [.int p1, .int p2] G (c_X12_named n h0 hcv2) h0 (by decide) rfl rfl rfl t_1852 t_1854 t_p94 t_17 t_1855 nm_X12_named (by decide) (by decide) rfl rfl (Nat.le_of_ble_eq_true rfl) dX12_told_30 (kv_ri ?_)
      refine v_istore_n [(3, .int v2), (0, .ref (ad a0)), (1, .int p1), (2, .int p2)] G dX12_told_33 (by decide) rfl ?_
      refine v_iload_n G dX12_told_34 0 rfl ?_
      obtain ⟨j47, ej47, hf⟩ := lt_j hf
      have hj47 : ∀ (M3 : KM), j47 M3 = some y → KV ad cy x (some (.int y.1), y.2) 47 [(3, .int v2)] [] M3 := by
        intro M3 hf
        rw [ej47] at hf
        refine v_iconst (0 : Int32) G dX12_told_47 (by decide) ?_
        refine v_iload_n G dX12_told_48 0 rfl ?_
        refine v_mmax G (by decide) t_1868 t_1282 t_19 t_1283 (Nat.le_of_ble_eq_true rfl) dX12_told_49 ?_
        refine v_nmi (fun v4 ev4 => ?_)
        replace hf := lt_e hf ev4
        obtain rfl := Option.some.inj hf
        exact v_iret G dX12_told_52
      refine v_if_ge 47 G dX12_told_35 (by decide) (fun h6 => ?_) (fun h6 => ?_)
      · replace hf := (if_pos h6).symm.trans hf
        refine v_sub _ [0] rfl ?_
        exact hj47 M1 hf
      · replace hf := (if_neg h6).symm.trans hf
        refine v_aload_n G dX12_told_38 1 rfl ?_
        refine v_iconst (3 : Int32) G dX12_told_39 (by decide) ?_
        refine v_aload_n G dX12_told_40 1 rfl ?_
        refine gf_12_15 G h0 t_1506 (Or.inl rfl) dX12_told_41 ?_
        obtain ⟨v5, hcv5⟩ : ∃ q, f_X12_fail a0 (3 : Int32) (M1.1 a0 15) M1 = q := ⟨_, rfl⟩
        replace hf := lt_e hf hcv5.symm
        refine v_callV [.int (3 : Int32), .int (M1.1 a0 15)] G (c_X12_fail h0 hcv5) h0 (by decide) rfl rfl rfl t_1743 t_1745 t_p68 t_17 t_1746 nm_X12_fail (by decide) (by decide) rfl rfl (Nat.le_of_ble_eq_true rfl) dX12_told_44 (kv_rv ?_)
        refine v_sub _ [0] rfl ?_
        exact hj47 v5 hf
    · replace hf := (if_neg h7).symm.trans hf
      refine v_iconst (0 : Int32) G dX12_told_25 (by decide) ?_
      obtain rfl := Option.some.inj hf
      exact v_iret G dX12_told_26
  refine v_if_ne 18 G dX12_told_4 (by decide) (fun h11 => ?_) (fun h11 => ?_)
  · replace hf := (if_neg h11).symm.trans hf
    refine v_sub _ [0, 1, 2] rfl ?_
    exact hj18 M hf
  · replace hf := (if_pos h11).symm.trans hf
    refine v_aload_n G dX12_told_7 0 rfl ?_
    obtain ⟨v8, hcv8⟩ : ∃ q, f_X12_isName a0 M = q := ⟨_, rfl⟩
    replace hf := lt_e hf hcv8.symm
    refine v_callV [] G (c_X12_isName h0 hcv8) h0 (by decide) rfl rfl rfl t_1806 t_1808 t_p83 t_17 t_1809 nm_X12_isName (by decide) (by decide) rfl rfl (Nat.le_of_ble_eq_true rfl) dX12_told_8 (kv_ri ?_)
    refine v_if_ne 18 G dX12_told_11 (by decide) (fun h10 => ?_) (fun h10 => ?_)
    · replace hf := (if_neg h10).symm.trans hf
      refine v_sub _ [0, 1, 2] rfl ?_
      exact hj18 M hf
    · replace hf := (if_pos h10).symm.trans hf
      refine v_aload_n G dX12_told_14 0 rfl ?_
      obtain ⟨v9, hcv9⟩ : ∃ q, f_X12_amiss a0 M = q := ⟨_, rfl⟩
      replace hf := lt_e hf hcv9.symm
      refine v_callV [] G (c_X12_amiss h0 hcv9) h0 (by decide) rfl rfl rfl t_1751 t_1753 t_p70 t_17 t_1754 nm_X12_amiss (by decide) (by decide) rfl rfl (Nat.le_of_ble_eq_true rfl) dX12_told_15 (kv_rv ?_)
      refine v_sub _ [0, 1, 2] rfl ?_
      exact hj18 v9 hf
abbrev cX12_readTold : ByteArray := prog_14_method_61_code
def yX12_readTold : MethodName := ⟨RX12, "readTold", "(II)I"⟩
theorem dX12_readTold_0 : dc cX12_readTold 0 (.aload_n 0) 1 1 := ⟨by decide +kernel, rfl⟩
theorem dX12_readTold_1 : dc cX12_readTold 1 (.iload_n 1) 1 2 := ⟨by decide +kernel, rfl⟩
theorem dX12_readTold_2 : dc cX12_readTold 2 (.iload_n 2) 1 3 := ⟨by decide +kernel, rfl⟩
theorem dX12_readTold_3 : dc cX12_readTold 3 (.invokevirtual 254) 3 6 := ⟨by decide +kernel, rfl⟩
theorem dX12_readTold_6 : dc cX12_readTold 6 (.istore_n 3) 1 7 := ⟨by decide +kernel, rfl⟩
theorem dX12_readTold_7 : dc cX12_readTold 7 (.aload_n 0) 1 8 := ⟨by decide +kernel, rfl⟩
theorem dX12_readTold_8 : dc cX12_readTold 8 (.iconst 1) 1 9 := ⟨by decide +kernel, rfl⟩
theorem dX12_readTold_9 : dc cX12_readTold 9 (.invokevirtual 257) 3 12 := ⟨by decide +kernel, rfl⟩
theorem dX12_readTold_12 : dc cX12_readTold 12 (.iload_n 3) 1 13 := ⟨by decide +kernel, rfl⟩
theorem dX12_readTold_13 : dc cX12_readTold 13 (.ireturn) 1 14 := ⟨by decide +kernel, rfl⟩
theorem nm_X12_readTold : (yX12_readTold).cls ≠ "java/lang/invoke/MethodHandle" ∧ (yX12_readTold).cls ≠ "java/lang/invoke/VarHandle" ∧ (parseMethodDescriptor (yX12_readTold).desc).map (fun d => d.parameters.length) = some 2 := ⟨by decide +kernel, by decide +kernel, by decide +kernel⟩
set_option maxRecDepth 100000 in
set_option maxHeartbeats 4000000 in
theorem c_X12_readTold {l : Launch} {ad : Nat → Nat} {cy : Nat → ClassId} {D : va_G} {z : Nat} (n : Nat) {a0 : Nat} {p1 : Int32} {p2 : Int32} {M : KM} {y : (Int32 × KM)} (h0 : kty a0 = 12) (hf : f_X12_readTold n a0 p1 p2 M = some y) : KC l ad cy D z yX12_readTold cX12_readTold 4 (some .int) 6 [.ref (ad a0), .int p1, .int p2] M (some (.int y.1), y.2) := by
  refine kv_enter (by decide +kernel) (Nat.le_of_ble_eq_true rfl) ?_
  intro x hl hD hz G
  subst hl hD hz
  unfold f_X12_readTold at hf
  have G : KG ad cy x cX12_readTold "NoonGuidesModel" 4 (some (some .int)) 6 := G
  show KV ad cy x (some (.int y.1), y.2) 0 [(0, .ref (ad a0)), (1, .int p1), (2, .int p2)] [] M
  refine v_aload_n G dX12_readTold_0 0 rfl ?_
  refine v_iload_n G dX12_readTold_1 1 rfl ?_
  refine v_iload_n G dX12_readTold_2 2 rfl ?_
  obtain ⟨v1, hcv1, hf⟩ := bd_e hf
  refine v_callV [.int p1, .int p2] G (c_X12_told n h0 hcv1) h0 (by decide) rfl rfl rfl t_1864 t_1866 t_p97 t_17 t_1867 nm_X12_told (by decide) (by decide) rfl rfl (Nat.le_of_ble_eq_true rfl) dX12_readTold_3 (kv_ri ?_)
  refine v_istore_n [(3, .int v1.1), (0, .ref (ad a0)), (1, .int p1), (2, .int p2)] G dX12_readTold_6 (by decide) rfl ?_
  refine v_aload_n G dX12_readTold_7 1 rfl ?_
  refine v_iconst (1 : Int32) G dX12_readTold_8 (by decide) ?_
  obtain ⟨v2, hcv2, hf⟩ := bd_e hf
  refine v_callV [.int (1 : Int32)] G (c_X12_must n h0 hcv2) h0 (by decide) rfl rfl rfl t_1762 t_1764 t_p72 t_17 t_1765 nm_X12_must (by decide) (by decide) rfl rfl (Nat.le_of_ble_eq_true rfl) dX12_readTold_9 (kv_rv ?_)
  refine v_iload_n G dX12_readTold_12 0 rfl ?_
  obtain rfl := Option.some.inj hf
  exact v_iret G dX12_readTold_13
abbrev cX12_isOnce : ByteArray := prog_14_method_62_code
def yX12_isOnce : MethodName := ⟨RX12, "isOnce", "(I)Z"⟩
theorem dX12_isOnce_0 : dc cX12_isOnce 0 (.aload_n 0) 1 1 := ⟨by decide +kernel, rfl⟩
theorem dX12_isOnce_1 : dc cX12_isOnce 1 (.getfield 261) 3 4 := ⟨by decide +kernel, rfl⟩
theorem dX12_isOnce_4 : dc cX12_isOnce 4 (.iload_n 1) 1 5 := ⟨by decide +kernel, rfl⟩
theorem dX12_isOnce_5 : dc cX12_isOnce 5 (.invokestatic 114) 3 8 := ⟨by decide +kernel, rfl⟩
theorem dX12_isOnce_8 : dc cX12_isOnce 8 (.ifCond .eq 12) 3 11 := ⟨by decide +kernel, rfl⟩
theorem dX12_isOnce_11 : dc cX12_isOnce 11 (.aload_n 0) 1 12 := ⟨by decide +kernel, rfl⟩
theorem dX12_isOnce_12 : dc cX12_isOnce 12 (.iconst 5) 1 13 := ⟨by decide +kernel, rfl⟩
theorem dX12_isOnce_13 : dc cX12_isOnce 13 (.aload_n 0) 1 14 := ⟨by decide +kernel, rfl⟩
theorem dX12_isOnce_14 : dc cX12_isOnce 14 (.getfield 124) 3 17 := ⟨by decide +kernel, rfl⟩
theorem dX12_isOnce_17 : dc cX12_isOnce 17 (.invokevirtual 226) 3 20 := ⟨by decide +kernel, rfl⟩
theorem dX12_isOnce_20 : dc cX12_isOnce 20 (.aload_n 0) 1 21 := ⟨by decide +kernel, rfl⟩
theorem dX12_isOnce_21 : dc cX12_isOnce 21 (.getfield 220) 3 24 := ⟨by decide +kernel, rfl⟩
theorem dX12_isOnce_24 : dc cX12_isOnce 24 (.ifCond .le 5) 3 27 := ⟨by decide +kernel, rfl⟩
theorem dX12_isOnce_27 : dc cX12_isOnce 27 (.iconst 0) 1 28 := ⟨by decide +kernel, rfl⟩
theorem dX12_isOnce_28 : dc cX12_isOnce 28 (.ireturn) 1 29 := ⟨by decide +kernel, rfl⟩
theorem dX12_isOnce_29 : dc cX12_isOnce 29 (.aload_n 0) 1 30 := ⟨by decide +kernel, rfl⟩
theorem dX12_isOnce_30 : dc cX12_isOnce 30 (.dup) 1 31 := ⟨by decide +kernel, rfl⟩
theorem dX12_isOnce_31 : dc cX12_isOnce 31 (.getfield 261) 3 34 := ⟨by decide +kernel, rfl⟩
theorem dX12_isOnce_34 : dc cX12_isOnce 34 (.iconst 1) 1 35 := ⟨by decide +kernel, rfl⟩
theorem dX12_isOnce_35 : dc cX12_isOnce 35 (.iload_n 1) 1 36 := ⟨by decide +kernel, rfl⟩
theorem dX12_isOnce_36 : dc cX12_isOnce 36 (.ishl) 1 37 := ⟨by decide +kernel, rfl⟩
theorem dX12_isOnce_37 : dc cX12_isOnce 37 (.ior) 1 38 := ⟨by decide +kernel, rfl⟩
theorem dX12_isOnce_38 : dc cX12_isOnce 38 (.putfield 261) 3 41 := ⟨by decide +kernel, rfl⟩
theorem dX12_isOnce_41 : dc cX12_isOnce 41 (.aload_n 0) 1 42 := ⟨by decide +kernel, rfl⟩
theorem dX12_isOnce_42 : dc cX12_isOnce 42 (.invokevirtual 230) 3 45 := ⟨by decide +kernel, rfl⟩
theorem dX12_isOnce_45 : dc cX12_isOnce 45 (.iconst 1) 1 46 := ⟨by decide +kernel, rfl⟩
theorem dX12_isOnce_46 : dc cX12_isOnce 46 (.ireturn) 1 47 := ⟨by decide +kernel, rfl⟩
theorem nm_X12_isOnce : (yX12_isOnce).cls ≠ "java/lang/invoke/MethodHandle" ∧ (yX12_isOnce).cls ≠ "java/lang/invoke/VarHandle" ∧ (parseMethodDescriptor (yX12_isOnce).desc).map (fun d => d.parameters.length) = some 1 := ⟨by decide +kernel, by decide +kernel, by decide +kernel⟩
set_option maxRecDepth 100000 in
theorem z_X12_isOnce (n : Nat) {a0 : Nat} {p1 : Int32} {M : KM} {y : (Int32 × KM)} (hf : f_X12_isOnce n a0 p1 M = some y) : (y.1 = 0 ∨ y.1 = 1) := by
  unfold f_X12_isOnce at hf
  obtain ⟨v1, hcv1⟩ : ∃ q, f_X12_has (M.1 a0 25) p1 M = q := ⟨_, rfl⟩
  replace hf := lt_e hf hcv1.symm
  obtain ⟨j20, ej20, hf⟩ := lt_j hf
  have hj20 : ∀ (M2 : KM), j20 M2 = some y → (y.1 = 0 ∨ y.1 = 1) := by
    intro M2 hf
    rw [ej20] at hf
    by_cases h5 : (M2.1 a0 12) ≤ 0
    · replace hf := (if_pos h5).symm.trans hf
      obtain ⟨M3, eM3⟩ : ∃ q : KM, q = (uI M2 a0 25 ((M2.1 a0 25) ||| ((1 : Int32) <<< (p1 &&& 31)))) := ⟨_, rfl⟩
      replace hf := lt_e hf eM3
      obtain ⟨v4, hcv4, hf⟩ := bd_e hf
      obtain rfl := Option.some.inj hf
      exact (Or.inr rfl)
    · replace hf := (if_neg h5).symm.trans hf
      obtain rfl := Option.some.inj hf
      exact (Or.inl rfl)
  by_cases h7 : v1 = 0
  · replace hf := (if_pos h7).symm.trans hf
    exact hj20 M hf
  · replace hf := (if_neg h7).symm.trans hf
    obtain ⟨v6, hcv6⟩ : ∃ q, f_X12_fail a0 (5 : Int32) (M.1 a0 15) M = q := ⟨_, rfl⟩
    replace hf := lt_e hf hcv6.symm
    exact hj20 v6 hf
set_option maxRecDepth 100000 in
set_option maxHeartbeats 4000000 in
theorem c_X12_isOnce {l : Launch} {ad : Nat → Nat} {cy : Nat → ClassId} {D : va_G} {z : Nat} (n : Nat) {a0 : Nat} {p1 : Int32} {M : KM} {y : (Int32 × KM)} (h0 : kty a0 = 12) (hf : f_X12_isOnce n a0 p1 M = some y) : KC l ad cy D z yX12_isOnce cX12_isOnce 2 (some .boolean) 3 [.ref (ad a0), .int p1] M (some (.int y.1), y.2) := by
  refine kv_enter (by decide +kernel) (Nat.le_of_ble_eq_true rfl) ?_
  intro x hl hD hz G
  subst hl hD hz
  unfold f_X12_isOnce at hf
  have G : KG ad cy x cX12_isOnce "NoonGuidesModel" 2 (some (some .boolean)) 3 := G
  show KV ad cy x (some (.int y.1), y.2) 0 [(0, .ref (ad a0)), (1, .int p1)] [] M
  refine v_aload_n G dX12_isOnce_0 0 rfl ?_
  refine gf_12_25 G h0 t_1516 (Or.inl rfl) dX12_isOnce_1 ?_
  refine v_iload_n G dX12_isOnce_4 1 rfl ?_
  obtain ⟨v1, hcv1⟩ : ∃ q, f_X12_has (M.1 a0 25) p1 M = q := ⟨_, rfl⟩
  replace hf := lt_e hf hcv1.symm
  refine v_callS [.int (M.1 a0 25), .int p1] G (c_X12_has hcv1) t_1740 t_1741 t_17 t_1742 nm_X12_has (by decide) (by decide) rfl rfl (Nat.le_of_ble_eq_true rfl) dX12_isOnce_5 (kv_ri ?_)
  obtain ⟨j20, ej20, hf⟩ := lt_j hf
  have hj20 : ∀ (M2 : KM), j20 M2 = some y → KV ad cy x (some (.int y.1), y.2) 20 [(0, .ref (ad a0)), (1, .int p1)] [] M2 := by
    intro M2 hf
    rw [ej20] at hf
    refine v_aload_n G dX12_isOnce_20 0 rfl ?_
    refine gf_12_12 G h0 t_1503 (Or.inl rfl) dX12_isOnce_21 ?_
    refine v_if_le 29 G dX12_isOnce_24 (by decide) (fun h5 => ?_) (fun h5 => ?_)
    · replace hf := (if_pos h5).symm.trans hf
      refine v_aload_n G dX12_isOnce_29 0 rfl ?_
      refine v_dup G dX12_isOnce_30 rfl ?_
      refine gf_12_25 G h0 t_1516 (Or.inl rfl) dX12_isOnce_31 ?_
      refine v_iconst (1 : Int32) G dX12_isOnce_34 (by decide) ?_
      refine v_iload_n G dX12_isOnce_35 1 rfl ?_
      refine v_ishl G dX12_isOnce_36 ?_
      refine v_ior G dX12_isOnce_37 ?_
      refine pf_12_25 G h0 t_1516 (Or.inl rfl) dX12_isOnce_38 ?_
      refine v_nmM (fun M3 eM3 => ?_)
      replace hf := lt_e hf eM3
      refine v_aload_n G dX12_isOnce_41 0 rfl ?_
      obtain ⟨v4, hcv4, hf⟩ := bd_e hf
      refine v_callV [] G (c_X12_advance n h0 hcv4) h0 (by decide) rfl rfl rfl t_1697 t_1699 t_p60 t_17 t_1700 nm_X12_advance (by decide) (by decide) rfl rfl (Nat.le_of_ble_eq_true rfl) dX12_isOnce_42 (kv_rv ?_)
      refine v_iconst (1 : Int32) G dX12_isOnce_45 (by decide) ?_
      obtain rfl := Option.some.inj hf
      exact v_zret G (Or.inr rfl) dX12_isOnce_46
    · replace hf := (if_neg h5).symm.trans hf
      refine v_iconst (0 : Int32) G dX12_isOnce_27 (by decide) ?_
      obtain rfl := Option.some.inj hf
      exact v_zret G (Or.inl rfl) dX12_isOnce_28
  refine v_if_eq 20 G dX12_isOnce_8 (by decide) (fun h7 => ?_) (fun h7 => ?_)
  · replace hf := (if_pos h7).symm.trans hf
    refine v_sub _ [0, 1] rfl ?_
    exact hj20 M hf
  · replace hf := (if_neg h7).symm.trans hf
    refine v_aload_n G dX12_isOnce_11 0 rfl ?_
    refine v_iconst (5 : Int32) G dX12_isOnce_12 (by decide) ?_
    refine v_aload_n G dX12_isOnce_13 0 rfl ?_
    refine gf_12_15 G h0 t_1506 (Or.inl rfl) dX12_isOnce_14 ?_
    obtain ⟨v6, hcv6⟩ : ∃ q, f_X12_fail a0 (5 : Int32) (M.1 a0 15) M = q := ⟨_, rfl⟩
    replace hf := lt_e hf hcv6.symm
    refine v_callV [.int (5 : Int32), .int (M.1 a0 15)] G (c_X12_fail h0 hcv6) h0 (by decide) rfl rfl rfl t_1743 t_1745 t_p68 t_17 t_1746 nm_X12_fail (by decide) (by decide) rfl rfl (Nat.le_of_ble_eq_true rfl) dX12_isOnce_17 (kv_rv ?_)
    refine v_sub _ [0, 1] rfl ?_
    exact hj20 v6 hf
abbrev cX12_readGlare : ByteArray := prog_14_method_63_code
def yX12_readGlare : MethodName := ⟨RX12, "readGlare", "()V"⟩
theorem dX12_readGlare_0 : dc cX12_readGlare 0 (.aload_n 0) 1 1 := ⟨by decide +kernel, rfl⟩
theorem dX12_readGlare_1 : dc cX12_readGlare 1 (.iconst 0) 1 2 := ⟨by decide +kernel, rfl⟩
theorem dX12_readGlare_2 : dc cX12_readGlare 2 (.invokevirtual 264) 3 5 := ⟨by decide +kernel, rfl⟩
theorem dX12_readGlare_5 : dc cX12_readGlare 5 (.ifCond .ne 4) 3 8 := ⟨by decide +kernel, rfl⟩
theorem dX12_readGlare_8 : dc cX12_readGlare 8 (.return_) 1 9 := ⟨by decide +kernel, rfl⟩
theorem dX12_readGlare_9 : dc cX12_readGlare 9 (.aload_n 0) 1 10 := ⟨by decide +kernel, rfl⟩
theorem dX12_readGlare_10 : dc cX12_readGlare 10 (.iconst 0) 1 11 := ⟨by decide +kernel, rfl⟩
theorem dX12_readGlare_11 : dc cX12_readGlare 11 (.bipush 23) 2 13 := ⟨by decide +kernel, rfl⟩
theorem dX12_readGlare_13 : dc cX12_readGlare 13 (.invokevirtual 267) 3 16 := ⟨by decide +kernel, rfl⟩
theorem dX12_readGlare_16 : dc cX12_readGlare 16 (.istore_n 1) 1 17 := ⟨by decide +kernel, rfl⟩
theorem dX12_readGlare_17 : dc cX12_readGlare 17 (.aload_n 0) 1 18 := ⟨by decide +kernel, rfl⟩
theorem dX12_readGlare_18 : dc cX12_readGlare 18 (.aload_n 0) 1 19 := ⟨by decide +kernel, rfl⟩
theorem dX12_readGlare_19 : dc cX12_readGlare 19 (.invokevirtual 167) 3 22 := ⟨by decide +kernel, rfl⟩
theorem dX12_readGlare_22 : dc cX12_readGlare 22 (.invokevirtual 257) 3 25 := ⟨by decide +kernel, rfl⟩
theorem dX12_readGlare_25 : dc cX12_readGlare 25 (.aload_n 0) 1 26 := ⟨by decide +kernel, rfl⟩
theorem dX12_readGlare_26 : dc cX12_readGlare 26 (.iload_n 1) 1 27 := ⟨by decide +kernel, rfl⟩
theorem dX12_readGlare_27 : dc cX12_readGlare 27 (.iconst 1) 1 28 := ⟨by decide +kernel, rfl⟩
theorem dX12_readGlare_28 : dc cX12_readGlare 28 (.iadd) 1 29 := ⟨by decide +kernel, rfl⟩
theorem dX12_readGlare_29 : dc cX12_readGlare 29 (.bipush 24) 2 31 := ⟨by decide +kernel, rfl⟩
theorem dX12_readGlare_31 : dc cX12_readGlare 31 (.invokevirtual 267) 3 34 := ⟨by decide +kernel, rfl⟩
theorem dX12_readGlare_34 : dc cX12_readGlare 34 (.istore_n 2) 1 35 := ⟨by decide +kernel, rfl⟩
theorem dX12_readGlare_35 : dc cX12_readGlare 35 (.aload_n 0) 1 36 := ⟨by decide +kernel, rfl⟩
theorem dX12_readGlare_36 : dc cX12_readGlare 36 (.getfield 35) 3 39 := ⟨by decide +kernel, rfl⟩
theorem dX12_readGlare_39 : dc cX12_readGlare 39 (.sipush 2251) 3 42 := ⟨by decide +kernel, rfl⟩
theorem dX12_readGlare_42 : dc cX12_readGlare 42 (.iload_n 1) 1 43 := ⟨by decide +kernel, rfl⟩
theorem dX12_readGlare_43 : dc cX12_readGlare 43 (.iastore) 1 44 := ⟨by decide +kernel, rfl⟩
theorem dX12_readGlare_44 : dc cX12_readGlare 44 (.aload_n 0) 1 45 := ⟨by decide +kernel, rfl⟩
theorem dX12_readGlare_45 : dc cX12_readGlare 45 (.getfield 35) 3 48 := ⟨by decide +kernel, rfl⟩
theorem dX12_readGlare_48 : dc cX12_readGlare 48 (.sipush 2252) 3 51 := ⟨by decide +kernel, rfl⟩
theorem dX12_readGlare_51 : dc cX12_readGlare 51 (.iload_n 2) 1 52 := ⟨by decide +kernel, rfl⟩
theorem dX12_readGlare_52 : dc cX12_readGlare 52 (.iastore) 1 53 := ⟨by decide +kernel, rfl⟩
theorem dX12_readGlare_53 : dc cX12_readGlare 53 (.return_) 1 54 := ⟨by decide +kernel, rfl⟩
theorem nm_X12_readGlare : (yX12_readGlare).cls ≠ "java/lang/invoke/MethodHandle" ∧ (yX12_readGlare).cls ≠ "java/lang/invoke/VarHandle" ∧ (parseMethodDescriptor (yX12_readGlare).desc).map (fun d => d.parameters.length) = some 0 := ⟨by decide +kernel, by decide +kernel, by decide +kernel⟩
set_option maxRecDepth 100000 in
set_option maxHeartbeats 4000000 in
theorem c_X12_readGlare {l : Launch} {ad : Nat → Nat} {cy : Nat → ClassId} {D : va_G} {z : Nat} (n : Nat) {a0 : Nat} {M : KM} {y : KM} (h0 : kty a0 = 12) (hf : f_X12_readGlare n a0 M = some y) : KC l ad cy D z yX12_readGlare cX12_readGlare 3 none 4 [.ref (ad a0)] M (none, y) := by
  refine kv_enter (by decide +kernel) (Nat.le_of_ble_eq_true rfl) ?_
  intro x hl hD hz G
  subst hl hD hz
  unfold f_X12_readGlare at hf
  have G : KG ad cy x cX12_readGlare "NoonGuidesModel" 3 (some none) 4 := G
  show KV ad cy x (none, y) 0 [(0, .ref (ad a0))] [] M
  refine v_aload_n G dX12_readGlare_0 0 rfl ?_
  refine v_iconst (0 : Int32) G dX12_readGlare_1 (by decide) ?_
  obtain ⟨v1, hcv1, hf⟩ := bd_e hf
  refine v_callV [.int (0 : Int32)] G (c_X12_isOnce n h0 hcv1) h0 (by decide) rfl rfl rfl t_1736 t_1738 t_p67 t_17 t_1739 nm_X12_isOnce (by decide) (by decide) rfl rfl (Nat.le_of_ble_eq_true rfl) dX12_readGlare_2 (kv_ri ?_)
  refine v_if_ne 9 G dX12_readGlare_5 (by decide) (fun h10 => ?_) (fun h10 => ?_)
  · replace hf := (if_neg h10).symm.trans hf
    refine v_aload_n G dX12_readGlare_9 0 rfl ?_
    refine v_iconst (0 : Int32) G dX12_readGlare_10 (by decide) ?_
    refine v_bipush (23 : Int32) G dX12_readGlare_11 (by decide) ?_
    obtain ⟨v2, hcv2, hf⟩ := bd_e hf
    refine v_callV [.int (0 : Int32), .int (23 : Int32)] G (c_X12_count n h0 hcv2) h0 (by decide) rfl rfl rfl t_1747 t_1749 t_p69 t_17 t_1750 nm_X12_count (by decide) (by decide) rfl rfl (Nat.le_of_ble_eq_true rfl) dX12_readGlare_13 (kv_ri ?_)
    refine v_istore_n [(1, .int v2.1), (0, .ref (ad a0))] G dX12_readGlare_16 (by decide) rfl ?_
    refine v_aload_n G dX12_readGlare_17 1 rfl ?_
    refine v_aload_n G dX12_readGlare_18 1 rfl ?_
    obtain ⟨v3, hcv3⟩ : ∃ q, f_X12_isTo a0 v2.2 = q := ⟨_, rfl⟩
    replace hf := lt_e hf hcv3.symm
    refine v_callV [] G (c_X12_isTo h0 hcv3) h0 (by decide) rfl rfl rfl t_1758 t_1760 t_p71 t_17 t_1761 nm_X12_isTo (by decide) (by decide) rfl rfl (Nat.le_of_ble_eq_true rfl) dX12_readGlare_19 (kv_ri ?_)
    obtain ⟨v4, hcv4, hf⟩ := bd_e hf
    refine v_callV [.int v3] G (c_X12_must n h0 hcv4) h0 (by decide) rfl rfl rfl t_1762 t_1764 t_p72 t_17 t_1765 nm_X12_must (by decide) (by decide) rfl rfl (Nat.le_of_ble_eq_true rfl) dX12_readGlare_22 (kv_rv ?_)
    refine v_aload_n G dX12_readGlare_25 1 rfl ?_
    refine v_iload_n G dX12_readGlare_26 0 rfl ?_
    refine v_iconst (1 : Int32) G dX12_readGlare_27 (by decide) ?_
    refine v_iadd G dX12_readGlare_28 ?_
    refine v_bipush (24 : Int32) G dX12_readGlare_29 (by decide) ?_
    obtain ⟨v5, hcv5, hf⟩ := bd_e hf
    refine v_callV [.int (v2.1 + (1 : Int32)), .int (24 : Int32)] G (c_X12_count n h0 hcv5) h0 (by decide) rfl rfl rfl t_1747 t_1749 t_p69 t_17 t_1750 nm_X12_count (by decide) (by decide) rfl rfl (Nat.le_of_ble_eq_true rfl) dX12_readGlare_31 (kv_ri ?_)
    refine v_istore_n [(2, .int v5.1), (1, .int v2.1), (0, .ref (ad a0))] G dX12_readGlare_34 (by decide) rfl ?_
    refine v_aload_n G dX12_readGlare_35 2 rfl ?_
    refine gf_12_20 G h0 t_1511 (Or.inl rfl) dX12_readGlare_36 ?_
    refine v_sipush (2251 : Int32) G dX12_readGlare_39 (by decide) ?_
    refine v_iload_n G dX12_readGlare_42 1 rfl ?_
    obtain ⟨g6, hf⟩ := gd_e hf
    refine as_36 G (kf_12_5 h0) g6 dX12_readGlare_43 ?_
    refine v_nmM (fun M7 eM7 => ?_)
    replace hf := lt_e hf eM7
    refine v_aload_n G dX12_readGlare_44 2 rfl ?_
    refine gf_12_20 G h0 t_1511 (Or.inl rfl) dX12_readGlare_45 ?_
    refine v_sipush (2252 : Int32) G dX12_readGlare_48 (by decide) ?_
    refine v_iload_n G dX12_readGlare_51 0 rfl ?_
    obtain ⟨g8, hf⟩ := gd_e hf
    refine as_36 G (kf_12_5 h0) g8 dX12_readGlare_52 ?_
    refine v_nmM (fun M9 eM9 => ?_)
    replace hf := lt_e hf eM9
    obtain rfl := Option.some.inj hf
    exact v_vret G dX12_readGlare_53
  · replace hf := (if_pos h10).symm.trans hf
    obtain rfl := Option.some.inj hf
    exact v_vret G dX12_readGlare_8
abbrev cX12_readOnce : ByteArray := prog_14_method_64_code
def yX12_readOnce : MethodName := ⟨RX12, "readOnce", "(IIII)V"⟩
theorem dX12_readOnce_0 : dc cX12_readOnce 0 (.aload_n 0) 1 1 := ⟨by decide +kernel, rfl⟩
theorem dX12_readOnce_1 : dc cX12_readOnce 1 (.iload_n 1) 1 2 := ⟨by decide +kernel, rfl⟩
theorem dX12_readOnce_2 : dc cX12_readOnce 2 (.invokevirtual 264) 3 5 := ⟨by decide +kernel, rfl⟩
theorem dX12_readOnce_5 : dc cX12_readOnce 5 (.ifCond .eq 20) 3 8 := ⟨by decide +kernel, rfl⟩
theorem dX12_readOnce_8 : dc cX12_readOnce 8 (.aload_n 0) 1 9 := ⟨by decide +kernel, rfl⟩
theorem dX12_readOnce_9 : dc cX12_readOnce 9 (.getfield 35) 3 12 := ⟨by decide +kernel, rfl⟩
theorem dX12_readOnce_12 : dc cX12_readOnce 12 (.sipush 2248) 3 15 := ⟨by decide +kernel, rfl⟩
theorem dX12_readOnce_15 : dc cX12_readOnce 15 (.iload_n 2) 1 16 := ⟨by decide +kernel, rfl⟩
theorem dX12_readOnce_16 : dc cX12_readOnce 16 (.iadd) 1 17 := ⟨by decide +kernel, rfl⟩
theorem dX12_readOnce_17 : dc cX12_readOnce 17 (.aload_n 0) 1 18 := ⟨by decide +kernel, rfl⟩
theorem dX12_readOnce_18 : dc cX12_readOnce 18 (.iload_n 3) 1 19 := ⟨by decide +kernel, rfl⟩
theorem dX12_readOnce_19 : dc cX12_readOnce 19 (.iload 4) 2 21 := ⟨by decide +kernel, rfl⟩
theorem dX12_readOnce_21 : dc cX12_readOnce 21 (.invokevirtual 267) 3 24 := ⟨by decide +kernel, rfl⟩
theorem dX12_readOnce_24 : dc cX12_readOnce 24 (.iastore) 1 25 := ⟨by decide +kernel, rfl⟩
theorem dX12_readOnce_25 : dc cX12_readOnce 25 (.return_) 1 26 := ⟨by decide +kernel, rfl⟩
theorem nm_X12_readOnce : (yX12_readOnce).cls ≠ "java/lang/invoke/MethodHandle" ∧ (yX12_readOnce).cls ≠ "java/lang/invoke/VarHandle" ∧ (parseMethodDescriptor (yX12_readOnce).desc).map (fun d => d.parameters.length) = some 4 := ⟨by decide +kernel, by decide +kernel, by decide +kernel⟩
set_option maxRecDepth 100000 in
set_option maxHeartbeats 4000000 in
theorem c_X12_readOnce {l : Launch} {ad : Nat → Nat} {cy : Nat → ClassId} {D : va_G} {z : Nat} (n : Nat) {a0 : Nat} {p1 : Int32} {p2 : Int32} {p3 : Int32} {p4 : Int32} {M : KM} {y : KM} (h0 : kty a0 = 12) (hf : f_X12_readOnce n a0 p1 p2 p3 p4 M = some y) : KC l ad cy D z yX12_readOnce cX12_readOnce 5 none 4 [.ref (ad a0), .int p1, .int p2, .int p3, .int p4] M (none, y) := by
  refine kv_enter (by decide +kernel) (Nat.le_of_ble_eq_true rfl) ?_
  intro x hl hD hz G
  subst hl hD hz
  unfold f_X12_readOnce at hf
  have G : KG ad cy x cX12_readOnce "NoonGuidesModel" 5 (some none) 4 := G
  show KV ad cy x (none, y) 0 [(0, .ref (ad a0)), (1, .int p1), (2, .int p2), (3, .int p3), (4, .int p4)] [] M
  refine v_aload_n G dX12_readOnce_0 0 rfl ?_
  refine v_iload_n G dX12_readOnce_1 1 rfl ?_
  obtain ⟨v1, hcv1, hf⟩ := bd_e hf
  refine v_callV [.int p1] G (c_X12_isOnce n h0 hcv1) h0 (by decide) rfl rfl rfl t_1736 t_1738 t_p67 t_17 t_1739 nm_X12_isOnce (by decide) (by decide) rfl rfl (Nat.le_of_ble_eq_true rfl) dX12_readOnce_2 (kv_ri ?_)
  refine v_if_eq 25 G dX12_readOnce_5 (by decide) (fun h5 => ?_) (fun h5 => ?_)
  · replace hf := (if_pos h5).symm.trans hf
    obtain rfl := Option.some.inj hf
    exact v_vret G dX12_readOnce_25
  · replace hf := (if_neg h5).symm.trans hf
    refine v_aload_n G dX12_readOnce_8 0 rfl ?_
    refine gf_12_20 G h0 t_1511 (Or.inl rfl) dX12_readOnce_9 ?_
    refine v_sipush (2248 : Int32) G dX12_readOnce_12 (by decide) ?_
    refine v_iload_n G dX12_readOnce_15 2 rfl ?_
    refine v_iadd G dX12_readOnce_16 ?_
    refine v_aload_n G dX12_readOnce_17 0 rfl ?_
    refine v_iload_n G dX12_readOnce_18 3 rfl ?_
    refine v_iload G dX12_readOnce_19 4 rfl ?_
    obtain ⟨v2, hcv2, hf⟩ := bd_e hf
    refine v_callV [.int p3, .int p4] G (c_X12_count n h0 hcv2) h0 (by decide) rfl rfl rfl t_1747 t_1749 t_p69 t_17 t_1750 nm_X12_count (by decide) (by decide) rfl rfl (Nat.le_of_ble_eq_true rfl) dX12_readOnce_21 (kv_ri ?_)
    obtain ⟨g3, hf⟩ := gd_e hf
    refine as_36 G (kf_12_5 h0) g3 dX12_readOnce_24 ?_
    refine v_nmM (fun M4 eM4 => ?_)
    replace hf := lt_e hf eM4
    obtain rfl := Option.some.inj hf
    exact v_vret G dX12_readOnce_25
abbrev cX12_readHabit : ByteArray := prog_14_method_65_code
def yX12_readHabit : MethodName := ⟨RX12, "readHabit", "()V"⟩
theorem dX12_readHabit_0 : dc cX12_readHabit 0 (.aload_n 0) 1 1 := ⟨by decide +kernel, rfl⟩
theorem dX12_readHabit_1 : dc cX12_readHabit 1 (.getfield 270) 3 4 := ⟨by decide +kernel, rfl⟩
theorem dX12_readHabit_4 : dc cX12_readHabit 4 (.ifCond .eq 12) 3 7 := ⟨by decide +kernel, rfl⟩
theorem dX12_readHabit_7 : dc cX12_readHabit 7 (.aload_n 0) 1 8 := ⟨by decide +kernel, rfl⟩
theorem dX12_readHabit_8 : dc cX12_readHabit 8 (.iconst 5) 1 9 := ⟨by decide +kernel, rfl⟩
theorem dX12_readHabit_9 : dc cX12_readHabit 9 (.aload_n 0) 1 10 := ⟨by decide +kernel, rfl⟩
theorem dX12_readHabit_10 : dc cX12_readHabit 10 (.getfield 124) 3 13 := ⟨by decide +kernel, rfl⟩
theorem dX12_readHabit_13 : dc cX12_readHabit 13 (.invokevirtual 226) 3 16 := ⟨by decide +kernel, rfl⟩
theorem dX12_readHabit_16 : dc cX12_readHabit 16 (.aload_n 0) 1 17 := ⟨by decide +kernel, rfl⟩
theorem dX12_readHabit_17 : dc cX12_readHabit 17 (.iconst 3) 1 18 := ⟨by decide +kernel, rfl⟩
theorem dX12_readHabit_18 : dc cX12_readHabit 18 (.bipush 7) 2 20 := ⟨by decide +kernel, rfl⟩
theorem dX12_readHabit_20 : dc cX12_readHabit 20 (.iconst 1) 1 21 := ⟨by decide +kernel, rfl⟩
theorem dX12_readHabit_21 : dc cX12_readHabit 21 (.bipush 9) 2 23 := ⟨by decide +kernel, rfl⟩
theorem dX12_readHabit_23 : dc cX12_readHabit 23 (.invokevirtual 274) 3 26 := ⟨by decide +kernel, rfl⟩
theorem dX12_readHabit_26 : dc cX12_readHabit 26 (.return_) 1 27 := ⟨by decide +kernel, rfl⟩
theorem nm_X12_readHabit : (yX12_readHabit).cls ≠ "java/lang/invoke/MethodHandle" ∧ (yX12_readHabit).cls ≠ "java/lang/invoke/VarHandle" ∧ (parseMethodDescriptor (yX12_readHabit).desc).map (fun d => d.parameters.length) = some 0 := ⟨by decide +kernel, by decide +kernel, by decide +kernel⟩
set_option maxRecDepth 100000 in
set_option maxHeartbeats 4000000 in
theorem c_X12_readHabit {l : Launch} {ad : Nat → Nat} {cy : Nat → ClassId} {D : va_G} {z : Nat} (n : Nat) {a0 : Nat} {M : KM} {y : KM} (h0 : kty a0 = 12) (hf : f_X12_readHabit n a0 M = some y) : KC l ad cy D z yX12_readHabit cX12_readHabit 1 none 5 [.ref (ad a0)] M (none, y) := by
  refine kv_enter (by decide +kernel) (Nat.le_of_ble_eq_true rfl) ?_
  intro x hl hD hz G
  subst hl hD hz
  unfold f_X12_readHabit at hf
  have G : KG ad cy x cX12_readHabit "NoonGuidesModel" 1 (some none) 5 := G
  show KV ad cy x (none, y) 0 [(0, .ref (ad a0))] [] M
  refine v_aload_n G dX12_readHabit_0 0 rfl ?_
  refine gf_12_26 G h0 t_1517 (Or.inl rfl) dX12_readHabit_1 ?_
  obtain ⟨j16, ej16, hf⟩ := lt_j hf
  have hj16 : ∀ (M1 : KM), j16 M1 = some y → KV ad cy x (none, y) 16 [(0, .ref (ad a0))] [] M1 := by
    intro M1 hf
    rw [ej16] at hf
    refine v_aload_n G dX12_readHabit_16 0 rfl ?_
    refine v_iconst (3 : Int32) G dX12_readHabit_17 (by decide) ?_
    refine v_bipush (7 : Int32) G dX12_readHabit_18 (by decide) ?_
    refine v_iconst (1 : Int32) G dX12_readHabit_20 (by decide) ?_
    refine v_bipush (9 : Int32) G dX12_readHabit_21 (by decide) ?_
    obtain ⟨v2, hcv2, hf⟩ := bd_e hf
    refine v_callV [.int (3 : Int32), .int (7 : Int32), .int (1 : Int32), .int (9 : Int32)] G (c_X12_readOnce n h0 hcv2) h0 (by decide) rfl rfl rfl t_1770 t_1772 t_p74 t_17 t_1773 nm_X12_readOnce (by decide) (by decide) rfl rfl (Nat.le_of_ble_eq_true rfl) dX12_readHabit_23 (kv_rv ?_)
    obtain rfl := Option.some.inj hf
    exact v_vret G dX12_readHabit_26
  refine v_if_eq 16 G dX12_readHabit_4 (by decide) (fun h4 => ?_) (fun h4 => ?_)
  · replace hf := (if_pos h4).symm.trans hf
    refine v_sub _ [0] rfl ?_
    exact hj16 M hf
  · replace hf := (if_neg h4).symm.trans hf
    refine v_aload_n G dX12_readHabit_7 0 rfl ?_
    refine v_iconst (5 : Int32) G dX12_readHabit_8 (by decide) ?_
    refine v_aload_n G dX12_readHabit_9 0 rfl ?_
    refine gf_12_15 G h0 t_1506 (Or.inl rfl) dX12_readHabit_10 ?_
    obtain ⟨v3, hcv3⟩ : ∃ q, f_X12_fail a0 (5 : Int32) (M.1 a0 15) M = q := ⟨_, rfl⟩
    replace hf := lt_e hf hcv3.symm
    refine v_callV [.int (5 : Int32), .int (M.1 a0 15)] G (c_X12_fail h0 hcv3) h0 (by decide) rfl rfl rfl t_1743 t_1745 t_p68 t_17 t_1746 nm_X12_fail (by decide) (by decide) rfl rfl (Nat.le_of_ble_eq_true rfl) dX12_readHabit_13 (kv_rv ?_)
    refine v_sub _ [0] rfl ?_
    exact hj16 v3 hf
abbrev cX12_readPlace : ByteArray := prog_14_method_66_code
def yX12_readPlace : MethodName := ⟨RX12, "readPlace", "()V"⟩
theorem dX12_readPlace_0 : dc cX12_readPlace 0 (.aload_n 0) 1 1 := ⟨by decide +kernel, rfl⟩
theorem dX12_readPlace_1 : dc cX12_readPlace 1 (.iconst 0) 1 2 := ⟨by decide +kernel, rfl⟩
theorem dX12_readPlace_2 : dc cX12_readPlace 2 (.invokevirtual 278) 3 5 := ⟨by decide +kernel, rfl⟩
theorem dX12_readPlace_5 : dc cX12_readPlace 5 (.pop) 1 6 := ⟨by decide +kernel, rfl⟩
theorem dX12_readPlace_6 : dc cX12_readPlace 6 (.aload_n 0) 1 7 := ⟨by decide +kernel, rfl⟩
theorem dX12_readPlace_7 : dc cX12_readPlace 7 (.getfield 220) 3 10 := ⟨by decide +kernel, rfl⟩
theorem dX12_readPlace_10 : dc cX12_readPlace 10 (.ifCond .ne 15) 3 13 := ⟨by decide +kernel, rfl⟩
theorem dX12_readPlace_13 : dc cX12_readPlace 13 (.aload_n 0) 1 14 := ⟨by decide +kernel, rfl⟩
theorem dX12_readPlace_14 : dc cX12_readPlace 14 (.getfield 35) 3 17 := ⟨by decide +kernel, rfl⟩
theorem dX12_readPlace_17 : dc cX12_readPlace 17 (.sipush 2248) 3 20 := ⟨by decide +kernel, rfl⟩
theorem dX12_readPlace_20 : dc cX12_readPlace 20 (.dup2) 1 21 := ⟨by decide +kernel, rfl⟩
theorem dX12_readPlace_21 : dc cX12_readPlace 21 (.iaload) 1 22 := ⟨by decide +kernel, rfl⟩
theorem dX12_readPlace_22 : dc cX12_readPlace 22 (.iconst 1) 1 23 := ⟨by decide +kernel, rfl⟩
theorem dX12_readPlace_23 : dc cX12_readPlace 23 (.iadd) 1 24 := ⟨by decide +kernel, rfl⟩
theorem dX12_readPlace_24 : dc cX12_readPlace 24 (.iastore) 1 25 := ⟨by decide +kernel, rfl⟩
theorem dX12_readPlace_25 : dc cX12_readPlace 25 (.return_) 1 26 := ⟨by decide +kernel, rfl⟩
theorem nm_X12_readPlace : (yX12_readPlace).cls ≠ "java/lang/invoke/MethodHandle" ∧ (yX12_readPlace).cls ≠ "java/lang/invoke/VarHandle" ∧ (parseMethodDescriptor (yX12_readPlace).desc).map (fun d => d.parameters.length) = some 0 := ⟨by decide +kernel, by decide +kernel, by decide +kernel⟩
set_option maxRecDepth 100000 in
set_option maxHeartbeats 4000000 in
theorem c_X12_readPlace {l : Launch} {ad : Nat → Nat} {cy : Nat → ClassId} {D : va_G} {z : Nat} (n : Nat) {a0 : Nat} {M : KM} {y : KM} (h0 : kty a0 = 12) (hf : f_X12_readPlace n a0 M = some y) : KC l ad cy D z yX12_readPlace cX12_readPlace 1 none 6 [.ref (ad a0)] M (none, y) := by
  refine kv_enter (by decide +kernel) (Nat.le_of_ble_eq_true rfl) ?_
  intro x hl hD hz G
  subst hl hD hz
  unfold f_X12_readPlace at hf
  have G : KG ad cy x cX12_readPlace "NoonGuidesModel" 1 (some none) 6 := G
  show KV ad cy x (none, y) 0 [(0, .ref (ad a0))] [] M
  refine v_aload_n G dX12_readPlace_0 0 rfl ?_
  refine v_iconst (0 : Int32) G dX12_readPlace_1 (by decide) ?_
  obtain ⟨v1, hcv1, hf⟩ := bd_e hf
  refine v_callV [.int (0 : Int32)] G (c_X12_readNew n h0 hcv1) h0 (by decide) rfl rfl rfl t_1798 t_1800 t_p81 t_17 t_1801 nm_X12_readNew (by decide) (by decide) rfl rfl (Nat.le_of_ble_eq_true rfl) dX12_readPlace_2 (kv_ri ?_)
  refine v_pop G dX12_readPlace_5 rfl ?_
  refine v_aload_n G dX12_readPlace_6 0 rfl ?_
  refine gf_12_12 G h0 t_1503 (Or.inl rfl) dX12_readPlace_7 ?_
  refine v_if_ne 25 G dX12_readPlace_10 (by decide) (fun h5 => ?_) (fun h5 => ?_)
  · replace hf := (if_neg h5).symm.trans hf
    obtain rfl := Option.some.inj hf
    exact v_vret G dX12_readPlace_25
  · replace hf := (if_pos h5).symm.trans hf
    refine v_aload_n G dX12_readPlace_13 0 rfl ?_
    refine gf_12_20 G h0 t_1511 (Or.inl rfl) dX12_readPlace_14 ?_
    refine v_sipush (2248 : Int32) G dX12_readPlace_17 (by decide) ?_
    refine v_dup2 G dX12_readPlace_20 rfl rfl ?_
    obtain ⟨g2, hf⟩ := gd_e hf
    refine al_36 G (kf_12_5 h0) g2 dX12_readPlace_21 ?_
    refine v_iconst (1 : Int32) G dX12_readPlace_22 (by decide) ?_
    refine v_iadd G dX12_readPlace_23 ?_
    obtain ⟨g3, hf⟩ := gd_e hf
    refine as_36 G (kf_12_5 h0) g3 dX12_readPlace_24 ?_
    refine v_nmM (fun M4 eM4 => ?_)
    replace hf := lt_e hf eM4
    obtain rfl := Option.some.inj hf
    exact v_vret G dX12_readPlace_25
