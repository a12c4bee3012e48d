abbrev cX12_planting : ByteArray := prog_14_method_140_code
def yX12_planting : MethodName := ⟨RX12, "planting", "(II)I"⟩
theorem dX12_planting_0 : dc cX12_planting 0 (.iconst (-1)) 1 1 := ⟨by decide +kernel, rfl⟩
theorem dX12_planting_1 : dc cX12_planting 1 (.istore_n 3) 1 2 := ⟨by decide +kernel, rfl⟩
theorem dX12_planting_2 : dc cX12_planting 2 (.iconst 0) 1 3 := ⟨by decide +kernel, rfl⟩
theorem dX12_planting_3 : dc cX12_planting 3 (.istore 4) 2 5 := ⟨by decide +kernel, rfl⟩
theorem dX12_planting_5 : dc cX12_planting 5 (.iload 4) 2 7 := ⟨by decide +kernel, rfl⟩
theorem dX12_planting_7 : dc cX12_planting 7 (.iconst 1) 1 8 := ⟨by decide +kernel, rfl⟩
theorem dX12_planting_8 : dc cX12_planting 8 (.aload_n 0) 1 9 := ⟨by decide +kernel, rfl⟩
theorem dX12_planting_9 : dc cX12_planting 9 (.getfield 35) 3 12 := ⟨by decide +kernel, rfl⟩
theorem dX12_planting_12 : dc cX12_planting 12 (.iconst 1) 1 13 := ⟨by decide +kernel, rfl⟩
theorem dX12_planting_13 : dc cX12_planting 13 (.iaload) 1 14 := ⟨by decide +kernel, rfl⟩
theorem dX12_planting_14 : dc cX12_planting 14 (.ishl) 1 15 := ⟨by decide +kernel, rfl⟩
theorem dX12_planting_15 : dc cX12_planting 15 (.if_icmp .ge 39) 3 18 := ⟨by decide +kernel, rfl⟩
theorem dX12_planting_18 : dc cX12_planting 18 (.iload_n 3) 1 19 := ⟨by decide +kernel, rfl⟩
theorem dX12_planting_19 : dc cX12_planting 19 (.ifCond .lt 15) 3 22 := ⟨by decide +kernel, rfl⟩
theorem dX12_planting_22 : dc cX12_planting 22 (.iload 4) 2 24 := ⟨by decide +kernel, rfl⟩
theorem dX12_planting_24 : dc cX12_planting 24 (.invokestatic 423) 3 27 := ⟨by decide +kernel, rfl⟩
theorem dX12_planting_27 : dc cX12_planting 27 (.iload_n 3) 1 28 := ⟨by decide +kernel, rfl⟩
theorem dX12_planting_28 : dc cX12_planting 28 (.invokestatic 423) 3 31 := ⟨by decide +kernel, rfl⟩
theorem dX12_planting_31 : dc cX12_planting 31 (.if_icmp .ge 17) 3 34 := ⟨by decide +kernel, rfl⟩
theorem dX12_planting_34 : dc cX12_planting 34 (.aload_n 0) 1 35 := ⟨by decide +kernel, rfl⟩
theorem dX12_planting_35 : dc cX12_planting 35 (.iload_n 1) 1 36 := ⟨by decide +kernel, rfl⟩
theorem dX12_planting_36 : dc cX12_planting 36 (.iload_n 2) 1 37 := ⟨by decide +kernel, rfl⟩
theorem dX12_planting_37 : dc cX12_planting 37 (.iload 4) 2 39 := ⟨by decide +kernel, rfl⟩
theorem dX12_planting_39 : dc cX12_planting 39 (.invokevirtual 472) 3 42 := ⟨by decide +kernel, rfl⟩
theorem dX12_planting_42 : dc cX12_planting 42 (.ifCond .eq 6) 3 45 := ⟨by decide +kernel, rfl⟩
theorem dX12_planting_45 : dc cX12_planting 45 (.iload 4) 2 47 := ⟨by decide +kernel, rfl⟩
theorem dX12_planting_47 : dc cX12_planting 47 (.istore_n 3) 1 48 := ⟨by decide +kernel, rfl⟩
theorem dX12_planting_48 : dc cX12_planting 48 (.iinc 4 1) 3 51 := ⟨by decide +kernel, rfl⟩
theorem dX12_planting_51 : dc cX12_planting 51 (.goto (-46)) 3 54 := ⟨by decide +kernel, rfl⟩
theorem dX12_planting_54 : dc cX12_planting 54 (.iload_n 3) 1 55 := ⟨by decide +kernel, rfl⟩
theorem dX12_planting_55 : dc cX12_planting 55 (.ireturn) 1 56 := ⟨by decide +kernel, rfl⟩
theorem nm_X12_planting : (yX12_planting).cls ≠ "java/lang/invoke/MethodHandle" ∧ (yX12_planting).cls ≠ "java/lang/invoke/VarHandle" ∧ (parseMethodDescriptor (yX12_planting).desc).map (fun d => d.parameters.length) = some 2 := ⟨by decide +kernel, by decide +kernel, by decide +kernel⟩
set_option maxRecDepth 100000 in
set_option maxHeartbeats 4000000 in
theorem s_X12_planting_5 {ad : Nat → Nat} {cy : Nat → ClassId} {x : KX} (G : KG ad cy x cX12_planting "NoonGuidesModel" 5 (some (some .int)) 4) {a0 : Nat} {c1 : Int32} {c2 : Int32} {M : KM} (h0 : kty a0 = 12) {y : Int32} : ∀ (n : Nat) (w3 : Int32) (w4 : Int32), lp_X12_planting_5 n a0 c1 c2 M w3 w4 = some y → KV ad cy x (some (.int y), M) 5 [(0, .ref (ad a0)), (1, .int c1), (2, .int c2), (3, .int w3), (4, .int w4)] [] M := by
  intro n
  induction n with
  | zero =>
    intro w3 w4 hf
    cases hf
  | succ n ih =>
    intro w3 w4 hf
    rw [lp_X12_planting_5] at hf
    refine v_iload G dX12_planting_5 4 rfl ?_
    refine v_iconst (1 : Int32) G dX12_planting_7 (by decide) ?_
    refine v_aload_n G dX12_planting_8 0 rfl ?_
    refine gf_12_20 G h0 t_1511 (Or.inl rfl) dX12_planting_9 ?_
    refine v_iconst (1 : Int32) G dX12_planting_12 (by decide) ?_
    obtain ⟨g1, hf⟩ := gd_e hf
    refine al_36 G (kf_12_5 h0) g1 dX12_planting_13 ?_
    refine v_ishl G dX12_planting_14 ?_
    refine v_icmp_ge 54 G dX12_planting_15 (by decide) (fun h10 => ?_) (fun h10 => ?_)
    · replace hf := (if_pos h10).symm.trans hf
      refine v_iload_n G dX12_planting_54 3 rfl ?_
      obtain rfl := Option.some.inj hf
      exact v_iret G dX12_planting_55
    · replace hf := (if_neg h10).symm.trans hf
      refine v_iload_n G dX12_planting_18 3 rfl ?_
      obtain ⟨j48, ej48, hf⟩ := lt_j hf
      have hj48 : ∀ (x2 : Int32), j48 x2 = some y → KV ad cy x (some (.int y), M) 48 [(0, .ref (ad a0)), (1, .int c1), (2, .int c2), (3, .int x2), (4, .int w4)] [] M := by
        intro x2 hf
        rw [ej48] at hf
        obtain ⟨v3, ev3⟩ : ∃ q : Int32, q = w4 + (1 : Int32) := ⟨_, rfl⟩
        replace hf := lt_e hf ev3
        refine v_iinc v3 [(4, .int v3), (0, .ref (ad a0)), (1, .int c1), (2, .int c2), (3, .int x2)] G dX12_planting_48 4 rfl (by rw [ev3]; rfl) (by decide) rfl ?_
        refine v_goto 5 G dX12_planting_51 (by decide) ?_
        refine v_sub _ [1, 2, 3, 4, 0] rfl ?_
        exact ih x2 v3 hf
      obtain ⟨j34, ej34, hf⟩ := lt_j hf
      have hj34 : j34 = some y → KV ad cy x (some (.int y), M) 34 [(0, .ref (ad a0)), (1, .int c1), (2, .int c2), (3, .int w3), (4, .int w4)] [] M := by
        intro hf
        rw [ej34] at hf
        refine v_aload_n G dX12_planting_34 0 rfl ?_
        refine v_iload_n G dX12_planting_35 1 rfl ?_
        refine v_iload_n G dX12_planting_36 2 rfl ?_
        refine v_iload G dX12_planting_37 4 rfl ?_
        obtain ⟨v4, hcv4, hf⟩ := bd_e hf
        refine v_callV [.int c1, .int c2, .int w4] G (c_X12_comesBy n h0 hcv4) h0 (by decide) rfl rfl rfl t_2188 t_2190 t_p143 t_17 t_2191 nm_X12_comesBy (by decide) (by decide) rfl rfl (Nat.le_of_ble_eq_true rfl) dX12_planting_39 (kv_ri ?_)
        refine v_if_eq 48 G dX12_planting_42 (by decide) (fun h5 => ?_) (fun h5 => ?_)
        · replace hf := (if_pos h5).symm.trans hf
          refine v_sub _ [0, 1, 2, 3, 4] rfl ?_
          exact hj48 w3 hf
        · replace hf := (if_neg h5).symm.trans hf
          refine v_iload G dX12_planting_45 4 rfl ?_
          refine v_istore_n [(3, .int w4), (0, .ref (ad a0)), (1, .int c1), (2, .int c2), (4, .int w4)] G dX12_planting_47 (by decide) rfl ?_
          refine v_sub _ [1, 2, 3, 0, 4] rfl ?_
          exact hj48 w4 hf
      refine v_if_lt 34 G dX12_planting_19 (by decide) (fun h9 => ?_) (fun h9 => ?_)
      · replace hf := (if_pos h9).symm.trans hf
        refine v_sub _ [0, 1, 2, 3, 4] rfl ?_
        exact hj34 hf
      · replace hf := (if_neg h9).symm.trans hf
        refine v_iload G dX12_planting_22 4 rfl ?_
        obtain ⟨v6, hcv6, hf⟩ := bd_e hf
        refine v_callS [.int w4] G (c_X12_sizeOf n hcv6) t_2051 t_2052 t_17 t_2053 nm_X12_sizeOf (by decide) (by decide) rfl rfl (Nat.le_of_ble_eq_true rfl) dX12_planting_24 (kv_ri ?_)
        refine v_iload_n G dX12_planting_27 3 rfl ?_
        obtain ⟨v7, hcv7, hf⟩ := bd_e hf
        refine v_callS [.int w3] G (c_X12_sizeOf n hcv7) t_2051 t_2052 t_17 t_2053 nm_X12_sizeOf (by decide) (by decide) rfl rfl (Nat.le_of_ble_eq_true rfl) dX12_planting_28 (kv_ri ?_)
        refine v_icmp_ge 48 G dX12_planting_31 (by decide) (fun h8 => ?_) (fun h8 => ?_)
        · replace hf := (if_pos h8).symm.trans hf
          refine v_sub _ [0, 1, 2, 3, 4] rfl ?_
          exact hj48 w3 hf
        · replace hf := (if_neg h8).symm.trans hf
          refine v_sub _ [0, 1, 2, 3, 4] rfl ?_
          exact hj34 hf
set_option maxRecDepth 100000 in
set_option maxHeartbeats 4000000 in
theorem c_X12_planting {l : Launch} {ad : Nat → Nat} {cy : Nat → ClassId} {D : va_G} {z : Nat} (n : Nat) {a0 : Nat} {p1 : Int32} {p2 : Int32} {M : KM} {y : Int32} (h0 : kty a0 = 12) (hf : f_X12_planting n a0 p1 p2 M = some y) : KC l ad cy D z yX12_planting cX12_planting 5 (some .int) 4 [.ref (ad a0), .int p1, .int p2] M (some (.int y), M) := by
  refine kv_enter (by decide +kernel) (Nat.le_of_ble_eq_true rfl) ?_
  intro x hl hD hz G
  subst hl hD hz
  unfold f_X12_planting at hf
  have G : KG ad cy x cX12_planting "NoonGuidesModel" 5 (some (some .int)) 4 := G
  show KV ad cy x (some (.int y), M) 0 [(0, .ref (ad a0)), (1, .int p1), (2, .int p2)] [] M
  refine v_iconst (-1 : Int32) G dX12_planting_0 (by decide) ?_
  refine v_istore_n [(3, .int (-1 : Int32)), (0, .ref (ad a0)), (1, .int p1), (2, .int p2)] G dX12_planting_1 (by decide) rfl ?_
  refine v_iconst (0 : Int32) G dX12_planting_2 (by decide) ?_
  refine v_istore [(4, .int (0 : Int32)), (3, .int (-1 : Int32)), (0, .ref (ad a0)), (1, .int p1), (2, .int p2)] G dX12_planting_3 (by decide) rfl ?_
  refine v_sub _ [2, 3, 4, 1, 0] rfl ?_
  refine s_X12_planting_5 G h0 n (-1 : Int32) (0 : Int32) hf
abbrev cX12_whyNoPlant : ByteArray := prog_14_method_141_code
def yX12_whyNoPlant : MethodName := ⟨RX12, "whyNoPlant", "(II)I"⟩
theorem dX12_whyNoPlant_0 : dc cX12_whyNoPlant 0 (.aload_n 0) 1 1 := ⟨by decide +kernel, rfl⟩
theorem dX12_whyNoPlant_1 : dc cX12_whyNoPlant 1 (.iload_n 1) 1 2 := ⟨by decide +kernel, rfl⟩
theorem dX12_whyNoPlant_2 : dc cX12_whyNoPlant 2 (.invokevirtual 373) 3 5 := ⟨by decide +kernel, rfl⟩
theorem dX12_whyNoPlant_5 : dc cX12_whyNoPlant 5 (.ifCond .eq 11) 3 8 := ⟨by decide +kernel, rfl⟩
theorem dX12_whyNoPlant_8 : dc cX12_whyNoPlant 8 (.aload_n 0) 1 9 := ⟨by decide +kernel, rfl⟩
theorem dX12_whyNoPlant_9 : dc cX12_whyNoPlant 9 (.iload_n 2) 1 10 := ⟨by decide +kernel, rfl⟩
theorem dX12_whyNoPlant_10 : dc cX12_whyNoPlant 10 (.invokevirtual 367) 3 13 := ⟨by decide +kernel, rfl⟩
theorem dX12_whyNoPlant_13 : dc cX12_whyNoPlant 13 (.ifCond .ne 5) 3 16 := ⟨by decide +kernel, rfl⟩
theorem dX12_whyNoPlant_16 : dc cX12_whyNoPlant 16 (.iconst 2) 1 17 := ⟨by decide +kernel, rfl⟩
theorem dX12_whyNoPlant_17 : dc cX12_whyNoPlant 17 (.ireturn) 1 18 := ⟨by decide +kernel, rfl⟩
theorem dX12_whyNoPlant_18 : dc cX12_whyNoPlant 18 (.aload_n 0) 1 19 := ⟨by decide +kernel, rfl⟩
theorem dX12_whyNoPlant_19 : dc cX12_whyNoPlant 19 (.getfield 35) 3 22 := ⟨by decide +kernel, rfl⟩
theorem dX12_whyNoPlant_22 : dc cX12_whyNoPlant 22 (.bipush 106) 2 24 := ⟨by decide +kernel, rfl⟩
theorem dX12_whyNoPlant_24 : dc cX12_whyNoPlant 24 (.iload_n 1) 1 25 := ⟨by decide +kernel, rfl⟩
theorem dX12_whyNoPlant_25 : dc cX12_whyNoPlant 25 (.iadd) 1 26 := ⟨by decide +kernel, rfl⟩
theorem dX12_whyNoPlant_26 : dc cX12_whyNoPlant 26 (.iaload) 1 27 := ⟨by decide +kernel, rfl⟩
theorem dX12_whyNoPlant_27 : dc cX12_whyNoPlant 27 (.ifCond .eq 11) 3 30 := ⟨by decide +kernel, rfl⟩
theorem dX12_whyNoPlant_30 : dc cX12_whyNoPlant 30 (.aload_n 0) 1 31 := ⟨by decide +kernel, rfl⟩
theorem dX12_whyNoPlant_31 : dc cX12_whyNoPlant 31 (.iload_n 1) 1 32 := ⟨by decide +kernel, rfl⟩
theorem dX12_whyNoPlant_32 : dc cX12_whyNoPlant 32 (.invokevirtual 350) 3 35 := ⟨by decide +kernel, rfl⟩
theorem dX12_whyNoPlant_35 : dc cX12_whyNoPlant 35 (.ifCond .eq 8) 3 38 := ⟨by decide +kernel, rfl⟩
theorem dX12_whyNoPlant_38 : dc cX12_whyNoPlant 38 (.bipush 9) 2 40 := ⟨by decide +kernel, rfl⟩
theorem dX12_whyNoPlant_40 : dc cX12_whyNoPlant 40 (.goto 4) 3 43 := ⟨by decide +kernel, rfl⟩
theorem dX12_whyNoPlant_43 : dc cX12_whyNoPlant 43 (.iconst 0) 1 44 := ⟨by decide +kernel, rfl⟩
theorem dX12_whyNoPlant_44 : dc cX12_whyNoPlant 44 (.ireturn) 1 45 := ⟨by decide +kernel, rfl⟩
theorem nm_X12_whyNoPlant : (yX12_whyNoPlant).cls ≠ "java/lang/invoke/MethodHandle" ∧ (yX12_whyNoPlant).cls ≠ "java/lang/invoke/VarHandle" ∧ (parseMethodDescriptor (yX12_whyNoPlant).desc).map (fun d => d.parameters.length) = some 2 := ⟨by decide +kernel, by decide +kernel, by decide +kernel⟩
set_option maxRecDepth 100000 in
set_option maxHeartbeats 4000000 in
theorem c_X12_whyNoPlant {l : Launch} {ad : Nat → Nat} {cy : Nat → ClassId} {D : va_G} {z : Nat} (n : Nat) {a0 : Nat} {p1 : Int32} {p2 : Int32} {M : KM} {y : Int32} (h0 : kty a0 = 12) (hf : f_X12_whyNoPlant n a0 p1 p2 M = some y) : KC l ad cy D z yX12_whyNoPlant cX12_whyNoPlant 3 (some .int) 3 [.ref (ad a0), .int p1, .int p2] M (some (.int y), M) := by
  refine kv_enter (by decide +kernel) (Nat.le_of_ble_eq_true rfl) ?_
  intro x hl hD hz G
  subst hl hD hz
  unfold f_X12_whyNoPlant at hf
  have G : KG ad cy x cX12_whyNoPlant "NoonGuidesModel" 3 (some (some .int)) 3 := G
  show KV ad cy x (some (.int y), M) 0 [(0, .ref (ad a0)), (1, .int p1), (2, .int p2)] [] M
  refine v_aload_n G dX12_whyNoPlant_0 0 rfl ?_
  refine v_iload_n G dX12_whyNoPlant_1 1 rfl ?_
  obtain ⟨v1, hcv1, hf⟩ := bd_e hf
  refine v_callV [.int p1] G (c_X12_isPerson n h0 hcv1) h0 (by decide) rfl rfl rfl t_1971 t_1973 t_p118 t_17 t_1974 nm_X12_isPerson (by decide) (by decide) rfl rfl (Nat.le_of_ble_eq_true rfl) dX12_whyNoPlant_2 (kv_ri ?_)
  refine v_if_eq 16 G dX12_whyNoPlant_5 (by decide) (fun h8 => ?_) (fun h8 => ?_)
  · replace hf := (if_pos h8).symm.trans hf
    refine v_iconst (2 : Int32) G dX12_whyNoPlant_16 (by decide) ?_
    obtain rfl := Option.some.inj hf
    exact v_iret G dX12_whyNoPlant_17
  · replace hf := (if_neg h8).symm.trans hf
    refine v_aload_n G dX12_whyNoPlant_8 0 rfl ?_
    refine v_iload_n G dX12_whyNoPlant_9 2 rfl ?_
    obtain ⟨v2, hcv2, hf⟩ := bd_e hf
    refine v_callV [.int p2] G (c_X12_isPlaceAt n h0 hcv2) h0 (by decide) rfl rfl rfl t_1959 t_1961 t_p116 t_17 t_1962 nm_X12_isPlaceAt (by decide) (by decide) rfl rfl (Nat.le_of_ble_eq_true rfl) dX12_whyNoPlant_10 (kv_ri ?_)
    refine v_if_ne 18 G dX12_whyNoPlant_13 (by decide) (fun h7 => ?_) (fun h7 => ?_)
    · replace hf := (if_neg h7).symm.trans hf
      refine v_aload_n G dX12_whyNoPlant_18 0 rfl ?_
      refine gf_12_20 G h0 t_1511 (Or.inl rfl) dX12_whyNoPlant_19 ?_
      refine v_bipush (106 : Int32) G dX12_whyNoPlant_22 (by decide) ?_
      refine v_iload_n G dX12_whyNoPlant_24 1 rfl ?_
      refine v_iadd G dX12_whyNoPlant_25 ?_
      obtain ⟨g3, hf⟩ := gd_e hf
      refine al_36 G (kf_12_5 h0) g3 dX12_whyNoPlant_26 ?_
      obtain ⟨j38, ej38, hf⟩ := lt_j hf
      have hj38 : j38 = some y → KV ad cy x (some (.int y), M) 38 [] [] M := by
        intro hf
        rw [ej38] at hf
        refine v_bipush (9 : Int32) G dX12_whyNoPlant_38 (by decide) ?_
        refine v_goto 44 G dX12_whyNoPlant_40 (by decide) ?_
        obtain rfl := Option.some.inj hf
        exact v_iret G dX12_whyNoPlant_44
      refine v_if_eq 38 G dX12_whyNoPlant_27 (by decide) (fun h6 => ?_) (fun h6 => ?_)
      · replace hf := (if_pos h6).symm.trans hf
        refine v_sub _ [] rfl ?_
        exact hj38 hf
      · replace hf := (if_neg h6).symm.trans hf
        refine v_aload_n G dX12_whyNoPlant_30 0 rfl ?_
        refine v_iload_n G dX12_whyNoPlant_31 1 rfl ?_
        obtain ⟨v4, hcv4, hf⟩ := bd_e hf
        refine v_callV [.int p1] G (c_X12_isGoing n h0 hcv4) h0 (by decide) rfl rfl rfl t_1942 t_1944 t_p114 t_17 t_1945 nm_X12_isGoing (by decide) (by decide) rfl rfl (Nat.le_of_ble_eq_true rfl) dX12_whyNoPlant_32 (kv_ri ?_)
        refine v_if_eq 43 G dX12_whyNoPlant_35 (by decide) (fun h5 => ?_) (fun h5 => ?_)
        · replace hf := (if_pos h5).symm.trans hf
          refine v_iconst (0 : Int32) G dX12_whyNoPlant_43 (by decide) ?_
          obtain rfl := Option.some.inj hf
          exact v_iret G dX12_whyNoPlant_44
        · replace hf := (if_neg h5).symm.trans hf
          refine v_sub _ [] rfl ?_
          exact hj38 hf
    · replace hf := (if_pos h7).symm.trans hf
      refine v_iconst (2 : Int32) G dX12_whyNoPlant_16 (by decide) ?_
      obtain rfl := Option.some.inj hf
      exact v_iret G dX12_whyNoPlant_17
abbrev cX12_plants : ByteArray := prog_14_method_142_code
def yX12_plants : MethodName := ⟨RX12, "plants", "(II)I"⟩
theorem dX12_plants_0 : dc cX12_plants 0 (.aload_n 0) 1 1 := ⟨by decide +kernel, rfl⟩
theorem dX12_plants_1 : dc cX12_plants 1 (.iconst 0) 1 2 := ⟨by decide +kernel, rfl⟩
theorem dX12_plants_2 : dc cX12_plants 2 (.putfield 75) 3 5 := ⟨by decide +kernel, rfl⟩
theorem dX12_plants_5 : dc cX12_plants 5 (.aload_n 0) 1 6 := ⟨by decide +kernel, rfl⟩
theorem dX12_plants_6 : dc cX12_plants 6 (.aload_n 0) 1 7 := ⟨by decide +kernel, rfl⟩
theorem dX12_plants_7 : dc cX12_plants 7 (.iload_n 1) 1 8 := ⟨by decide +kernel, rfl⟩
theorem dX12_plants_8 : dc cX12_plants 8 (.iload_n 2) 1 9 := ⟨by decide +kernel, rfl⟩
theorem dX12_plants_9 : dc cX12_plants 9 (.invokevirtual 475) 3 12 := ⟨by decide +kernel, rfl⟩
theorem dX12_plants_12 : dc cX12_plants 12 (.putfield 78) 3 15 := ⟨by decide +kernel, rfl⟩
theorem dX12_plants_15 : dc cX12_plants 15 (.aload_n 0) 1 16 := ⟨by decide +kernel, rfl⟩
theorem dX12_plants_16 : dc cX12_plants 16 (.getfield 78) 3 19 := ⟨by decide +kernel, rfl⟩
theorem dX12_plants_19 : dc cX12_plants 19 (.ifCond .le 5) 3 22 := ⟨by decide +kernel, rfl⟩
theorem dX12_plants_22 : dc cX12_plants 22 (.iconst (-1)) 1 23 := ⟨by decide +kernel, rfl⟩
theorem dX12_plants_23 : dc cX12_plants 23 (.ireturn) 1 24 := ⟨by decide +kernel, rfl⟩
theorem dX12_plants_24 : dc cX12_plants 24 (.aload_n 0) 1 25 := ⟨by decide +kernel, rfl⟩
theorem dX12_plants_25 : dc cX12_plants 25 (.iload_n 1) 1 26 := ⟨by decide +kernel, rfl⟩
theorem dX12_plants_26 : dc cX12_plants 26 (.iload_n 2) 1 27 := ⟨by decide +kernel, rfl⟩
theorem dX12_plants_27 : dc cX12_plants 27 (.invokevirtual 478) 3 30 := ⟨by decide +kernel, rfl⟩
theorem dX12_plants_30 : dc cX12_plants 30 (.istore_n 3) 1 31 := ⟨by decide +kernel, rfl⟩
theorem dX12_plants_31 : dc cX12_plants 31 (.iload_n 3) 1 32 := ⟨by decide +kernel, rfl⟩
theorem dX12_plants_32 : dc cX12_plants 32 (.ifCond .ge 12) 3 35 := ⟨by decide +kernel, rfl⟩
theorem dX12_plants_35 : dc cX12_plants 35 (.aload_n 0) 1 36 := ⟨by decide +kernel, rfl⟩
theorem dX12_plants_36 : dc cX12_plants 36 (.bipush 8) 2 38 := ⟨by decide +kernel, rfl⟩
theorem dX12_plants_38 : dc cX12_plants 38 (.invokevirtual 355) 3 41 := ⟨by decide +kernel, rfl⟩
theorem dX12_plants_41 : dc cX12_plants 41 (.goto 7) 3 44 := ⟨by decide +kernel, rfl⟩
theorem dX12_plants_44 : dc cX12_plants 44 (.iload_n 3) 1 45 := ⟨by decide +kernel, rfl⟩
theorem dX12_plants_45 : dc cX12_plants 45 (.invokestatic 423) 3 48 := ⟨by decide +kernel, rfl⟩
theorem dX12_plants_48 : dc cX12_plants 48 (.ireturn) 1 49 := ⟨by decide +kernel, rfl⟩
theorem nm_X12_plants : (yX12_plants).cls ≠ "java/lang/invoke/MethodHandle" ∧ (yX12_plants).cls ≠ "java/lang/invoke/VarHandle" ∧ (parseMethodDescriptor (yX12_plants).desc).map (fun d => d.parameters.length) = some 2 := ⟨by decide +kernel, by decide +kernel, by decide +kernel⟩
set_option maxRecDepth 100000 in
set_option maxHeartbeats 4000000 in
theorem c_X12_plants {l : Launch} {ad : Nat → Nat} {cy : Nat → ClassId} {D : va_G} {z : Nat} (n : Nat) {a0 : Nat} {p1 : Int32} {p2 : Int32} {M : KM} {y : (Int32 × KM)} (h0 : kty a0 = 12) (hf : f_X12_plants n a0 p1 p2 M = some y) : KC l ad cy D z yX12_plants cX12_plants 4 (some .int) 5 [.ref (ad a0), .int p1, .int p2] M (some (.int y.1), y.2) := by
  refine kv_enter (by decide +kernel) (Nat.le_of_ble_eq_true rfl) ?_
  intro x hl hD hz G
  subst hl hD hz
  unfold f_X12_plants at hf
  have G : KG ad cy x cX12_plants "NoonGuidesModel" 4 (some (some .int)) 5 := G
  show KV ad cy x (some (.int y.1), y.2) 0 [(0, .ref (ad a0)), (1, .int p1), (2, .int p2)] [] M
  refine v_aload_n G dX12_plants_0 0 rfl ?_
  refine v_iconst (0 : Int32) G dX12_plants_1 (by decide) ?_
  refine pf_12_1 G h0 t_1492 (Or.inl rfl) dX12_plants_2 ?_
  refine v_nmM (fun M1 eM1 => ?_)
  replace hf := lt_e hf eM1
  refine v_aload_n G dX12_plants_5 0 rfl ?_
  refine v_aload_n G dX12_plants_6 0 rfl ?_
  refine v_iload_n G dX12_plants_7 1 rfl ?_
  refine v_iload_n G dX12_plants_8 2 rfl ?_
  obtain ⟨v2, hcv2, hf⟩ := bd_e hf
  refine v_callV [.int p1, .int p2] G (c_X12_whyNoPlant n h0 hcv2) h0 (by decide) rfl rfl rfl t_2180 t_2182 t_p141 t_17 t_2183 nm_X12_whyNoPlant (by decide) (by decide) rfl rfl (Nat.le_of_ble_eq_true rfl) dX12_plants_9 (kv_ri ?_)
  refine pf_12_0 G h0 t_1491 (Or.inl rfl) dX12_plants_12 ?_
  refine v_nmM (fun M3 eM3 => ?_)
  replace hf := lt_e hf eM3
  refine v_aload_n G dX12_plants_15 0 rfl ?_
  refine gf_12_0 G h0 t_1491 (Or.inl rfl) dX12_plants_16 ?_
  refine v_if_le 24 G dX12_plants_19 (by decide) (fun h8 => ?_) (fun h8 => ?_)
  · replace hf := (if_pos h8).symm.trans hf
    refine v_aload_n G dX12_plants_24 0 rfl ?_
    refine v_iload_n G dX12_plants_25 1 rfl ?_
    refine v_iload_n G dX12_plants_26 2 rfl ?_
    obtain ⟨v4, hcv4, hf⟩ := bd_e hf
    refine v_callV [.int p1, .int p2] G (c_X12_planting n h0 hcv4) h0 (by decide) rfl rfl rfl t_2184 t_2186 t_p142 t_17 t_2187 nm_X12_planting (by decide) (by decide) rfl rfl (Nat.le_of_ble_eq_true rfl) dX12_plants_27 (kv_ri ?_)
    refine v_istore_n [(3, .int v4), (0, .ref (ad a0)), (1, .int p1), (2, .int p2)] G dX12_plants_30 (by decide) rfl ?_
    refine v_iload_n G dX12_plants_31 0 rfl ?_
    refine v_if_ge 44 G dX12_plants_32 (by decide) (fun h7 => ?_) (fun h7 => ?_)
    · replace hf := (if_pos h7).symm.trans hf
      refine v_iload_n G dX12_plants_44 0 rfl ?_
      obtain ⟨v5, hcv5, hf⟩ := bd_e hf
      refine v_callS [.int v4] G (c_X12_sizeOf n hcv5) t_2051 t_2052 t_17 t_2053 nm_X12_sizeOf (by decide) (by decide) rfl rfl (Nat.le_of_ble_eq_true rfl) dX12_plants_45 (kv_ri ?_)
      obtain rfl := Option.some.inj hf
      exact v_iret G dX12_plants_48
    · replace hf := (if_neg h7).symm.trans hf
      refine v_aload_n G dX12_plants_35 1 rfl ?_
      refine v_bipush (8 : Int32) G dX12_plants_36 (by decide) ?_
      obtain ⟨v6, hcv6⟩ : ∃ q, f_X12_refuse a0 (8 : Int32) M3 = q := ⟨_, rfl⟩
      replace hf := lt_e hf hcv6.symm
      refine v_callV [.int (8 : Int32)] G (c_X12_refuse h0 hcv6) h0 (by decide) rfl rfl rfl t_1926 t_1928 t_p110 t_17 t_1929 nm_X12_refuse (by decide) (by decide) rfl rfl (Nat.le_of_ble_eq_true rfl) dX12_plants_38 (kv_ri ?_)
      refine v_goto 48 G dX12_plants_41 (by decide) ?_
      obtain rfl := Option.some.inj hf
      exact v_iret G dX12_plants_48
  · replace hf := (if_neg h8).symm.trans hf
    refine v_iconst (-1 : Int32) G dX12_plants_22 (by decide) ?_
    obtain rfl := Option.some.inj hf
    exact v_iret G dX12_plants_23
abbrev cX12_plantSet : ByteArray := prog_14_method_143_code
def yX12_plantSet : MethodName := ⟨RX12, "plantSet", "(II)I"⟩
theorem dX12_plantSet_0 : dc cX12_plantSet 0 (.aload_n 0) 1 1 := ⟨by decide +kernel, rfl⟩
theorem dX12_plantSet_1 : dc cX12_plantSet 1 (.iconst 0) 1 2 := ⟨by decide +kernel, rfl⟩
theorem dX12_plantSet_2 : dc cX12_plantSet 2 (.putfield 75) 3 5 := ⟨by decide +kernel, rfl⟩
theorem dX12_plantSet_5 : dc cX12_plantSet 5 (.aload_n 0) 1 6 := ⟨by decide +kernel, rfl⟩
theorem dX12_plantSet_6 : dc cX12_plantSet 6 (.aload_n 0) 1 7 := ⟨by decide +kernel, rfl⟩
theorem dX12_plantSet_7 : dc cX12_plantSet 7 (.iload_n 1) 1 8 := ⟨by decide +kernel, rfl⟩
theorem dX12_plantSet_8 : dc cX12_plantSet 8 (.iload_n 2) 1 9 := ⟨by decide +kernel, rfl⟩
theorem dX12_plantSet_9 : dc cX12_plantSet 9 (.invokevirtual 475) 3 12 := ⟨by decide +kernel, rfl⟩
theorem dX12_plantSet_12 : dc cX12_plantSet 12 (.putfield 78) 3 15 := ⟨by decide +kernel, rfl⟩
theorem dX12_plantSet_15 : dc cX12_plantSet 15 (.aload_n 0) 1 16 := ⟨by decide +kernel, rfl⟩
theorem dX12_plantSet_16 : dc cX12_plantSet 16 (.getfield 78) 3 19 := ⟨by decide +kernel, rfl⟩
theorem dX12_plantSet_19 : dc cX12_plantSet 19 (.ifCond .le 5) 3 22 := ⟨by decide +kernel, rfl⟩
theorem dX12_plantSet_22 : dc cX12_plantSet 22 (.iconst (-1)) 1 23 := ⟨by decide +kernel, rfl⟩
theorem dX12_plantSet_23 : dc cX12_plantSet 23 (.ireturn) 1 24 := ⟨by decide +kernel, rfl⟩
theorem dX12_plantSet_24 : dc cX12_plantSet 24 (.aload_n 0) 1 25 := ⟨by decide +kernel, rfl⟩
theorem dX12_plantSet_25 : dc cX12_plantSet 25 (.iload_n 1) 1 26 := ⟨by decide +kernel, rfl⟩
theorem dX12_plantSet_26 : dc cX12_plantSet 26 (.iload_n 2) 1 27 := ⟨by decide +kernel, rfl⟩
theorem dX12_plantSet_27 : dc cX12_plantSet 27 (.invokevirtual 478) 3 30 := ⟨by decide +kernel, rfl⟩
theorem dX12_plantSet_30 : dc cX12_plantSet 30 (.istore_n 3) 1 31 := ⟨by decide +kernel, rfl⟩
theorem dX12_plantSet_31 : dc cX12_plantSet 31 (.iload_n 3) 1 32 := ⟨by decide +kernel, rfl⟩
theorem dX12_plantSet_32 : dc cX12_plantSet 32 (.ifCond .ge 12) 3 35 := ⟨by decide +kernel, rfl⟩
theorem dX12_plantSet_35 : dc cX12_plantSet 35 (.aload_n 0) 1 36 := ⟨by decide +kernel, rfl⟩
theorem dX12_plantSet_36 : dc cX12_plantSet 36 (.bipush 8) 2 38 := ⟨by decide +kernel, rfl⟩
theorem dX12_plantSet_38 : dc cX12_plantSet 38 (.invokevirtual 355) 3 41 := ⟨by decide +kernel, rfl⟩
theorem dX12_plantSet_41 : dc cX12_plantSet 41 (.goto 4) 3 44 := ⟨by decide +kernel, rfl⟩
theorem dX12_plantSet_44 : dc cX12_plantSet 44 (.iload_n 3) 1 45 := ⟨by decide +kernel, rfl⟩
theorem dX12_plantSet_45 : dc cX12_plantSet 45 (.ireturn) 1 46 := ⟨by decide +kernel, rfl⟩
theorem nm_X12_plantSet : (yX12_plantSet).cls ≠ "java/lang/invoke/MethodHandle" ∧ (yX12_plantSet).cls ≠ "java/lang/invoke/VarHandle" ∧ (parseMethodDescriptor (yX12_plantSet).desc).map (fun d => d.parameters.length) = some 2 := ⟨by decide +kernel, by decide +kernel, by decide +kernel⟩
set_option maxRecDepth 100000 in
set_option maxHeartbeats 4000000 in
theorem c_X12_plantSet {l : Launch} {ad : Nat → Nat} {cy : Nat → ClassId} {D : va_G} {z : Nat} (n : Nat) {a0 : Nat} {p1 : Int32} {p2 : Int32} {M : KM} {y : (Int32 × KM)} (h0 : kty a0 = 12) (hf : f_X12_plantSet n a0 p1 p2 M = some y) : KC l ad cy D z yX12_plantSet cX12_plantSet 4 (some .int) 5 [.ref (ad a0), .int p1, .int p2] M (some (.int y.1), y.2) := by
  refine kv_enter (by decide +kernel) (Nat.le_of_ble_eq_true rfl) ?_
  intro x hl hD hz G
  subst hl hD hz
  unfold f_X12_plantSet at hf
  have G : KG ad cy x cX12_plantSet "NoonGuidesModel" 4 (some (some .int)) 5 := G
  show KV ad cy x (some (.int y.1), y.2) 0 [(0, .ref (ad a0)), (1, .int p1), (2, .int p2)] [] M
  refine v_aload_n G dX12_plantSet_0 0 rfl ?_
  refine v_iconst (0 : Int32) G dX12_plantSet_1 (by decide) ?_
  refine pf_12_1 G h0 t_1492 (Or.inl rfl) dX12_plantSet_2 ?_
  refine v_nmM (fun M1 eM1 => ?_)
  replace hf := lt_e hf eM1
  refine v_aload_n G dX12_plantSet_5 0 rfl ?_
  refine v_aload_n G dX12_plantSet_6 0 rfl ?_
  refine v_iload_n G dX12_plantSet_7 1 rfl ?_
  refine v_iload_n G dX12_plantSet_8 2 rfl ?_
  obtain ⟨v2, hcv2, hf⟩ := bd_e hf
  refine v_callV [.int p1, .int p2] G (c_X12_whyNoPlant n h0 hcv2) h0 (by decide) rfl rfl rfl t_2180 t_2182 t_p141 t_17 t_2183 nm_X12_whyNoPlant (by decide) (by decide) rfl rfl (Nat.le_of_ble_eq_true rfl) dX12_plantSet_9 (kv_ri ?_)
  refine pf_12_0 G h0 t_1491 (Or.inl rfl) dX12_plantSet_12 ?_
  refine v_nmM (fun M3 eM3 => ?_)
  replace hf := lt_e hf eM3
  refine v_aload_n G dX12_plantSet_15 0 rfl ?_
  refine gf_12_0 G h0 t_1491 (Or.inl rfl) dX12_plantSet_16 ?_
  refine v_if_le 24 G dX12_plantSet_19 (by decide) (fun h7 => ?_) (fun h7 => ?_)
  · replace hf := (if_pos h7).symm.trans hf
    refine v_aload_n G dX12_plantSet_24 0 rfl ?_
    refine v_iload_n G dX12_plantSet_25 1 rfl ?_
    refine v_iload_n G dX12_plantSet_26 2 rfl ?_
    obtain ⟨v4, hcv4, hf⟩ := bd_e hf
    refine v_callV [.int p1, .int p2] G (c_X12_planting n h0 hcv4) h0 (by decide) rfl rfl rfl t_2184 t_2186 t_p142 t_17 t_2187 nm_X12_planting (by decide) (by decide) rfl rfl (Nat.le_of_ble_eq_true rfl) dX12_plantSet_27 (kv_ri ?_)
    refine v_istore_n [(3, .int v4), (0, .ref (ad a0)), (1, .int p1), (2, .int p2)] G dX12_plantSet_30 (by decide) rfl ?_
    refine v_iload_n G dX12_plantSet_31 0 rfl ?_
    refine v_if_ge 44 G dX12_plantSet_32 (by decide) (fun h6 => ?_) (fun h6 => ?_)
    · replace hf := (if_pos h6).symm.trans hf
      refine v_iload_n G dX12_plantSet_44 0 rfl ?_
      obtain rfl := Option.some.inj hf
      exact v_iret G dX12_plantSet_45
    · replace hf := (if_neg h6).symm.trans hf
      refine v_aload_n G dX12_plantSet_35 1 rfl ?_
      refine v_bipush (8 : Int32) G dX12_plantSet_36 (by decide) ?_
      obtain ⟨v5, hcv5⟩ : ∃ q, f_X12_refuse a0 (8 : Int32) M3 = q := ⟨_, rfl⟩
      replace hf := lt_e hf hcv5.symm
      refine v_callV [.int (8 : Int32)] G (c_X12_refuse h0 hcv5) h0 (by decide) rfl rfl rfl t_1926 t_1928 t_p110 t_17 t_1929 nm_X12_refuse (by decide) (by decide) rfl rfl (Nat.le_of_ble_eq_true rfl) dX12_plantSet_38 (kv_ri ?_)
      refine v_goto 45 G dX12_plantSet_41 (by decide) ?_
      obtain rfl := Option.some.inj hf
      exact v_iret G dX12_plantSet_45
  · replace hf := (if_neg h7).symm.trans hf
    refine v_iconst (-1 : Int32) G dX12_plantSet_22 (by decide) ?_
    obtain rfl := Option.some.inj hf
    exact v_iret G dX12_plantSet_23
abbrev cX12_ways : ByteArray := prog_14_method_144_code
def yX12_ways : MethodName := ⟨RX12, "ways", "(IIII)J"⟩
theorem dX12_ways_0 : dc cX12_ways 0 (.aload_n 0) 1 1 := ⟨by decide +kernel, rfl⟩
theorem dX12_ways_1 : dc cX12_ways 1 (.iconst 0) 1 2 := ⟨by decide +kernel, rfl⟩
theorem dX12_ways_2 : dc cX12_ways 2 (.putfield 75) 3 5 := ⟨by decide +kernel, rfl⟩
theorem dX12_ways_5 : dc cX12_ways 5 (.aload_n 0) 1 6 := ⟨by decide +kernel, rfl⟩
theorem dX12_ways_6 : dc cX12_ways 6 (.iconst 0) 1 7 := ⟨by decide +kernel, rfl⟩
theorem dX12_ways_7 : dc cX12_ways 7 (.putfield 78) 3 10 := ⟨by decide +kernel, rfl⟩
theorem dX12_ways_10 : dc cX12_ways 10 (.aload_n 0) 1 11 := ⟨by decide +kernel, rfl⟩
theorem dX12_ways_11 : dc cX12_ways 11 (.iload_n 1) 1 12 := ⟨by decide +kernel, rfl⟩
theorem dX12_ways_12 : dc cX12_ways 12 (.invokevirtual 373) 3 15 := ⟨by decide +kernel, rfl⟩
theorem dX12_ways_15 : dc cX12_ways 15 (.ifCond .eq 19) 3 18 := ⟨by decide +kernel, rfl⟩
theorem dX12_ways_18 : dc cX12_ways 18 (.aload_n 0) 1 19 := ⟨by decide +kernel, rfl⟩
theorem dX12_ways_19 : dc cX12_ways 19 (.iload_n 2) 1 20 := ⟨by decide +kernel, rfl⟩
theorem dX12_ways_20 : dc cX12_ways 20 (.invokevirtual 367) 3 23 := ⟨by decide +kernel, rfl⟩
theorem dX12_ways_23 : dc cX12_ways 23 (.ifCond .eq 11) 3 26 := ⟨by decide +kernel, rfl⟩
theorem dX12_ways_26 : dc cX12_ways 26 (.aload_n 0) 1 27 := ⟨by decide +kernel, rfl⟩
theorem dX12_ways_27 : dc cX12_ways 27 (.iload_n 3) 1 28 := ⟨by decide +kernel, rfl⟩
theorem dX12_ways_28 : dc cX12_ways 28 (.invokevirtual 367) 3 31 := ⟨by decide +kernel, rfl⟩
theorem dX12_ways_31 : dc cX12_ways 31 (.ifCond .ne 10) 3 34 := ⟨by decide +kernel, rfl⟩
theorem dX12_ways_34 : dc cX12_ways 34 (.aload_n 0) 1 35 := ⟨by decide +kernel, rfl⟩
theorem dX12_ways_35 : dc cX12_ways 35 (.iconst 2) 1 36 := ⟨by decide +kernel, rfl⟩
theorem dX12_ways_36 : dc cX12_ways 36 (.invokevirtual 355) 3 39 := ⟨by decide +kernel, rfl⟩
theorem dX12_ways_39 : dc cX12_ways 39 (.i2l) 1 40 := ⟨by decide +kernel, rfl⟩
theorem dX12_ways_40 : dc cX12_ways 40 (.lreturn) 1 41 := ⟨by decide +kernel, rfl⟩
theorem dX12_ways_41 : dc cX12_ways 41 (.iload 4) 2 43 := ⟨by decide +kernel, rfl⟩
theorem dX12_ways_43 : dc cX12_ways 43 (.i2l) 1 44 := ⟨by decide +kernel, rfl⟩
theorem dX12_ways_44 : dc cX12_ways 44 (.lconst 0) 1 45 := ⟨by decide +kernel, rfl⟩
theorem dX12_ways_45 : dc cX12_ways 45 (.ldc2_w 481) 3 48 := ⟨by decide +kernel, rfl⟩
theorem dX12_ways_48 : dc cX12_ways 48 (.invokestatic 110) 3 51 := ⟨by decide +kernel, rfl⟩
theorem dX12_ways_51 : dc cX12_ways 51 (.ifCond .ne 10) 3 54 := ⟨by decide +kernel, rfl⟩
theorem dX12_ways_54 : dc cX12_ways 54 (.aload_n 0) 1 55 := ⟨by decide +kernel, rfl⟩
theorem dX12_ways_55 : dc cX12_ways 55 (.iconst 5) 1 56 := ⟨by decide +kernel, rfl⟩
theorem dX12_ways_56 : dc cX12_ways 56 (.invokevirtual 355) 3 59 := ⟨by decide +kernel, rfl⟩
theorem dX12_ways_59 : dc cX12_ways 59 (.i2l) 1 60 := ⟨by decide +kernel, rfl⟩
theorem dX12_ways_60 : dc cX12_ways 60 (.lreturn) 1 61 := ⟨by decide +kernel, rfl⟩
theorem dX12_ways_61 : dc cX12_ways 61 (.iconst 0) 1 62 := ⟨by decide +kernel, rfl⟩
theorem dX12_ways_62 : dc cX12_ways 62 (.istore 5) 2 64 := ⟨by decide +kernel, rfl⟩
theorem dX12_ways_64 : dc cX12_ways 64 (.iload 5) 2 66 := ⟨by decide +kernel, rfl⟩
theorem dX12_ways_66 : dc cX12_ways 66 (.bipush 8) 2 68 := ⟨by decide +kernel, rfl⟩
theorem dX12_ways_68 : dc cX12_ways 68 (.if_icmp .ge 27) 3 71 := ⟨by decide +kernel, rfl⟩
theorem dX12_ways_71 : dc cX12_ways 71 (.aload_n 0) 1 72 := ⟨by decide +kernel, rfl⟩
theorem dX12_ways_72 : dc cX12_ways 72 (.getfield 53) 3 75 := ⟨by decide +kernel, rfl⟩
theorem dX12_ways_75 : dc cX12_ways 75 (.iload 5) 2 77 := ⟨by decide +kernel, rfl⟩
theorem dX12_ways_77 : dc cX12_ways 77 (.iload 5) 2 79 := ⟨by decide +kernel, rfl⟩
theorem dX12_ways_79 : dc cX12_ways 79 (.iload_n 2) 1 80 := ⟨by decide +kernel, rfl⟩
theorem dX12_ways_80 : dc cX12_ways 80 (.if_icmp .ne 7) 3 83 := ⟨by decide +kernel, rfl⟩
theorem dX12_ways_83 : dc cX12_ways 83 (.lconst 1) 1 84 := ⟨by decide +kernel, rfl⟩
theorem dX12_ways_84 : dc cX12_ways 84 (.goto 4) 3 87 := ⟨by decide +kernel, rfl⟩
theorem dX12_ways_87 : dc cX12_ways 87 (.lconst 0) 1 88 := ⟨by decide +kernel, rfl⟩
theorem dX12_ways_88 : dc cX12_ways 88 (.lastore) 1 89 := ⟨by decide +kernel, rfl⟩
theorem dX12_ways_89 : dc cX12_ways 89 (.iinc 5 1) 3 92 := ⟨by decide +kernel, rfl⟩
theorem dX12_ways_92 : dc cX12_ways 92 (.goto (-28)) 3 95 := ⟨by decide +kernel, rfl⟩
theorem dX12_ways_95 : dc cX12_ways 95 (.iconst 0) 1 96 := ⟨by decide +kernel, rfl⟩
theorem dX12_ways_96 : dc cX12_ways 96 (.istore 5) 2 98 := ⟨by decide +kernel, rfl⟩
theorem dX12_ways_98 : dc cX12_ways 98 (.iload 5) 2 100 := ⟨by decide +kernel, rfl⟩
theorem dX12_ways_100 : dc cX12_ways 100 (.iload 4) 2 102 := ⟨by decide +kernel, rfl⟩
theorem dX12_ways_102 : dc cX12_ways 102 (.if_icmp .ge 163) 3 105 := ⟨by decide +kernel, rfl⟩
theorem dX12_ways_105 : dc cX12_ways 105 (.iconst 0) 1 106 := ⟨by decide +kernel, rfl⟩
theorem dX12_ways_106 : dc cX12_ways 106 (.istore 6) 2 108 := ⟨by decide +kernel, rfl⟩
theorem dX12_ways_108 : dc cX12_ways 108 (.iload 6) 2 110 := ⟨by decide +kernel, rfl⟩
theorem dX12_ways_110 : dc cX12_ways 110 (.bipush 8) 2 112 := ⟨by decide +kernel, rfl⟩
theorem dX12_ways_112 : dc cX12_ways 112 (.if_icmp .ge 17) 3 115 := ⟨by decide +kernel, rfl⟩
theorem dX12_ways_115 : dc cX12_ways 115 (.aload_n 0) 1 116 := ⟨by decide +kernel, rfl⟩
theorem dX12_ways_116 : dc cX12_ways 116 (.getfield 56) 3 119 := ⟨by decide +kernel, rfl⟩
theorem dX12_ways_119 : dc cX12_ways 119 (.iload 6) 2 121 := ⟨by decide +kernel, rfl⟩
theorem dX12_ways_121 : dc cX12_ways 121 (.lconst 0) 1 122 := ⟨by decide +kernel, rfl⟩
theorem dX12_ways_122 : dc cX12_ways 122 (.lastore) 1 123 := ⟨by decide +kernel, rfl⟩
theorem dX12_ways_123 : dc cX12_ways 123 (.iinc 6 1) 3 126 := ⟨by decide +kernel, rfl⟩
theorem dX12_ways_126 : dc cX12_ways 126 (.goto (-18)) 3 129 := ⟨by decide +kernel, rfl⟩
theorem dX12_ways_129 : dc cX12_ways 129 (.iconst 0) 1 130 := ⟨by decide +kernel, rfl⟩
theorem dX12_ways_130 : dc cX12_ways 130 (.istore 6) 2 132 := ⟨by decide +kernel, rfl⟩
theorem dX12_ways_132 : dc cX12_ways 132 (.iload 6) 2 134 := ⟨by decide +kernel, rfl⟩
theorem dX12_ways_134 : dc cX12_ways 134 (.aload_n 0) 1 135 := ⟨by decide +kernel, rfl⟩
theorem dX12_ways_135 : dc cX12_ways 135 (.getfield 35) 3 138 := ⟨by decide +kernel, rfl⟩
theorem dX12_ways_138 : dc cX12_ways 138 (.iconst 1) 1 139 := ⟨by decide +kernel, rfl⟩
theorem dX12_ways_139 : dc cX12_ways 139 (.iaload) 1 140 := ⟨by decide +kernel, rfl⟩
theorem dX12_ways_140 : dc cX12_ways 140 (.if_icmp .ge 89) 3 143 := ⟨by decide +kernel, rfl⟩
theorem dX12_ways_143 : dc cX12_ways 143 (.aload_n 0) 1 144 := ⟨by decide +kernel, rfl⟩
theorem dX12_ways_144 : dc cX12_ways 144 (.iload_n 1) 1 145 := ⟨by decide +kernel, rfl⟩
theorem dX12_ways_145 : dc cX12_ways 145 (.iload 6) 2 147 := ⟨by decide +kernel, rfl⟩
theorem dX12_ways_147 : dc cX12_ways 147 (.iconst 0) 1 148 := ⟨by decide +kernel, rfl⟩
theorem dX12_ways_148 : dc cX12_ways 148 (.invokevirtual 346) 3 151 := ⟨by decide +kernel, rfl⟩
theorem dX12_ways_151 : dc cX12_ways 151 (.ifCond .ne 6) 3 154 := ⟨by decide +kernel, rfl⟩
theorem dX12_ways_154 : dc cX12_ways 154 (.goto 69) 3 157 := ⟨by decide +kernel, rfl⟩
theorem dX12_ways_157 : dc cX12_ways 157 (.aload_n 0) 1 158 := ⟨by decide +kernel, rfl⟩
theorem dX12_ways_158 : dc cX12_ways 158 (.getfield 56) 3 161 := ⟨by decide +kernel, rfl⟩
theorem dX12_ways_161 : dc cX12_ways 161 (.aload_n 0) 1 162 := ⟨by decide +kernel, rfl⟩
theorem dX12_ways_162 : dc cX12_ways 162 (.getfield 35) 3 165 := ⟨by decide +kernel, rfl⟩
theorem dX12_ways_165 : dc cX12_ways 165 (.bipush 10) 2 167 := ⟨by decide +kernel, rfl⟩
theorem dX12_ways_167 : dc cX12_ways 167 (.iload 6) 2 169 := ⟨by decide +kernel, rfl⟩
theorem dX12_ways_169 : dc cX12_ways 169 (.iadd) 1 170 := ⟨by decide +kernel, rfl⟩
theorem dX12_ways_170 : dc cX12_ways 170 (.iaload) 1 171 := ⟨by decide +kernel, rfl⟩
theorem dX12_ways_171 : dc cX12_ways 171 (.dup2) 1 172 := ⟨by decide +kernel, rfl⟩
theorem dX12_ways_172 : dc cX12_ways 172 (.laload) 1 173 := ⟨by decide +kernel, rfl⟩
theorem dX12_ways_173 : dc cX12_ways 173 (.aload_n 0) 1 174 := ⟨by decide +kernel, rfl⟩
theorem dX12_ways_174 : dc cX12_ways 174 (.getfield 53) 3 177 := ⟨by decide +kernel, rfl⟩
theorem dX12_ways_177 : dc cX12_ways 177 (.aload_n 0) 1 178 := ⟨by decide +kernel, rfl⟩
theorem dX12_ways_178 : dc cX12_ways 178 (.getfield 35) 3 181 := ⟨by decide +kernel, rfl⟩
theorem dX12_ways_181 : dc cX12_ways 181 (.bipush 22) 2 183 := ⟨by decide +kernel, rfl⟩
theorem dX12_ways_183 : dc cX12_ways 183 (.iload 6) 2 185 := ⟨by decide +kernel, rfl⟩
theorem dX12_ways_185 : dc cX12_ways 185 (.iadd) 1 186 := ⟨by decide +kernel, rfl⟩
theorem dX12_ways_186 : dc cX12_ways 186 (.iaload) 1 187 := ⟨by decide +kernel, rfl⟩
theorem dX12_ways_187 : dc cX12_ways 187 (.laload) 1 188 := ⟨by decide +kernel, rfl⟩
theorem dX12_ways_188 : dc cX12_ways 188 (.ladd) 1 189 := ⟨by decide +kernel, rfl⟩
theorem dX12_ways_189 : dc cX12_ways 189 (.lastore) 1 190 := ⟨by decide +kernel, rfl⟩
theorem dX12_ways_190 : dc cX12_ways 190 (.aload_n 0) 1 191 := ⟨by decide +kernel, rfl⟩
theorem dX12_ways_191 : dc cX12_ways 191 (.getfield 56) 3 194 := ⟨by decide +kernel, rfl⟩
theorem dX12_ways_194 : dc cX12_ways 194 (.aload_n 0) 1 195 := ⟨by decide +kernel, rfl⟩
theorem dX12_ways_195 : dc cX12_ways 195 (.getfield 35) 3 198 := ⟨by decide +kernel, rfl⟩
theorem dX12_ways_198 : dc cX12_ways 198 (.bipush 22) 2 200 := ⟨by decide +kernel, rfl⟩
theorem dX12_ways_200 : dc cX12_ways 200 (.iload 6) 2 202 := ⟨by decide +kernel, rfl⟩
theorem dX12_ways_202 : dc cX12_ways 202 (.iadd) 1 203 := ⟨by decide +kernel, rfl⟩
theorem dX12_ways_203 : dc cX12_ways 203 (.iaload) 1 204 := ⟨by decide +kernel, rfl⟩
theorem dX12_ways_204 : dc cX12_ways 204 (.dup2) 1 205 := ⟨by decide +kernel, rfl⟩
theorem dX12_ways_205 : dc cX12_ways 205 (.laload) 1 206 := ⟨by decide +kernel, rfl⟩
theorem dX12_ways_206 : dc cX12_ways 206 (.aload_n 0) 1 207 := ⟨by decide +kernel, rfl⟩
theorem dX12_ways_207 : dc cX12_ways 207 (.getfield 53) 3 210 := ⟨by decide +kernel, rfl⟩
theorem dX12_ways_210 : dc cX12_ways 210 (.aload_n 0) 1 211 := ⟨by decide +kernel, rfl⟩
theorem dX12_ways_211 : dc cX12_ways 211 (.getfield 35) 3 214 := ⟨by decide +kernel, rfl⟩
theorem dX12_ways_214 : dc cX12_ways 214 (.bipush 10) 2 216 := ⟨by decide +kernel, rfl⟩
theorem dX12_ways_216 : dc cX12_ways 216 (.iload 6) 2 218 := ⟨by decide +kernel, rfl⟩
theorem dX12_ways_218 : dc cX12_ways 218 (.iadd) 1 219 := ⟨by decide +kernel, rfl⟩
theorem dX12_ways_219 : dc cX12_ways 219 (.iaload) 1 220 := ⟨by decide +kernel, rfl⟩
theorem dX12_ways_220 : dc cX12_ways 220 (.laload) 1 221 := ⟨by decide +kernel, rfl⟩
theorem dX12_ways_221 : dc cX12_ways 221 (.ladd) 1 222 := ⟨by decide +kernel, rfl⟩
theorem dX12_ways_222 : dc cX12_ways 222 (.lastore) 1 223 := ⟨by decide +kernel, rfl⟩
theorem dX12_ways_223 : dc cX12_ways 223 (.iinc 6 1) 3 226 := ⟨by decide +kernel, rfl⟩
theorem dX12_ways_226 : dc cX12_ways 226 (.goto (-94)) 3 229 := ⟨by decide +kernel, rfl⟩
theorem dX12_ways_229 : dc cX12_ways 229 (.iconst 0) 1 230 := ⟨by decide +kernel, rfl⟩
theorem dX12_ways_230 : dc cX12_ways 230 (.istore 6) 2 232 := ⟨by decide +kernel, rfl⟩
theorem dX12_ways_232 : dc cX12_ways 232 (.iload 6) 2 234 := ⟨by decide +kernel, rfl⟩
theorem dX12_ways_234 : dc cX12_ways 234 (.bipush 8) 2 236 := ⟨by decide +kernel, rfl⟩
theorem dX12_ways_236 : dc cX12_ways 236 (.if_icmp .ge 23) 3 239 := ⟨by decide +kernel, rfl⟩
theorem dX12_ways_239 : dc cX12_ways 239 (.aload_n 0) 1 240 := ⟨by decide +kernel, rfl⟩
theorem dX12_ways_240 : dc cX12_ways 240 (.getfield 53) 3 243 := ⟨by decide +kernel, rfl⟩
theorem dX12_ways_243 : dc cX12_ways 243 (.iload 6) 2 245 := ⟨by decide +kernel, rfl⟩
theorem dX12_ways_245 : dc cX12_ways 245 (.aload_n 0) 1 246 := ⟨by decide +kernel, rfl⟩
theorem dX12_ways_246 : dc cX12_ways 246 (.getfield 56) 3 249 := ⟨by decide +kernel, rfl⟩
theorem dX12_ways_249 : dc cX12_ways 249 (.iload 6) 2 251 := ⟨by decide +kernel, rfl⟩
theorem dX12_ways_251 : dc cX12_ways 251 (.laload) 1 252 := ⟨by decide +kernel, rfl⟩
theorem dX12_ways_252 : dc cX12_ways 252 (.lastore) 1 253 := ⟨by decide +kernel, rfl⟩
theorem dX12_ways_253 : dc cX12_ways 253 (.iinc 6 1) 3 256 := ⟨by decide +kernel, rfl⟩
theorem dX12_ways_256 : dc cX12_ways 256 (.goto (-24)) 3 259 := ⟨by decide +kernel, rfl⟩
theorem dX12_ways_259 : dc cX12_ways 259 (.iinc 5 1) 3 262 := ⟨by decide +kernel, rfl⟩
theorem dX12_ways_262 : dc cX12_ways 262 (.goto (-164)) 3 265 := ⟨by decide +kernel, rfl⟩
theorem dX12_ways_265 : dc cX12_ways 265 (.aload_n 0) 1 266 := ⟨by decide +kernel, rfl⟩
theorem dX12_ways_266 : dc cX12_ways 266 (.getfield 53) 3 269 := ⟨by decide +kernel, rfl⟩
theorem dX12_ways_269 : dc cX12_ways 269 (.iload_n 3) 1 270 := ⟨by decide +kernel, rfl⟩
theorem dX12_ways_270 : dc cX12_ways 270 (.laload) 1 271 := ⟨by decide +kernel, rfl⟩
theorem dX12_ways_271 : dc cX12_ways 271 (.lreturn) 1 272 := ⟨by decide +kernel, rfl⟩
theorem nm_X12_ways : (yX12_ways).cls ≠ "java/lang/invoke/MethodHandle" ∧ (yX12_ways).cls ≠ "java/lang/invoke/VarHandle" ∧ (parseMethodDescriptor (yX12_ways).desc).map (fun d => d.parameters.length) = some 4 := ⟨by decide +kernel, by decide +kernel, by decide +kernel⟩
set_option maxRecDepth 100000 in
set_option maxHeartbeats 4000000 in
theorem s_X12_ways_64 {ad : Nat → Nat} {cy : Nat → ClassId} {x : KX} (G : KG ad cy x cX12_ways "NoonGuidesModel" 7 (some (some .long)) 3) {a0 : Nat} {c1 : Int32} {c2 : Int32} {c3 : Int32} {c4 : Int32} (h0 : kty a0 = 12) {k95 : KM → Option (Int64 × KM)} {y : (Int64 × KM)} (hk95 : ∀ (M : KM), k95 M = some y → KV ad cy x (some (.long y.1), y.2) 95 [(0, .ref (ad a0)), (1, .int c1), (3, .int c3), (4, .int c4)] [] M) : ∀ (n : Nat) (w5 : Int32) (M : KM), lp_X12_ways_64 n a0 c1 c2 c3 c4 w5 M k95 = some y → KV ad cy x (some (.long y.1), y.2) 64 [(0, .ref (ad a0)), (1, .int c1), (2, .int c2), (3, .int c3), (4, .int c4), (5, .int w5)] [] M := by
  intro n
  induction n with
  | zero =>
    intro w5 M hf
    cases hf
  | succ n ih =>
    intro w5 M hf
    rw [lp_X12_ways_64] at hf
    refine v_iload G dX12_ways_64 5 rfl ?_
    refine v_bipush (8 : Int32) G dX12_ways_66 (by decide) ?_
    refine v_icmp_ge 95 G dX12_ways_68 (by decide) (fun h13 => ?_) (fun h13 => ?_)
    · replace hf := (if_pos h13).symm.trans hf
      refine v_sub _ [0, 1, 3, 4] rfl ?_
      exact hk95 M hf
    · replace hf := (if_neg h13).symm.trans hf
      refine v_aload_n G dX12_ways_71 0 rfl ?_
      refine gf_12_32 G h0 t_1523 (Or.inl rfl) dX12_ways_72 ?_
      refine v_iload G dX12_ways_75 5 rfl ?_
      refine v_iload G dX12_ways_77 5 rfl ?_
      refine v_iload_n G dX12_ways_79 2 rfl ?_
      obtain ⟨j88, ej88, hf⟩ := lt_j hf
      have hj88 : ∀ (x8 : Int64), j88 x8 = some y → KV ad cy x (some (.long y.1), y.2) 88 [(0, .ref (ad a0)), (1, .int c1), (2, .int c2), (3, .int c3), (4, .int c4), (5, .int w5)] [.long x8, .int w5, .ref (ad (a0 + 11))] M := by
        intro x8 hf
        rw [ej88] at hf
        obtain ⟨g9, hf⟩ := gd_e hf
        refine as_29 G (kf_12_11 h0) g9 dX12_ways_88 ?_
        refine v_nmM (fun M10 eM10 => ?_)
        replace hf := lt_e hf eM10
        obtain ⟨v11, ev11⟩ : ∃ q : Int32, q = w5 + (1 : Int32) := ⟨_, rfl⟩
        replace hf := lt_e hf ev11
        refine v_iinc v11 [(5, .int v11), (0, .ref (ad a0)), (1, .int c1), (2, .int c2), (3, .int c3), (4, .int c4)] G dX12_ways_89 5 rfl (by rw [ev11]; rfl) (by decide) rfl ?_
        refine v_goto 64 G dX12_ways_92 (by decide) ?_
        refine v_sub _ [1, 2, 3, 4, 5, 0] rfl ?_
        exact ih v11 M10 hf
      refine v_icmp_ne 87 G dX12_ways_80 (by decide) (fun h12 => ?_) (fun h12 => ?_)
      · replace hf := (if_neg h12).symm.trans hf
        refine v_lconst (0 : Int64) G dX12_ways_87 (by decide) ?_
        refine v_sub _ [0, 1, 2, 3, 4, 5] rfl ?_
        exact hj88 (0 : Int64) hf
      · replace hf := (if_pos h12).symm.trans hf
        refine v_lconst (1 : Int64) G dX12_ways_83 (by decide) ?_
        refine v_goto 88 G dX12_ways_84 (by decide) ?_
        refine v_sub _ [0, 1, 2, 3, 4, 5] rfl ?_
        exact hj88 (1 : Int64) hf
set_option maxRecDepth 100000 in
set_option maxHeartbeats 4000000 in
theorem s_X12_ways_108 {ad : Nat → Nat} {cy : Nat → ClassId} {x : KX} (G : KG ad cy x cX12_ways "NoonGuidesModel" 7 (some (some .long)) 3) {a0 : Nat} {c1 : Int32} {c3 : Int32} {c4 : Int32} {c5 : Int32} (h0 : kty a0 = 12) {k129 : KM → Option (Int64 × KM)} {y : (Int64 × KM)} (hk129 : ∀ (M : KM), k129 M = some y → KV ad cy x (some (.long y.1), y.2) 129 [(0, .ref (ad a0)), (1, .int c1), (3, .int c3), (4, .int c4), (5, .int c5)] [] M) : ∀ (n : Nat) (w6 : Int32) (M : KM), lp_X12_ways_108 n a0 c1 c3 c4 c5 w6 M k129 = some y → KV ad cy x (some (.long y.1), y.2) 108 [(0, .ref (ad a0)), (1, .int c1), (3, .int c3), (4, .int c4), (5, .int c5), (6, .int w6)] [] M := by
  intro n
  induction n with
  | zero =>
    intro w6 M hf
    cases hf
  | succ n ih =>
    intro w6 M hf
    rw [lp_X12_ways_108] at hf
    refine v_iload G dX12_ways_108 5 rfl ?_
    refine v_bipush (8 : Int32) G dX12_ways_110 (by decide) ?_
    refine v_icmp_ge 129 G dX12_ways_112 (by decide) (fun h19 => ?_) (fun h19 => ?_)
    · replace hf := (if_pos h19).symm.trans hf
      refine v_sub _ [0, 1, 2, 3, 4] rfl ?_
      exact hk129 M hf
    · replace hf := (if_neg h19).symm.trans hf
      refine v_aload_n G dX12_ways_115 0 rfl ?_
      refine gf_12_33 G h0 t_1524 (Or.inl rfl) dX12_ways_116 ?_
      refine v_iload G dX12_ways_119 5 rfl ?_
      refine v_lconst (0 : Int64) G dX12_ways_121 (by decide) ?_
      obtain ⟨g16, hf⟩ := gd_e hf
      refine as_29 G (kf_12_12 h0) g16 dX12_ways_122 ?_
      refine v_nmM (fun M17 eM17 => ?_)
      replace hf := lt_e hf eM17
      obtain ⟨v18, ev18⟩ : ∃ q : Int32, q = w6 + (1 : Int32) := ⟨_, rfl⟩
      replace hf := lt_e hf ev18
      refine v_iinc v18 [(6, .int v18), (0, .ref (ad a0)), (1, .int c1), (3, .int c3), (4, .int c4), (5, .int c5)] G dX12_ways_123 5 rfl (by rw [ev18]; rfl) (by decide) rfl ?_
      refine v_goto 108 G dX12_ways_126 (by decide) ?_
      refine v_sub _ [1, 2, 3, 4, 5, 0] rfl ?_
      exact ih v18 M17 hf
set_option maxRecDepth 100000 in
set_option maxHeartbeats 4000000 in
theorem s_X12_ways_132 {ad : Nat → Nat} {cy : Nat → ClassId} {x : KX} (G : KG ad cy x cX12_ways "NoonGuidesModel" 7 (some (some .long)) 3) {a0 : Nat} {c1 : Int32} {c3 : Int32} {c4 : Int32} {c5 : Int32} (h0 : kty a0 = 12) {k229 : KM → Option (Int64 × KM)} {y : (Int64 × KM)} (hk229 : ∀ (M : KM), k229 M = some y → KV ad cy x (some (.long y.1), y.2) 229 [(0, .ref (ad a0)), (1, .int c1), (3, .int c3), (4, .int c4), (5, .int c5)] [] M) : ∀ (n : Nat) (w6 : Int32) (M : KM), lp_X12_ways_132 n a0 c1 c3 c4 c5 w6 M k229 = some y → KV ad cy x (some (.long y.1), y.2) 132 [(0, .ref (ad a0)), (1, .int c1), (3, .int c3), (4, .int c4), (5, .int c5), (6, .int w6)] [] M := by
  intro n
  induction n with
  | zero =>
    intro w6 M hf
    cases hf
  | succ n ih =>
    intro w6 M hf
    rw [lp_X12_ways_132] at hf
    refine v_iload G dX12_ways_132 5 rfl ?_
    refine v_aload_n G dX12_ways_134 0 rfl ?_
    refine gf_12_20 G h0 t_1511 (Or.inl rfl) dX12_ways_135 ?_
    refine v_iconst (1 : Int32) G dX12_ways_138 (by decide) ?_
    obtain ⟨g21, hf⟩ := gd_e hf
    refine al_36 G (kf_12_5 h0) g21 dX12_ways_139 ?_
    refine v_icmp_ge 229 G dX12_ways_140 (by decide) (fun h40 => ?_) (fun h40 => ?_)
    · replace hf := (if_pos h40).symm.trans hf
      refine v_sub _ [0, 1, 2, 3, 4] rfl ?_
      exact hk229 M hf
    · replace hf := (if_neg h40).symm.trans hf
      refine v_aload_n G dX12_ways_143 0 rfl ?_
      refine v_iload_n G dX12_ways_144 1 rfl ?_
      refine v_iload G dX12_ways_145 5 rfl ?_
      refine v_iconst (0 : Int32) G dX12_ways_147 (by decide) ?_
      obtain ⟨v22, hcv22, hf⟩ := bd_e hf
      refine v_callV [.int c1, .int w6, .int (0 : Int32)] G (c_X12_canGo n h0 hcv22) h0 (by decide) rfl rfl rfl t_2006 t_2008 t_p121 t_17 t_2009 nm_X12_canGo (by decide) (by decide) rfl rfl (Nat.le_of_ble_eq_true rfl) dX12_ways_148 (kv_ri ?_)
      obtain ⟨j223, ej223, hf⟩ := lt_j hf
      have hj223 : ∀ (M23 : KM), j223 M23 = some y → KV ad cy x (some (.long y.1), y.2) 223 [(0, .ref (ad a0)), (1, .int c1), (3, .int c3), (4, .int c4), (5, .int c5), (6, .int w6)] [] M23 := by
        intro M23 hf
        rw [ej223] at hf
        obtain ⟨v24, ev24⟩ : ∃ q : Int32, q = w6 + (1 : Int32) := ⟨_, rfl⟩
        replace hf := lt_e hf ev24
        refine v_iinc v24 [(6, .int v24), (0, .ref (ad a0)), (1, .int c1), (3, .int c3), (4, .int c4), (5, .int c5)] G dX12_ways_223 5 rfl (by rw [ev24]; rfl) (by decide) rfl ?_
        refine v_goto 132 G dX12_ways_226 (by decide) ?_
        refine v_sub _ [1, 2, 3, 4, 5, 0] rfl ?_
        exact ih v24 M23 hf
      refine v_if_ne 157 G dX12_ways_151 (by decide) (fun h39 => ?_) (fun h39 => ?_)
      · replace hf := (if_neg h39).symm.trans hf
        refine v_aload_n G dX12_ways_157 0 rfl ?_
        refine gf_12_33 G h0 t_1524 (Or.inl rfl) dX12_ways_158 ?_
        refine v_aload_n G dX12_ways_161 0 rfl ?_
        refine gf_12_20 G h0 t_1511 (Or.inl rfl) dX12_ways_162 ?_
        refine v_bipush (10 : Int32) G dX12_ways_165 (by decide) ?_
        refine v_iload G dX12_ways_167 5 rfl ?_
        refine v_iadd G dX12_ways_169 ?_
        obtain ⟨g25, hf⟩ := gd_e hf
        refine al_36 G (kf_12_5 h0) g25 dX12_ways_170 ?_
        refine v_nmi (fun v26 ev26 => ?_)
        replace hf := lt_e hf ev26
        refine v_dup2 G dX12_ways_171 rfl rfl ?_
        obtain ⟨g27, hf⟩ := gd_e hf
        refine al_29 G (kf_12_12 h0) g27 dX12_ways_172 ?_
        refine v_aload_n G dX12_ways_173 0 rfl ?_
        refine gf_12_32 G h0 t_1523 (Or.inl rfl) dX12_ways_174 ?_
        refine v_aload_n G dX12_ways_177 0 rfl ?_
        refine gf_12_20 G h0 t_1511 (Or.inl rfl) dX12_ways_178 ?_
        refine v_bipush (22 : Int32) G dX12_ways_181 (by decide) ?_
        refine v_iload G dX12_ways_183 5 rfl ?_
        refine v_iadd G dX12_ways_185 ?_
        obtain ⟨g28, hf⟩ := gd_e hf
        refine al_36 G (kf_12_5 h0) g28 dX12_ways_186 ?_
        obtain ⟨g29, hf⟩ := gd_e hf
        refine al_29 G (kf_12_11 h0) g29 dX12_ways_187 ?_
        refine v_ladd G dX12_ways_188 ?_
        obtain ⟨g30, hf⟩ := gd_e hf
        refine as_29 G (kf_12_12 h0) g30 dX12_ways_189 ?_
        refine v_nmM (fun M31 eM31 => ?_)
        replace hf := lt_e hf eM31
        refine v_aload_n G dX12_ways_190 0 rfl ?_
        refine gf_12_33 G h0 t_1524 (Or.inl rfl) dX12_ways_191 ?_
        refine v_aload_n G dX12_ways_194 0 rfl ?_
        refine gf_12_20 G h0 t_1511 (Or.inl rfl) dX12_ways_195 ?_
        refine v_bipush (22 : Int32) G dX12_ways_198 (by decide) ?_
        refine v_iload G dX12_ways_200 5 rfl ?_
        refine v_iadd G dX12_ways_202 ?_
        obtain ⟨g32, hf⟩ := gd_e hf
        refine al_36 G (kf_12_5 h0) g32 dX12_ways_203 ?_
        refine v_nmi (fun v33 ev33 => ?_)
        replace hf := lt_e hf ev33
        refine v_dup2 G dX12_ways_204 rfl rfl ?_
        obtain ⟨g34, hf⟩ := gd_e hf
        refine al_29 G (kf_12_12 h0) g34 dX12_ways_205 ?_
        refine v_aload_n G dX12_ways_206 0 rfl ?_
        refine gf_12_32 G h0 t_1523 (Or.inl rfl) dX12_ways_207 ?_
        refine v_aload_n G dX12_ways_210 0 rfl ?_
        refine gf_12_20 G h0 t_1511 (Or.inl rfl) dX12_ways_211 ?_
        refine v_bipush (10 : Int32) G dX12_ways_214 (by decide) ?_
        refine v_iload G dX12_ways_216 5 rfl ?_
        refine v_iadd G dX12_ways_218 ?_
        obtain ⟨g35, hf⟩ := gd_e hf
        refine al_36 G (kf_12_5 h0) g35 dX12_ways_219 ?_
        obtain ⟨g36, hf⟩ := gd_e hf
        refine al_29 G (kf_12_11 h0) g36 dX12_ways_220 ?_
        refine v_ladd G dX12_ways_221 ?_
        obtain ⟨g37, hf⟩ := gd_e hf
        refine as_29 G (kf_12_12 h0) g37 dX12_ways_222 ?_
        refine v_nmM (fun M38 eM38 => ?_)
        replace hf := lt_e hf eM38
        refine v_sub _ [0, 1, 2, 3, 4, 5] rfl ?_
        exact hj223 M38 hf
      · replace hf := (if_pos h39).symm.trans hf
        refine v_goto 223 G dX12_ways_154 (by decide) ?_
        refine v_sub _ [0, 1, 2, 3, 4, 5] rfl ?_
        exact hj223 M hf
set_option maxRecDepth 100000 in
set_option maxHeartbeats 4000000 in
theorem s_X12_ways_232 {ad : Nat → Nat} {cy : Nat → ClassId} {x : KX} (G : KG ad cy x cX12_ways "NoonGuidesModel" 7 (some (some .long)) 3) {a0 : Nat} {c1 : Int32} {c3 : Int32} {c4 : Int32} {c5 : Int32} (h0 : kty a0 = 12) {k259 : KM → Option (Int64 × KM)} {y : (Int64 × KM)} (hk259 : ∀ (M : KM), k259 M = some y → KV ad cy x (some (.long y.1), y.2) 259 [(0, .ref (ad a0)), (1, .int c1), (3, .int c3), (4, .int c4), (5, .int c5)] [] M) : ∀ (n : Nat) (w6 : Int32) (M : KM), lp_X12_ways_232 n a0 c1 c3 c4 c5 w6 M k259 = some y → KV ad cy x (some (.long y.1), y.2) 232 [(0, .ref (ad a0)), (1, .int c1), (3, .int c3), (4, .int c4), (5, .int c5), (6, .int w6)] [] M := by
  intro n
  induction n with
  | zero =>
    intro w6 M hf
    cases hf
  | succ n ih =>
    intro w6 M hf
    rw [lp_X12_ways_232] at hf
    refine v_iload G dX12_ways_232 5 rfl ?_
    refine v_bipush (8 : Int32) G dX12_ways_234 (by decide) ?_
    refine v_icmp_ge 259 G dX12_ways_236 (by decide) (fun h46 => ?_) (fun h46 => ?_)
    · replace hf := (if_pos h46).symm.trans hf
      refine v_sub _ [0, 1, 2, 3, 4] rfl ?_
      exact hk259 M hf
    · replace hf := (if_neg h46).symm.trans hf
      refine v_aload_n G dX12_ways_239 0 rfl ?_
      refine gf_12_32 G h0 t_1523 (Or.inl rfl) dX12_ways_240 ?_
      refine v_iload G dX12_ways_243 5 rfl ?_
      refine v_aload_n G dX12_ways_245 0 rfl ?_
      refine gf_12_33 G h0 t_1524 (Or.inl rfl) dX12_ways_246 ?_
      refine v_iload G dX12_ways_249 5 rfl ?_
      obtain ⟨g42, hf⟩ := gd_e hf
      refine al_29 G (kf_12_12 h0) g42 dX12_ways_251 ?_
      obtain ⟨g43, hf⟩ := gd_e hf
      refine as_29 G (kf_12_11 h0) g43 dX12_ways_252 ?_
      refine v_nmM (fun M44 eM44 => ?_)
      replace hf := lt_e hf eM44
      obtain ⟨v45, ev45⟩ : ∃ q : Int32, q = w6 + (1 : Int32) := ⟨_, rfl⟩
      replace hf := lt_e hf ev45
      refine v_iinc v45 [(6, .int v45), (0, .ref (ad a0)), (1, .int c1), (3, .int c3), (4, .int c4), (5, .int c5)] G dX12_ways_253 5 rfl (by rw [ev45]; rfl) (by decide) rfl ?_
      refine v_goto 232 G dX12_ways_256 (by decide) ?_
      refine v_sub _ [1, 2, 3, 4, 5, 0] rfl ?_
      exact ih v45 M44 hf
set_option maxRecDepth 100000 in
set_option maxHeartbeats 4000000 in
theorem s_X12_ways_98 {ad : Nat → Nat} {cy : Nat → ClassId} {x : KX} (G : KG ad cy x cX12_ways "NoonGuidesModel" 7 (some (some .long)) 3) {a0 : Nat} {c1 : Int32} {c3 : Int32} {c4 : Int32} (h0 : kty a0 = 12) {y : (Int64 × KM)} : ∀ (n : Nat) (w5 : Int32) (M : KM), lp_X12_ways_98 n a0 c1 c3 c4 w5 M = some y → KV ad cy x (some (.long y.1), y.2) 98 [(0, .ref (ad a0)), (1, .int c1), (3, .int c3), (4, .int c4), (5, .int w5)] [] M := by
  intro n
  induction n with
  | zero =>
    intro w5 M hf
    cases hf
  | succ n ih =>
    intro w5 M hf
    rw [lp_X12_ways_98] at hf
    refine v_iload G dX12_ways_98 4 rfl ?_
    refine v_iload G dX12_ways_100 3 rfl ?_
    refine v_icmp_ge 265 G dX12_ways_102 (by decide) (fun h49 => ?_) (fun h49 => ?_)
    · replace hf := (if_pos h49).symm.trans hf
      refine v_aload_n G dX12_ways_265 0 rfl ?_
      refine gf_12_32 G h0 t_1523 (Or.inl rfl) dX12_ways_266 ?_
      refine v_iload_n G dX12_ways_269 2 rfl ?_
      obtain ⟨g15, hf⟩ := gd_e hf
      refine al_29 G (kf_12_11 h0) g15 dX12_ways_270 ?_
      obtain rfl := Option.some.inj hf
      exact v_lret G dX12_ways_271
    · replace hf := (if_neg h49).symm.trans hf
      refine v_iconst (0 : Int32) G dX12_ways_105 (by decide) ?_
      refine v_istore [(6, .int (0 : Int32)), (0, .ref (ad a0)), (1, .int c1), (3, .int c3), (4, .int c4), (5, .int w5)] G dX12_ways_106 (by decide) rfl ?_
      refine v_sub _ [1, 2, 3, 4, 5, 0] rfl ?_
      refine s_X12_ways_108 G h0 (fun M20 hf => ?_) n (0 : Int32) M hf
      · refine v_iconst (0 : Int32) G dX12_ways_129 (by decide) ?_
        refine v_istore [(6, .int (0 : Int32)), (0, .ref (ad a0)), (1, .int c1), (3, .int c3), (4, .int c4), (5, .int w5)] G dX12_ways_130 (by decide) rfl ?_
        refine v_sub _ [1, 2, 3, 4, 5, 0] rfl ?_
        refine s_X12_ways_132 G h0 (fun M41 hf => ?_) n (0 : Int32) M20 hf
        · refine v_iconst (0 : Int32) G dX12_ways_229 (by decide) ?_
          refine v_istore [(6, .int (0 : Int32)), (0, .ref (ad a0)), (1, .int c1), (3, .int c3), (4, .int c4), (5, .int w5)] G dX12_ways_230 (by decide) rfl ?_
          refine v_sub _ [1, 2, 3, 4, 5, 0] rfl ?_
          refine s_X12_ways_232 G h0 (fun M47 hf => ?_) n (0 : Int32) M41 hf
          · obtain ⟨v48, ev48⟩ : ∃ q : Int32, q = w5 + (1 : Int32) := ⟨_, rfl⟩
            replace hf := lt_e hf ev48
            refine v_iinc v48 [(5, .int v48), (0, .ref (ad a0)), (1, .int c1), (3, .int c3), (4, .int c4)] G dX12_ways_259 4 rfl (by rw [ev48]; rfl) (by decide) rfl ?_
            refine v_goto 98 G dX12_ways_262 (by decide) ?_
            refine v_sub _ [1, 2, 3, 4, 0] rfl ?_
            exact ih v48 M47 hf
set_option maxRecDepth 100000 in
set_option maxHeartbeats 4000000 in
theorem c_X12_ways {l : Launch} {ad : Nat → Nat} {cy : Nat → ClassId} {D : va_G} {z : Nat} (n : Nat) {a0 : Nat} {p1 : Int32} {p2 : Int32} {p3 : Int32} {p4 : Int32} {M : KM} {y : (Int64 × KM)} (h0 : kty a0 = 12) (hf : f_X12_ways n a0 p1 p2 p3 p4 M = some y) : KC l ad cy D z yX12_ways cX12_ways 7 (some .long) 3 [.ref (ad a0), .int p1, .int p2, .int p3, .int p4] M (some (.long y.1), y.2) := by
  refine kv_enter (by decide +kernel) (Nat.le_of_ble_eq_true rfl) ?_
  intro x hl hD hz G
  subst hl hD hz
  unfold f_X12_ways at hf
  have G : KG ad cy x cX12_ways "NoonGuidesModel" 7 (some (some .long)) 3 := G
  show KV ad cy x (some (.long y.1), y.2) 0 [(0, .ref (ad a0)), (1, .int p1), (2, .int p2), (3, .int p3), (4, .int p4)] [] M
  refine v_aload_n G dX12_ways_0 0 rfl ?_
  refine v_iconst (0 : Int32) G dX12_ways_1 (by decide) ?_
  refine pf_12_1 G h0 t_1492 (Or.inl rfl) dX12_ways_2 ?_
  refine v_nmM (fun M1 eM1 => ?_)
  replace hf := lt_e hf eM1
  refine v_aload_n G dX12_ways_5 0 rfl ?_
  refine v_iconst (0 : Int32) G dX12_ways_6 (by decide) ?_
  refine pf_12_0 G h0 t_1491 (Or.inl rfl) dX12_ways_7 ?_
  refine v_nmM (fun M2 eM2 => ?_)
  replace hf := lt_e hf eM2
  refine v_aload_n G dX12_ways_10 0 rfl ?_
  refine v_iload_n G dX12_ways_11 1 rfl ?_
  obtain ⟨v3, hcv3, hf⟩ := bd_e hf
  refine v_callV [.int p1] G (c_X12_isPerson n h0 hcv3) h0 (by decide) rfl rfl rfl t_1971 t_1973 t_p118 t_17 t_1974 nm_X12_isPerson (by decide) (by decide) rfl rfl (Nat.le_of_ble_eq_true rfl) dX12_ways_12 (kv_ri ?_)
  obtain ⟨j34, ej34, hf⟩ := lt_j hf
  have hj34 : j34 = some y → KV ad cy x (some (.long y.1), y.2) 34 [(0, .ref (ad a0))] [] M2 := by
    intro hf
    rw [ej34] at hf
    refine v_aload_n G dX12_ways_34 0 rfl ?_
    refine v_iconst (2 : Int32) G dX12_ways_35 (by decide) ?_
    obtain ⟨v4, hcv4⟩ : ∃ q, f_X12_refuse a0 (2 : Int32) M2 = q := ⟨_, rfl⟩
    replace hf := lt_e hf hcv4.symm
    refine v_callV [.int (2 : Int32)] G (c_X12_refuse h0 hcv4) h0 (by decide) rfl rfl rfl t_1926 t_1928 t_p110 t_17 t_1929 nm_X12_refuse (by decide) (by decide) rfl rfl (Nat.le_of_ble_eq_true rfl) dX12_ways_36 (kv_ri ?_)
    refine v_i2l G dX12_ways_39 ?_
    obtain rfl := Option.some.inj hf
    exact v_lret G dX12_ways_40
  refine v_if_eq 34 G dX12_ways_15 (by decide) (fun h54 => ?_) (fun h54 => ?_)
  · replace hf := (if_pos h54).symm.trans hf
    refine v_sub _ [0] rfl ?_
    exact hj34 hf
  · replace hf := (if_neg h54).symm.trans hf
    refine v_aload_n G dX12_ways_18 0 rfl ?_
    refine v_iload_n G dX12_ways_19 2 rfl ?_
    obtain ⟨v5, hcv5, hf⟩ := bd_e hf
    refine v_callV [.int p2] G (c_X12_isPlaceAt n h0 hcv5) h0 (by decide) rfl rfl rfl t_1959 t_1961 t_p116 t_17 t_1962 nm_X12_isPlaceAt (by decide) (by decide) rfl rfl (Nat.le_of_ble_eq_true rfl) dX12_ways_20 (kv_ri ?_)
    refine v_if_eq 34 G dX12_ways_23 (by decide) (fun h53 => ?_) (fun h53 => ?_)
    · replace hf := (if_pos h53).symm.trans hf
      refine v_sub _ [0] rfl ?_
      exact hj34 hf
    · replace hf := (if_neg h53).symm.trans hf
      refine v_aload_n G dX12_ways_26 0 rfl ?_
      refine v_iload_n G dX12_ways_27 3 rfl ?_
      obtain ⟨v6, hcv6, hf⟩ := bd_e hf
      refine v_callV [.int p3] G (c_X12_isPlaceAt n h0 hcv6) h0 (by decide) rfl rfl rfl t_1959 t_1961 t_p116 t_17 t_1962 nm_X12_isPlaceAt (by decide) (by decide) rfl rfl (Nat.le_of_ble_eq_true rfl) dX12_ways_28 (kv_ri ?_)
      refine v_if_ne 41 G dX12_ways_31 (by decide) (fun h52 => ?_) (fun h52 => ?_)
      · replace hf := (if_neg h52).symm.trans hf
        refine v_iload G dX12_ways_41 4 rfl ?_
        refine v_i2l G dX12_ways_43 ?_
        refine v_lconst (0 : Int64) G dX12_ways_44 (by decide) ?_
        refine v_ldc2 G dX12_ways_45 t_2200 ?_
        obtain ⟨v7, hcv7⟩ : ∃ q, f_X12_isIn (p4).toInt64 (0 : Int64) (10 : Int64) M2 = q := ⟨_, rfl⟩
        replace hf := lt_e hf hcv7.symm
        refine v_callS [.long (p4).toInt64, .long (0 : Int64), .long (10 : Int64)] G (c_X12_isIn hcv7) t_1755 t_1756 t_17 t_1757 nm_X12_isIn (by decide) (by decide) rfl rfl (Nat.le_of_ble_eq_true rfl) dX12_ways_48 (kv_ri ?_)
        refine v_if_ne 61 G dX12_ways_51 (by decide) (fun h51 => ?_) (fun h51 => ?_)
        · replace hf := (if_neg h51).symm.trans hf
          refine v_iconst (0 : Int32) G dX12_ways_61 (by decide) ?_
          refine v_istore [(5, .int (0 : Int32)), (0, .ref (ad a0)), (1, .int p1), (2, .int p2), (3, .int p3), (4, .int p4)] G dX12_ways_62 (by decide) rfl ?_
          refine v_sub _ [1, 2, 3, 4, 5, 0] rfl ?_
          refine s_X12_ways_64 G h0 (fun M14 hf => ?_) n (0 : Int32) M2 hf
          · refine v_iconst (0 : Int32) G dX12_ways_95 (by decide) ?_
            refine v_istore [(5, .int (0 : Int32)), (0, .ref (ad a0)), (1, .int p1), (3, .int p3), (4, .int p4)] G dX12_ways_96 (by decide) rfl ?_
            refine v_sub _ [1, 2, 3, 4, 0] rfl ?_
            refine s_X12_ways_98 G h0 n (0 : Int32) M14 hf
        · replace hf := (if_pos h51).symm.trans hf
          refine v_aload_n G dX12_ways_54 0 rfl ?_
          refine v_iconst (5 : Int32) G dX12_ways_55 (by decide) ?_
          obtain ⟨v50, hcv50⟩ : ∃ q, f_X12_refuse a0 (5 : Int32) M2 = q := ⟨_, rfl⟩
          replace hf := lt_e hf hcv50.symm
          refine v_callV [.int (5 : Int32)] G (c_X12_refuse h0 hcv50) h0 (by decide) rfl rfl rfl t_1926 t_1928 t_p110 t_17 t_1929 nm_X12_refuse (by decide) (by decide) rfl rfl (Nat.le_of_ble_eq_true rfl) dX12_ways_56 (kv_ri ?_)
          refine v_i2l G dX12_ways_59 ?_
          obtain rfl := Option.some.inj hf
          exact v_lret G dX12_ways_60
      · replace hf := (if_pos h52).symm.trans hf
        refine v_sub _ [0] rfl ?_
        exact hj34 hf
abbrev cX12_likes : ByteArray := prog_14_method_145_code
def yX12_likes : MethodName := ⟨RX12, "likes", "(III)Z"⟩
theorem dX12_likes_0 : dc cX12_likes 0 (.aload_n 0) 1 1 := ⟨by decide +kernel, rfl⟩
theorem dX12_likes_1 : dc cX12_likes 1 (.getfield 35) 3 4 := ⟨by decide +kernel, rfl⟩
theorem dX12_likes_4 : dc cX12_likes 4 (.sipush 226) 3 7 := ⟨by decide +kernel, rfl⟩
theorem dX12_likes_7 : dc cX12_likes 7 (.bipush 8) 2 9 := ⟨by decide +kernel, rfl⟩
theorem dX12_likes_9 : dc cX12_likes 9 (.iload_n 2) 1 10 := ⟨by decide +kernel, rfl⟩
theorem dX12_likes_10 : dc cX12_likes 10 (.imul) 1 11 := ⟨by decide +kernel, rfl⟩
theorem dX12_likes_11 : dc cX12_likes 11 (.iadd) 1 12 := ⟨by decide +kernel, rfl⟩
theorem dX12_likes_12 : dc cX12_likes 12 (.iload_n 1) 1 13 := ⟨by decide +kernel, rfl⟩
theorem dX12_likes_13 : dc cX12_likes 13 (.iadd) 1 14 := ⟨by decide +kernel, rfl⟩
theorem dX12_likes_14 : dc cX12_likes 14 (.iaload) 1 15 := ⟨by decide +kernel, rfl⟩
theorem dX12_likes_15 : dc cX12_likes 15 (.istore 4) 2 17 := ⟨by decide +kernel, rfl⟩
theorem dX12_likes_17 : dc cX12_likes 17 (.aload_n 0) 1 18 := ⟨by decide +kernel, rfl⟩
theorem dX12_likes_18 : dc cX12_likes 18 (.getfield 35) 3 21 := ⟨by decide +kernel, rfl⟩
theorem dX12_likes_21 : dc cX12_likes 21 (.sipush 226) 3 24 := ⟨by decide +kernel, rfl⟩
theorem dX12_likes_24 : dc cX12_likes 24 (.bipush 8) 2 26 := ⟨by decide +kernel, rfl⟩
theorem dX12_likes_26 : dc cX12_likes 26 (.iload_n 3) 1 27 := ⟨by decide +kernel, rfl⟩
theorem dX12_likes_27 : dc cX12_likes 27 (.imul) 1 28 := ⟨by decide +kernel, rfl⟩
theorem dX12_likes_28 : dc cX12_likes 28 (.iadd) 1 29 := ⟨by decide +kernel, rfl⟩
theorem dX12_likes_29 : dc cX12_likes 29 (.iload_n 1) 1 30 := ⟨by decide +kernel, rfl⟩
theorem dX12_likes_30 : dc cX12_likes 30 (.iadd) 1 31 := ⟨by decide +kernel, rfl⟩
theorem dX12_likes_31 : dc cX12_likes 31 (.iaload) 1 32 := ⟨by decide +kernel, rfl⟩
theorem dX12_likes_32 : dc cX12_likes 32 (.istore 5) 2 34 := ⟨by decide +kernel, rfl⟩
theorem dX12_likes_34 : dc cX12_likes 34 (.iload 4) 2 36 := ⟨by decide +kernel, rfl⟩
theorem dX12_likes_36 : dc cX12_likes 36 (.iload 5) 2 38 := ⟨by decide +kernel, rfl⟩
theorem dX12_likes_38 : dc cX12_likes 38 (.if_icmp .gt 15) 3 41 := ⟨by decide +kernel, rfl⟩
theorem dX12_likes_41 : dc cX12_likes 41 (.iload 4) 2 43 := ⟨by decide +kernel, rfl⟩
theorem dX12_likes_43 : dc cX12_likes 43 (.iload 5) 2 45 := ⟨by decide +kernel, rfl⟩
theorem dX12_likes_45 : dc cX12_likes 45 (.if_icmp .ne 12) 3 48 := ⟨by decide +kernel, rfl⟩
theorem dX12_likes_48 : dc cX12_likes 48 (.iload_n 2) 1 49 := ⟨by decide +kernel, rfl⟩
theorem dX12_likes_49 : dc cX12_likes 49 (.iload_n 3) 1 50 := ⟨by decide +kernel, rfl⟩
theorem dX12_likes_50 : dc cX12_likes 50 (.if_icmp .ge 7) 3 53 := ⟨by decide +kernel, rfl⟩
theorem dX12_likes_53 : dc cX12_likes 53 (.iconst 1) 1 54 := ⟨by decide +kernel, rfl⟩
theorem dX12_likes_54 : dc cX12_likes 54 (.goto 4) 3 57 := ⟨by decide +kernel, rfl⟩
theorem dX12_likes_57 : dc cX12_likes 57 (.iconst 0) 1 58 := ⟨by decide +kernel, rfl⟩
theorem dX12_likes_58 : dc cX12_likes 58 (.ireturn) 1 59 := ⟨by decide +kernel, rfl⟩
theorem nm_X12_likes : (yX12_likes).cls ≠ "java/lang/invoke/MethodHandle" ∧ (yX12_likes).cls ≠ "java/lang/invoke/VarHandle" ∧ (parseMethodDescriptor (yX12_likes).desc).map (fun d => d.parameters.length) = some 3 := ⟨by decide +kernel, by decide +kernel, by decide +kernel⟩
set_option maxRecDepth 100000 in
theorem z_X12_likes (n : Nat) {a0 : Nat} {p1 : Int32} {p2 : Int32} {p3 : Int32} {M : KM} {y : Int32} (hf : f_X12_likes n a0 p1 p2 p3 M = some y) : (y = 0 ∨ y = 1) := by
  unfold f_X12_likes at hf
  obtain ⟨g1, hf⟩ := gd_e hf
  obtain ⟨v2, ev2⟩ : ∃ q, q = ((M.1 (a0 + 5) ((((226 : Int32) + ((8 : Int32) * p2)) + p1)).toNatClampNeg) : Int32) := ⟨_, rfl⟩
  replace hf := lt_e hf ev2
  obtain ⟨g3, hf⟩ := gd_e hf
  obtain ⟨v4, ev4⟩ : ∃ q, q = ((M.1 (a0 + 5) ((((226 : Int32) + ((8 : Int32) * p3)) + p1)).toNatClampNeg) : Int32) := ⟨_, rfl⟩
  replace hf := lt_e hf ev4
  obtain ⟨j53, ej53, hf⟩ := lt_j hf
  have hj53 : j53 = some y → (y = 0 ∨ y = 1) := by
    intro hf
    rw [ej53] at hf
    obtain rfl := Option.some.inj hf
    exact (Or.inr rfl)
  by_cases h7 : v4 < v2
  · replace hf := (if_pos h7).symm.trans hf
    exact hj53 hf
  · replace hf := (if_neg h7).symm.trans hf
    by_cases h6 : v2 = v4
    · replace hf := (if_pos h6).symm.trans hf
      by_cases h5 : p3 ≤ p2
      · replace hf := (if_pos h5).symm.trans hf
        obtain rfl := Option.some.inj hf
        exact (Or.inl rfl)
      · replace hf := (if_neg h5).symm.trans hf
        exact hj53 hf
    · replace hf := (if_neg h6).symm.trans hf
      obtain rfl := Option.some.inj hf
      exact (Or.inl rfl)
set_option maxRecDepth 100000 in
set_option maxHeartbeats 4000000 in
theorem c_X12_likes {l : Launch} {ad : Nat → Nat} {cy : Nat → ClassId} {D : va_G} {z : Nat} (n : Nat) {a0 : Nat} {p1 : Int32} {p2 : Int32} {p3 : Int32} {M : KM} {y : Int32} (h0 : kty a0 = 12) (hf : f_X12_likes n a0 p1 p2 p3 M = some y) : KC l ad cy D z yX12_likes cX12_likes 6 (some .boolean) 1 [.ref (ad a0), .int p1, .int p2, .int p3] M (some (.int y), M) := by
  refine kv_enter (by decide +kernel) (Nat.le_of_ble_eq_true rfl) ?_
  intro x hl hD hz G
  subst hl hD hz
  unfold f_X12_likes at hf
  have G : KG ad cy x cX12_likes "NoonGuidesModel" 6 (some (some .boolean)) 1 := G
  show KV ad cy x (some (.int y), M) 0 [(0, .ref (ad a0)), (1, .int p1), (2, .int p2), (3, .int p3)] [] M
  refine v_aload_n G dX12_likes_0 0 rfl ?_
  refine gf_12_20 G h0 t_1511 (Or.inl rfl) dX12_likes_1 ?_
  refine v_sipush (226 : Int32) G dX12_likes_4 (by decide) ?_
  refine v_bipush (8 : Int32) G dX12_likes_7 (by decide) ?_
  refine v_iload_n G dX12_likes_9 2 rfl ?_
  refine v_imul G dX12_likes_10 ?_
  refine v_iadd G dX12_likes_11 ?_
  refine v_iload_n G dX12_likes_12 1 rfl ?_
  refine v_iadd G dX12_likes_13 ?_
  obtain ⟨g1, hf⟩ := gd_e hf
  refine al_36 G (kf_12_5 h0) g1 dX12_likes_14 ?_
  refine v_nmi (fun v2 ev2 => ?_)
  replace hf := lt_e hf ev2
  refine v_istore [(4, .int v2), (0, .ref (ad a0)), (1, .int p1), (2, .int p2), (3, .int p3)] G dX12_likes_15 (by decide) rfl ?_
  refine v_aload_n G dX12_likes_17 1 rfl ?_
  refine gf_12_20 G h0 t_1511 (Or.inl rfl) dX12_likes_18 ?_
  refine v_sipush (226 : Int32) G dX12_likes_21 (by decide) ?_
  refine v_bipush (8 : Int32) G dX12_likes_24 (by decide) ?_
  refine v_iload_n G dX12_likes_26 4 rfl ?_
  refine v_imul G dX12_likes_27 ?_
  refine v_iadd G dX12_likes_28 ?_
  refine v_iload_n G dX12_likes_29 2 rfl ?_
  refine v_iadd G dX12_likes_30 ?_
  obtain ⟨g3, hf⟩ := gd_e hf
  refine al_36 G (kf_12_5 h0) g3 dX12_likes_31 ?_
  refine v_nmi (fun v4 ev4 => ?_)
  replace hf := lt_e hf ev4
  refine v_istore [(5, .int v4), (4, .int v2), (0, .ref (ad a0)), (1, .int p1), (2, .int p2), (3, .int p3)] G dX12_likes_32 (by decide) rfl ?_
  refine v_iload G dX12_likes_34 1 rfl ?_
  refine v_iload G dX12_likes_36 0 rfl ?_
  obtain ⟨j53, ej53, hf⟩ := lt_j hf
  have hj53 : j53 = some y → KV ad cy x (some (.int y), M) 53 [] [] M := by
    intro hf
    rw [ej53] at hf
    refine v_iconst (1 : Int32) G dX12_likes_53 (by decide) ?_
    refine v_goto 58 G dX12_likes_54 (by decide) ?_
    obtain rfl := Option.some.inj hf
    exact v_zret G (Or.inr rfl) dX12_likes_58
  refine v_icmp_gt 53 G dX12_likes_38 (by decide) (fun h7 => ?_) (fun h7 => ?_)
  · replace hf := (if_pos h7).symm.trans hf
    refine v_sub _ [] rfl ?_
    exact hj53 hf
  · replace hf := (if_neg h7).symm.trans hf
    refine v_iload G dX12_likes_41 1 rfl ?_
    refine v_iload G dX12_likes_43 0 rfl ?_
    refine v_icmp_ne 57 G dX12_likes_45 (by decide) (fun h6 => ?_) (fun h6 => ?_)
    · replace hf := (if_neg h6).symm.trans hf
      refine v_iconst (0 : Int32) G dX12_likes_57 (by decide) ?_
      obtain rfl := Option.some.inj hf
      exact v_zret G (Or.inl rfl) dX12_likes_58
    · replace hf := (if_pos h6).symm.trans hf
      refine v_iload_n G dX12_likes_48 4 rfl ?_
      refine v_iload_n G dX12_likes_49 5 rfl ?_
      refine v_icmp_ge 57 G dX12_likes_50 (by decide) (fun h5 => ?_) (fun h5 => ?_)
      · replace hf := (if_pos h5).symm.trans hf
        refine v_iconst (0 : Int32) G dX12_likes_57 (by decide) ?_
        obtain rfl := Option.some.inj hf
        exact v_zret G (Or.inl rfl) dX12_likes_58
      · replace hf := (if_neg h5).symm.trans hf
        refine v_sub _ [] rfl ?_
        exact hj53 hf
abbrev cX12_nextAsked : ByteArray := prog_14_method_146_code
def yX12_nextAsked : MethodName := ⟨RX12, "nextAsked", "(I)I"⟩
theorem dX12_nextAsked_0 : dc cX12_nextAsked 0 (.iconst (-1)) 1 1 := ⟨by decide +kernel, rfl⟩
theorem dX12_nextAsked_1 : dc cX12_nextAsked 1 (.istore_n 2) 1 2 := ⟨by decide +kernel, rfl⟩
theorem dX12_nextAsked_2 : dc cX12_nextAsked 2 (.iconst 0) 1 3 := ⟨by decide +kernel, rfl⟩
theorem dX12_nextAsked_3 : dc cX12_nextAsked 3 (.istore_n 3) 1 4 := ⟨by decide +kernel, rfl⟩
theorem dX12_nextAsked_4 : dc cX12_nextAsked 4 (.iload_n 3) 1 5 := ⟨by decide +kernel, rfl⟩
theorem dX12_nextAsked_5 : dc cX12_nextAsked 5 (.aload_n 0) 1 6 := ⟨by decide +kernel, rfl⟩
theorem dX12_nextAsked_6 : dc cX12_nextAsked 6 (.getfield 35) 3 9 := ⟨by decide +kernel, rfl⟩
theorem dX12_nextAsked_9 : dc cX12_nextAsked 9 (.iconst 2) 1 10 := ⟨by decide +kernel, rfl⟩
theorem dX12_nextAsked_10 : dc cX12_nextAsked 10 (.iaload) 1 11 := ⟨by decide +kernel, rfl⟩
theorem dX12_nextAsked_11 : dc cX12_nextAsked 11 (.if_icmp .ge 51) 3 14 := ⟨by decide +kernel, rfl⟩
theorem dX12_nextAsked_14 : dc cX12_nextAsked 14 (.aload_n 0) 1 15 := ⟨by decide +kernel, rfl⟩
theorem dX12_nextAsked_15 : dc cX12_nextAsked 15 (.getfield 35) 3 18 := ⟨by decide +kernel, rfl⟩
theorem dX12_nextAsked_18 : dc cX12_nextAsked 18 (.bipush 106) 2 20 := ⟨by decide +kernel, rfl⟩
theorem dX12_nextAsked_20 : dc cX12_nextAsked 20 (.iload_n 3) 1 21 := ⟨by decide +kernel, rfl⟩
theorem dX12_nextAsked_21 : dc cX12_nextAsked 21 (.iadd) 1 22 := ⟨by decide +kernel, rfl⟩
theorem dX12_nextAsked_22 : dc cX12_nextAsked 22 (.iaload) 1 23 := ⟨by decide +kernel, rfl⟩
theorem dX12_nextAsked_23 : dc cX12_nextAsked 23 (.iconst 1) 1 24 := ⟨by decide +kernel, rfl⟩
theorem dX12_nextAsked_24 : dc cX12_nextAsked 24 (.if_icmp .ne 32) 3 27 := ⟨by decide +kernel, rfl⟩
theorem dX12_nextAsked_27 : dc cX12_nextAsked 27 (.aload_n 0) 1 28 := ⟨by decide +kernel, rfl⟩
theorem dX12_nextAsked_28 : dc cX12_nextAsked 28 (.getfield 62) 3 31 := ⟨by decide +kernel, rfl⟩
theorem dX12_nextAsked_31 : dc cX12_nextAsked 31 (.iload_n 1) 1 32 := ⟨by decide +kernel, rfl⟩
theorem dX12_nextAsked_32 : dc cX12_nextAsked 32 (.iaload) 1 33 := ⟨by decide +kernel, rfl⟩
theorem dX12_nextAsked_33 : dc cX12_nextAsked 33 (.iload_n 3) 1 34 := ⟨by decide +kernel, rfl⟩
theorem dX12_nextAsked_34 : dc cX12_nextAsked 34 (.invokestatic 114) 3 37 := ⟨by decide +kernel, rfl⟩
theorem dX12_nextAsked_37 : dc cX12_nextAsked 37 (.ifCond .ne 19) 3 40 := ⟨by decide +kernel, rfl⟩
theorem dX12_nextAsked_40 : dc cX12_nextAsked 40 (.iload_n 2) 1 41 := ⟨by decide +kernel, rfl⟩
theorem dX12_nextAsked_41 : dc cX12_nextAsked 41 (.ifCond .lt 13) 3 44 := ⟨by decide +kernel, rfl⟩
theorem dX12_nextAsked_44 : dc cX12_nextAsked 44 (.aload_n 0) 1 45 := ⟨by decide +kernel, rfl⟩
theorem dX12_nextAsked_45 : dc cX12_nextAsked 45 (.iload_n 1) 1 46 := ⟨by decide +kernel, rfl⟩
theorem dX12_nextAsked_46 : dc cX12_nextAsked 46 (.iload_n 3) 1 47 := ⟨by decide +kernel, rfl⟩
theorem dX12_nextAsked_47 : dc cX12_nextAsked 47 (.iload_n 2) 1 48 := ⟨by decide +kernel, rfl⟩
theorem dX12_nextAsked_48 : dc cX12_nextAsked 48 (.invokevirtual 483) 3 51 := ⟨by decide +kernel, rfl⟩
theorem dX12_nextAsked_51 : dc cX12_nextAsked 51 (.ifCond .eq 5) 3 54 := ⟨by decide +kernel, rfl⟩
theorem dX12_nextAsked_54 : dc cX12_nextAsked 54 (.iload_n 3) 1 55 := ⟨by decide +kernel, rfl⟩
theorem dX12_nextAsked_55 : dc cX12_nextAsked 55 (.istore_n 2) 1 56 := ⟨by decide +kernel, rfl⟩
theorem dX12_nextAsked_56 : dc cX12_nextAsked 56 (.iinc 3 1) 3 59 := ⟨by decide +kernel, rfl⟩
theorem dX12_nextAsked_59 : dc cX12_nextAsked 59 (.goto (-55)) 3 62 := ⟨by decide +kernel, rfl⟩
theorem dX12_nextAsked_62 : dc cX12_nextAsked 62 (.iload_n 2) 1 63 := ⟨by decide +kernel, rfl⟩
theorem dX12_nextAsked_63 : dc cX12_nextAsked 63 (.ireturn) 1 64 := ⟨by decide +kernel, rfl⟩
theorem nm_X12_nextAsked : (yX12_nextAsked).cls ≠ "java/lang/invoke/MethodHandle" ∧ (yX12_nextAsked).cls ≠ "java/lang/invoke/VarHandle" ∧ (parseMethodDescriptor (yX12_nextAsked).desc).map (fun d => d.parameters.length) = some 1 := ⟨by decide +kernel, by decide +kernel, by decide +kernel⟩
set_option maxRecDepth 100000 in
set_option maxHeartbeats 4000000 in
theorem s_X12_nextAsked_4 {ad : Nat → Nat} {cy : Nat → ClassId} {x : KX} (G : KG ad cy x cX12_nextAsked "NoonGuidesModel" 4 (some (some .int)) 2) {a0 : Nat} {c1 : Int32} {M : KM} (h0 : kty a0 = 12) {y : Int32} : ∀ (n : Nat) (w2 : Int32) (w3 : Int32), lp_X12_nextAsked_4 n a0 c1 M w2 w3 = some y → KV ad cy x (some (.int y), M) 4 [(0, .ref (ad a0)), (1, .int c1), (2, .int w2), (3, .int w3)] [] M := by
  intro n
  induction n with
  | zero =>
    intro w2 w3 hf
    cases hf
  | succ n ih =>
    intro w2 w3 hf
    rw [lp_X12_nextAsked_4] at hf
    refine v_iload_n G dX12_nextAsked_4 3 rfl ?_
    refine v_aload_n G dX12_nextAsked_5 0 rfl ?_
    refine gf_12_20 G h0 t_1511 (Or.inl rfl) dX12_nextAsked_6 ?_
    refine v_iconst (2 : Int32) G dX12_nextAsked_9 (by decide) ?_
    obtain ⟨g1, hf⟩ := gd_e hf
    refine al_36 G (kf_12_5 h0) g1 dX12_nextAsked_10 ?_
    refine v_icmp_ge 62 G dX12_nextAsked_11 (by decide) (fun h12 => ?_) (fun h12 => ?_)
    · replace hf := (if_pos h12).symm.trans hf
      refine v_iload_n G dX12_nextAsked_62 2 rfl ?_
      obtain rfl := Option.some.inj hf
      exact v_iret G dX12_nextAsked_63
    · replace hf := (if_neg h12).symm.trans hf
      refine v_aload_n G dX12_nextAsked_14 0 rfl ?_
      refine gf_12_20 G h0 t_1511 (Or.inl rfl) dX12_nextAsked_15 ?_
      refine v_bipush (106 : Int32) G dX12_nextAsked_18 (by decide) ?_
      refine v_iload_n G dX12_nextAsked_20 3 rfl ?_
      refine v_iadd G dX12_nextAsked_21 ?_
      obtain ⟨g2, hf⟩ := gd_e hf
      refine al_36 G (kf_12_5 h0) g2 dX12_nextAsked_22 ?_
      refine v_iconst (1 : Int32) G dX12_nextAsked_23 (by decide) ?_
      obtain ⟨j56, ej56, hf⟩ := lt_j hf
      have hj56 : ∀ (x3 : Int32), j56 x3 = some y → KV ad cy x (some (.int y), M) 56 [(0, .ref (ad a0)), (1, .int c1), (2, .int x3), (3, .int w3)] [] M := by
        intro x3 hf
        rw [ej56] at hf
        obtain ⟨v4, ev4⟩ : ∃ q : Int32, q = w3 + (1 : Int32) := ⟨_, rfl⟩
        replace hf := lt_e hf ev4
        refine v_iinc v4 [(3, .int v4), (0, .ref (ad a0)), (1, .int c1), (2, .int x3)] G dX12_nextAsked_56 3 rfl (by rw [ev4]; rfl) (by decide) rfl ?_
        refine v_goto 4 G dX12_nextAsked_59 (by decide) ?_
        refine v_sub _ [1, 2, 3, 0] rfl ?_
        exact ih x3 v4 hf
      refine v_icmp_ne 56 G dX12_nextAsked_24 (by decide) (fun h11 => ?_) (fun h11 => ?_)
      · replace hf := (if_neg h11).symm.trans hf
        refine v_sub _ [0, 1, 2, 3] rfl ?_
        exact hj56 w2 hf
      · replace hf := (if_pos h11).symm.trans hf
        refine v_aload_n G dX12_nextAsked_27 0 rfl ?_
        refine gf_12_35 G h0 t_1526 (Or.inl rfl) dX12_nextAsked_28 ?_
        refine v_iload_n G dX12_nextAsked_31 1 rfl ?_
        obtain ⟨g5, hf⟩ := gd_e hf
        refine al_28 G (kf_12_14 h0) g5 dX12_nextAsked_32 ?_
        refine v_iload_n G dX12_nextAsked_33 3 rfl ?_
        obtain ⟨v6, hcv6⟩ : ∃ q, f_X12_has (M.1 (a0 + 14) (c1).toNatClampNeg) w3 M = q := ⟨_, rfl⟩
        replace hf := lt_e hf hcv6.symm
        refine v_callS [.int (M.1 (a0 + 14) (c1).toNatClampNeg), .int w3] G (c_X12_has hcv6) t_1740 t_1741 t_17 t_1742 nm_X12_has (by decide) (by decide) rfl rfl (Nat.le_of_ble_eq_true rfl) dX12_nextAsked_34 (kv_ri ?_)
        refine v_if_ne 56 G dX12_nextAsked_37 (by decide) (fun h10 => ?_) (fun h10 => ?_)
        · replace hf := (if_neg h10).symm.trans hf
          refine v_sub _ [0, 1, 2, 3] rfl ?_
          exact hj56 w2 hf
        · replace hf := (if_pos h10).symm.trans hf
          refine v_iload_n G dX12_nextAsked_40 2 rfl ?_
          obtain ⟨j54, ej54, hf⟩ := lt_j hf
          have hj54 : j54 = some y → KV ad cy x (some (.int y), M) 54 [(0, .ref (ad a0)), (1, .int c1), (3, .int w3)] [] M := by
            intro hf
            rw [ej54] at hf
            refine v_iload_n G dX12_nextAsked_54 2 rfl ?_
            refine v_istore_n [(2, .int w3), (0, .ref (ad a0)), (1, .int c1), (3, .int w3)] G dX12_nextAsked_55 (by decide) rfl ?_
            refine v_sub _ [1, 2, 0, 3] rfl ?_
            exact hj56 w3 hf
          refine v_if_lt 54 G dX12_nextAsked_41 (by decide) (fun h9 => ?_) (fun h9 => ?_)
          · replace hf := (if_pos h9).symm.trans hf
            refine v_sub _ [0, 1, 3] rfl ?_
            exact hj54 hf
          · replace hf := (if_neg h9).symm.trans hf
            refine v_aload_n G dX12_nextAsked_44 0 rfl ?_
            refine v_iload_n G dX12_nextAsked_45 1 rfl ?_
            refine v_iload_n G dX12_nextAsked_46 3 rfl ?_
            refine v_iload_n G dX12_nextAsked_47 2 rfl ?_
            obtain ⟨v7, hcv7, hf⟩ := bd_e hf
            refine v_callV [.int c1, .int w3, .int w2] G (c_X12_likes n h0 hcv7) h0 (by decide) rfl rfl rfl t_2217 t_2219 t_p147 t_17 t_2220 nm_X12_likes (by decide) (by decide) rfl rfl (Nat.le_of_ble_eq_true rfl) dX12_nextAsked_48 (kv_ri ?_)
            refine v_if_eq 56 G dX12_nextAsked_51 (by decide) (fun h8 => ?_) (fun h8 => ?_)
            · replace hf := (if_pos h8).symm.trans hf
              refine v_sub _ [0, 1, 2, 3] rfl ?_
              exact hj56 w2 hf
            · replace hf := (if_neg h8).symm.trans hf
              refine v_sub _ [0, 1, 3] rfl ?_
              exact hj54 hf
set_option maxRecDepth 100000 in
set_option maxHeartbeats 4000000 in
theorem c_X12_nextAsked {l : Launch} {ad : Nat → Nat} {cy : Nat → ClassId} {D : va_G} {z : Nat} (n : Nat) {a0 : Nat} {p1 : Int32} {M : KM} {y : Int32} (h0 : kty a0 = 12) (hf : f_X12_nextAsked n a0 p1 M = some y) : KC l ad cy D z yX12_nextAsked cX12_nextAsked 4 (some .int) 2 [.ref (ad a0), .int p1] M (some (.int y), M) := by
  refine kv_enter (by decide +kernel) (Nat.le_of_ble_eq_true rfl) ?_
  intro x hl hD hz G
  subst hl hD hz
  unfold f_X12_nextAsked at hf
  have G : KG ad cy x cX12_nextAsked "NoonGuidesModel" 4 (some (some .int)) 2 := G
  show KV ad cy x (some (.int y), M) 0 [(0, .ref (ad a0)), (1, .int p1)] [] M
  refine v_iconst (-1 : Int32) G dX12_nextAsked_0 (by decide) ?_
  refine v_istore_n [(2, .int (-1 : Int32)), (0, .ref (ad a0)), (1, .int p1)] G dX12_nextAsked_1 (by decide) rfl ?_
  refine v_iconst (0 : Int32) G dX12_nextAsked_2 (by decide) ?_
  refine v_istore_n [(3, .int (0 : Int32)), (2, .int (-1 : Int32)), (0, .ref (ad a0)), (1, .int p1)] G dX12_nextAsked_3 (by decide) rfl ?_
  refine v_sub _ [2, 3, 1, 0] rfl ?_
  refine s_X12_nextAsked_4 G h0 n (-1 : Int32) (0 : Int32) hf
abbrev cX12_asksOn : ByteArray := prog_14_method_147_code
def yX12_asksOn : MethodName := ⟨RX12, "asksOn", "(I)V"⟩
theorem dX12_asksOn_0 : dc cX12_asksOn 0 (.iload_n 1) 1 1 := ⟨by decide +kernel, rfl⟩
theorem dX12_asksOn_1 : dc cX12_asksOn 1 (.istore_n 2) 1 2 := ⟨by decide +kernel, rfl⟩
theorem dX12_asksOn_2 : dc cX12_asksOn 2 (.iload_n 2) 1 3 := ⟨by decide +kernel, rfl⟩
theorem dX12_asksOn_3 : dc cX12_asksOn 3 (.ifCond .lt 86) 3 6 := ⟨by decide +kernel, rfl⟩
theorem dX12_asksOn_6 : dc cX12_asksOn 6 (.aload_n 0) 1 7 := ⟨by decide +kernel, rfl⟩
theorem dX12_asksOn_7 : dc cX12_asksOn 7 (.iload_n 2) 1 8 := ⟨by decide +kernel, rfl⟩
theorem dX12_asksOn_8 : dc cX12_asksOn 8 (.invokevirtual 486) 3 11 := ⟨by decide +kernel, rfl⟩
theorem dX12_asksOn_11 : dc cX12_asksOn 11 (.istore_n 3) 1 12 := ⟨by decide +kernel, rfl⟩
theorem dX12_asksOn_12 : dc cX12_asksOn 12 (.iload_n 3) 1 13 := ⟨by decide +kernel, rfl⟩
theorem dX12_asksOn_13 : dc cX12_asksOn 13 (.ifCond .ge 4) 3 16 := ⟨by decide +kernel, rfl⟩
theorem dX12_asksOn_16 : dc cX12_asksOn 16 (.return_) 1 17 := ⟨by decide +kernel, rfl⟩
theorem dX12_asksOn_17 : dc cX12_asksOn 17 (.aload_n 0) 1 18 := ⟨by decide +kernel, rfl⟩
theorem dX12_asksOn_18 : dc cX12_asksOn 18 (.getfield 62) 3 21 := ⟨by decide +kernel, rfl⟩
theorem dX12_asksOn_21 : dc cX12_asksOn 21 (.iload_n 2) 1 22 := ⟨by decide +kernel, rfl⟩
theorem dX12_asksOn_22 : dc cX12_asksOn 22 (.dup2) 1 23 := ⟨by decide +kernel, rfl⟩
theorem dX12_asksOn_23 : dc cX12_asksOn 23 (.iaload) 1 24 := ⟨by decide +kernel, rfl⟩
theorem dX12_asksOn_24 : dc cX12_asksOn 24 (.iconst 1) 1 25 := ⟨by decide +kernel, rfl⟩
theorem dX12_asksOn_25 : dc cX12_asksOn 25 (.iload_n 3) 1 26 := ⟨by decide +kernel, rfl⟩
theorem dX12_asksOn_26 : dc cX12_asksOn 26 (.ishl) 1 27 := ⟨by decide +kernel, rfl⟩
theorem dX12_asksOn_27 : dc cX12_asksOn 27 (.ior) 1 28 := ⟨by decide +kernel, rfl⟩
theorem dX12_asksOn_28 : dc cX12_asksOn 28 (.iastore) 1 29 := ⟨by decide +kernel, rfl⟩
theorem dX12_asksOn_29 : dc cX12_asksOn 29 (.aload_n 0) 1 30 := ⟨by decide +kernel, rfl⟩
theorem dX12_asksOn_30 : dc cX12_asksOn 30 (.getfield 59) 3 33 := ⟨by decide +kernel, rfl⟩
theorem dX12_asksOn_33 : dc cX12_asksOn 33 (.iload_n 3) 1 34 := ⟨by decide +kernel, rfl⟩
theorem dX12_asksOn_34 : dc cX12_asksOn 34 (.iaload) 1 35 := ⟨by decide +kernel, rfl⟩
theorem dX12_asksOn_35 : dc cX12_asksOn 35 (.istore 4) 2 37 := ⟨by decide +kernel, rfl⟩
theorem dX12_asksOn_37 : dc cX12_asksOn 37 (.iload 4) 2 39 := ⟨by decide +kernel, rfl⟩
theorem dX12_asksOn_39 : dc cX12_asksOn 39 (.ifCond .lt 17) 3 42 := ⟨by decide +kernel, rfl⟩
theorem dX12_asksOn_42 : dc cX12_asksOn 42 (.aload_n 0) 1 43 := ⟨by decide +kernel, rfl⟩
theorem dX12_asksOn_43 : dc cX12_asksOn 43 (.iload_n 3) 1 44 := ⟨by decide +kernel, rfl⟩
theorem dX12_asksOn_44 : dc cX12_asksOn 44 (.iload_n 2) 1 45 := ⟨by decide +kernel, rfl⟩
theorem dX12_asksOn_45 : dc cX12_asksOn 45 (.iload 4) 2 47 := ⟨by decide +kernel, rfl⟩
theorem dX12_asksOn_47 : dc cX12_asksOn 47 (.invokevirtual 483) 3 50 := ⟨by decide +kernel, rfl⟩
theorem dX12_asksOn_50 : dc cX12_asksOn 50 (.ifCond .ne 6) 3 53 := ⟨by decide +kernel, rfl⟩
theorem dX12_asksOn_53 : dc cX12_asksOn 53 (.goto (-51)) 3 56 := ⟨by decide +kernel, rfl⟩
theorem dX12_asksOn_56 : dc cX12_asksOn 56 (.aload_n 0) 1 57 := ⟨by decide +kernel, rfl⟩
theorem dX12_asksOn_57 : dc cX12_asksOn 57 (.getfield 59) 3 60 := ⟨by decide +kernel, rfl⟩
theorem dX12_asksOn_60 : dc cX12_asksOn 60 (.iload_n 3) 1 61 := ⟨by decide +kernel, rfl⟩
theorem dX12_asksOn_61 : dc cX12_asksOn 61 (.iload_n 2) 1 62 := ⟨by decide +kernel, rfl⟩
theorem dX12_asksOn_62 : dc cX12_asksOn 62 (.iastore) 1 63 := ⟨by decide +kernel, rfl⟩
theorem dX12_asksOn_63 : dc cX12_asksOn 63 (.aload_n 0) 1 64 := ⟨by decide +kernel, rfl⟩
theorem dX12_asksOn_64 : dc cX12_asksOn 64 (.getfield 59) 3 67 := ⟨by decide +kernel, rfl⟩
theorem dX12_asksOn_67 : dc cX12_asksOn 67 (.iload_n 2) 1 68 := ⟨by decide +kernel, rfl⟩
theorem dX12_asksOn_68 : dc cX12_asksOn 68 (.iload_n 3) 1 69 := ⟨by decide +kernel, rfl⟩
theorem dX12_asksOn_69 : dc cX12_asksOn 69 (.iastore) 1 70 := ⟨by decide +kernel, rfl⟩
theorem dX12_asksOn_70 : dc cX12_asksOn 70 (.iload 4) 2 72 := ⟨by decide +kernel, rfl⟩
theorem dX12_asksOn_72 : dc cX12_asksOn 72 (.ifCond .lt 11) 3 75 := ⟨by decide +kernel, rfl⟩
theorem dX12_asksOn_75 : dc cX12_asksOn 75 (.aload_n 0) 1 76 := ⟨by decide +kernel, rfl⟩
theorem dX12_asksOn_76 : dc cX12_asksOn 76 (.getfield 59) 3 79 := ⟨by decide +kernel, rfl⟩
theorem dX12_asksOn_79 : dc cX12_asksOn 79 (.iload 4) 2 81 := ⟨by decide +kernel, rfl⟩
theorem dX12_asksOn_81 : dc cX12_asksOn 81 (.iconst (-1)) 1 82 := ⟨by decide +kernel, rfl⟩
theorem dX12_asksOn_82 : dc cX12_asksOn 82 (.iastore) 1 83 := ⟨by decide +kernel, rfl⟩
theorem dX12_asksOn_83 : dc cX12_asksOn 83 (.iload 4) 2 85 := ⟨by decide +kernel, rfl⟩
theorem dX12_asksOn_85 : dc cX12_asksOn 85 (.istore_n 2) 1 86 := ⟨by decide +kernel, rfl⟩
theorem dX12_asksOn_86 : dc cX12_asksOn 86 (.goto (-84)) 3 89 := ⟨by decide +kernel, rfl⟩
theorem dX12_asksOn_89 : dc cX12_asksOn 89 (.return_) 1 90 := ⟨by decide +kernel, rfl⟩
theorem nm_X12_asksOn : (yX12_asksOn).cls ≠ "java/lang/invoke/MethodHandle" ∧ (yX12_asksOn).cls ≠ "java/lang/invoke/VarHandle" ∧ (parseMethodDescriptor (yX12_asksOn).desc).map (fun d => d.parameters.length) = some 1 := ⟨by decide +kernel, by decide +kernel, by decide +kernel⟩
set_option maxRecDepth 100000 in
set_option maxHeartbeats 4000000 in
theorem s_X12_asksOn_2 {ad : Nat → Nat} {cy : Nat → ClassId} {x : KX} (G : KG ad cy x cX12_asksOn "NoonGuidesModel" 5 (some none) 3) {a0 : Nat} (h0 : kty a0 = 12) {y : KM} : ∀ (n : Nat) (w2 : Int32) (M : KM), lp_X12_asksOn_2 n a0 w2 M = some y → KV ad cy x (none, y) 2 [(0, .ref (ad a0)), (2, .int w2)] [] M := by
  intro n
  induction n with
  | zero =>
    intro w2 M hf
    cases hf
  | succ n ih =>
    intro w2 M hf
    rw [lp_X12_asksOn_2] at hf
    refine v_iload_n G dX12_asksOn_2 1 rfl ?_
    refine v_if_lt 89 G dX12_asksOn_3 (by decide) (fun h19 => ?_) (fun h19 => ?_)
    · replace hf := (if_pos h19).symm.trans hf
      obtain rfl := Option.some.inj hf
      exact v_vret G dX12_asksOn_89
    · replace hf := (if_neg h19).symm.trans hf
      refine v_aload_n G dX12_asksOn_6 0 rfl ?_
      refine v_iload_n G dX12_asksOn_7 1 rfl ?_
      obtain ⟨v1, hcv1, hf⟩ := bd_e hf
      refine v_callV [.int w2] G (c_X12_nextAsked n h0 hcv1) h0 (by decide) rfl rfl rfl t_2213 t_2215 t_p146 t_17 t_2216 nm_X12_nextAsked (by decide) (by decide) rfl rfl (Nat.le_of_ble_eq_true rfl) dX12_asksOn_8 (kv_ri ?_)
      refine v_istore_n [(3, .int v1), (0, .ref (ad a0)), (2, .int w2)] G dX12_asksOn_11 (by decide) rfl ?_
      refine v_iload_n G dX12_asksOn_12 0 rfl ?_
      refine v_if_ge 17 G dX12_asksOn_13 (by decide) (fun h18 => ?_) (fun h18 => ?_)
      · replace hf := (if_pos h18).symm.trans hf
        refine v_aload_n G dX12_asksOn_17 1 rfl ?_
        refine gf_12_35 G h0 t_1526 (Or.inl rfl) dX12_asksOn_18 ?_
        refine v_iload_n G dX12_asksOn_21 2 rfl ?_
        refine v_dup2 G dX12_asksOn_22 rfl rfl ?_
        obtain ⟨g2, hf⟩ := gd_e hf
        refine al_28 G (kf_12_14 h0) g2 dX12_asksOn_23 ?_
        refine v_iconst (1 : Int32) G dX12_asksOn_24 (by decide) ?_
        refine v_iload_n G dX12_asksOn_25 0 rfl ?_
        refine v_ishl G dX12_asksOn_26 ?_
        refine v_ior G dX12_asksOn_27 ?_
        obtain ⟨g3, hf⟩ := gd_e hf
        refine as_28 G (kf_12_14 h0) g3 dX12_asksOn_28 ?_
        refine v_nmM (fun M4 eM4 => ?_)
        replace hf := lt_e hf eM4
        refine v_aload_n G dX12_asksOn_29 1 rfl ?_
        refine gf_12_34 G h0 t_1525 (Or.inl rfl) dX12_asksOn_30 ?_
        refine v_iload_n G dX12_asksOn_33 0 rfl ?_
        obtain ⟨g5, hf⟩ := gd_e hf
        refine al_28 G (kf_12_13 h0) g5 dX12_asksOn_34 ?_
        refine v_nmi (fun v6 ev6 => ?_)
        replace hf := lt_e hf ev6
        refine v_istore [(4, .int v6), (3, .int v1), (0, .ref (ad a0)), (2, .int w2)] G dX12_asksOn_35 (by decide) rfl ?_
        refine v_iload G dX12_asksOn_37 0 rfl ?_
        obtain ⟨j56, ej56, hf⟩ := lt_j hf
        have hj56 : j56 = some y → KV ad cy x (none, y) 56 [(0, .ref (ad a0)), (2, .int w2), (3, .int v1), (4, .int v6)] [] M4 := by
          intro hf
          rw [ej56] at hf
          refine v_aload_n G dX12_asksOn_56 0 rfl ?_
          refine gf_12_34 G h0 t_1525 (Or.inl rfl) dX12_asksOn_57 ?_
          refine v_iload_n G dX12_asksOn_60 2 rfl ?_
          refine v_iload_n G dX12_asksOn_61 1 rfl ?_
          obtain ⟨g7, hf⟩ := gd_e hf
          refine as_28 G (kf_12_13 h0) g7 dX12_asksOn_62 ?_
          refine v_nmM (fun M8 eM8 => ?_)
          replace hf := lt_e hf eM8
          refine v_aload_n G dX12_asksOn_63 0 rfl ?_
          refine gf_12_34 G h0 t_1525 (Or.inl rfl) dX12_asksOn_64 ?_
          refine v_iload_n G dX12_asksOn_67 1 rfl ?_
          refine v_iload_n G dX12_asksOn_68 2 rfl ?_
          obtain ⟨g9, hf⟩ := gd_e hf
          refine as_28 G (kf_12_13 h0) g9 dX12_asksOn_69 ?_
          refine v_nmM (fun M10 eM10 => ?_)
          replace hf := lt_e hf eM10
          refine v_iload G dX12_asksOn_70 3 rfl ?_
          obtain ⟨j83, ej83, hf⟩ := lt_j hf
          have hj83 : ∀ (M11 : KM), j83 M11 = some y → KV ad cy x (none, y) 83 [(0, .ref (ad a0)), (4, .int v6)] [] M11 := by
            intro M11 hf
            rw [ej83] at hf
            refine v_iload G dX12_asksOn_83 1 rfl ?_
            refine v_istore_n [(2, .int v6), (0, .ref (ad a0)), (4, .int v6)] G dX12_asksOn_85 (by decide) rfl ?_
            refine v_goto 2 G dX12_asksOn_86 (by decide) ?_
            refine v_sub _ [1, 0] rfl ?_
            exact ih v6 M11 hf
          refine v_if_lt 83 G dX12_asksOn_72 (by decide) (fun h14 => ?_) (fun h14 => ?_)
          · replace hf := (if_pos h14).symm.trans hf
            refine v_sub _ [0, 3] rfl ?_
            exact hj83 M10 hf
          · replace hf := (if_neg h14).symm.trans hf
            refine v_aload_n G dX12_asksOn_75 0 rfl ?_
            refine gf_12_34 G h0 t_1525 (Or.inl rfl) dX12_asksOn_76 ?_
            refine v_iload G dX12_asksOn_79 3 rfl ?_
            refine v_iconst (-1 : Int32) G dX12_asksOn_81 (by decide) ?_
            obtain ⟨g12, hf⟩ := gd_e hf
            refine as_28 G (kf_12_13 h0) g12 dX12_asksOn_82 ?_
            refine v_nmM (fun M13 eM13 => ?_)
            replace hf := lt_e hf eM13
            refine v_sub _ [0, 3] rfl ?_
            exact hj83 M13 hf
        refine v_if_lt 56 G dX12_asksOn_39 (by decide) (fun h17 => ?_) (fun h17 => ?_)
        · replace hf := (if_pos h17).symm.trans hf
          refine v_sub _ [2, 3, 1, 0] rfl ?_
          exact hj56 hf
        · replace hf := (if_neg h17).symm.trans hf
          refine v_aload_n G dX12_asksOn_42 2 rfl ?_
          refine v_iload_n G dX12_asksOn_43 1 rfl ?_
          refine v_iload_n G dX12_asksOn_44 3 rfl ?_
          refine v_iload G dX12_asksOn_45 0 rfl ?_
          obtain ⟨v15, hcv15, hf⟩ := bd_e hf
          refine v_callV [.int v1, .int w2, .int v6] G (c_X12_likes n h0 hcv15) h0 (by decide) rfl rfl rfl t_2217 t_2219 t_p147 t_17 t_2220 nm_X12_likes (by decide) (by decide) rfl rfl (Nat.le_of_ble_eq_true rfl) dX12_asksOn_47 (kv_ri ?_)
          refine v_if_ne 56 G dX12_asksOn_50 (by decide) (fun h16 => ?_) (fun h16 => ?_)
          · replace hf := (if_neg h16).symm.trans hf
            refine v_sub _ [2, 3, 1, 0] rfl ?_
            exact hj56 hf
          · replace hf := (if_pos h16).symm.trans hf
            refine v_goto 2 G dX12_asksOn_53 (by decide) ?_
            refine v_sub _ [2, 3] rfl ?_
            exact ih w2 M4 hf
      · replace hf := (if_neg h18).symm.trans hf
        obtain rfl := Option.some.inj hf
        exact v_vret G dX12_asksOn_16
set_option maxRecDepth 100000 in
set_option maxHeartbeats 4000000 in
theorem c_X12_asksOn {l : Launch} {ad : Nat → Nat} {cy : Nat → ClassId} {D : va_G} {z : Nat} (n : Nat) {a0 : Nat} {p1 : Int32} {M : KM} {y : KM} (h0 : kty a0 = 12) (hf : f_X12_asksOn n a0 p1 M = some y) : KC l ad cy D z yX12_asksOn cX12_asksOn 5 none 3 [.ref (ad a0), .int p1] M (none, y) := by
  refine kv_enter (by decide +kernel) (Nat.le_of_ble_eq_true rfl) ?_
  intro x hl hD hz G
  subst hl hD hz
  unfold f_X12_asksOn at hf
  have G : KG ad cy x cX12_asksOn "NoonGuidesModel" 5 (some none) 3 := G
  show KV ad cy x (none, y) 0 [(0, .ref (ad a0)), (1, .int p1)] [] M
  refine v_iload_n G dX12_asksOn_0 1 rfl ?_
  refine v_istore_n [(2, .int p1), (0, .ref (ad a0)), (1, .int p1)] G dX12_asksOn_1 (by decide) rfl ?_
  refine v_sub _ [1, 0] rfl ?_
  refine s_X12_asksOn_2 G h0 n p1 M hf
abbrev cX12_laysPairs : ByteArray := prog_14_method_148_code
def yX12_laysPairs : MethodName := ⟨RX12, "laysPairs", "()V"⟩
theorem dX12_laysPairs_0 : dc cX12_laysPairs 0 (.iconst 0) 1 1 := ⟨by decide +kernel, rfl⟩
theorem dX12_laysPairs_1 : dc cX12_laysPairs 1 (.istore_n 1) 1 2 := ⟨by decide +kernel, rfl⟩
theorem dX12_laysPairs_2 : dc cX12_laysPairs 2 (.iload_n 1) 1 3 := ⟨by decide +kernel, rfl⟩
theorem dX12_laysPairs_3 : dc cX12_laysPairs 3 (.bipush 8) 2 5 := ⟨by decide +kernel, rfl⟩
theorem dX12_laysPairs_5 : dc cX12_laysPairs 5 (.if_icmp .ge 23) 3 8 := ⟨by decide +kernel, rfl⟩
theorem dX12_laysPairs_8 : dc cX12_laysPairs 8 (.aload_n 0) 1 9 := ⟨by decide +kernel, rfl⟩
theorem dX12_laysPairs_9 : dc cX12_laysPairs 9 (.getfield 59) 3 12 := ⟨by decide +kernel, rfl⟩
theorem dX12_laysPairs_12 : dc cX12_laysPairs 12 (.iload_n 1) 1 13 := ⟨by decide +kernel, rfl⟩
theorem dX12_laysPairs_13 : dc cX12_laysPairs 13 (.iconst (-1)) 1 14 := ⟨by decide +kernel, rfl⟩
theorem dX12_laysPairs_14 : dc cX12_laysPairs 14 (.iastore) 1 15 := ⟨by decide +kernel, rfl⟩
theorem dX12_laysPairs_15 : dc cX12_laysPairs 15 (.aload_n 0) 1 16 := ⟨by decide +kernel, rfl⟩
theorem dX12_laysPairs_16 : dc cX12_laysPairs 16 (.getfield 62) 3 19 := ⟨by decide +kernel, rfl⟩
theorem dX12_laysPairs_19 : dc cX12_laysPairs 19 (.iload_n 1) 1 20 := ⟨by decide +kernel, rfl⟩
theorem dX12_laysPairs_20 : dc cX12_laysPairs 20 (.iconst 0) 1 21 := ⟨by decide +kernel, rfl⟩
theorem dX12_laysPairs_21 : dc cX12_laysPairs 21 (.iastore) 1 22 := ⟨by decide +kernel, rfl⟩
theorem dX12_laysPairs_22 : dc cX12_laysPairs 22 (.iinc 1 1) 3 25 := ⟨by decide +kernel, rfl⟩
theorem dX12_laysPairs_25 : dc cX12_laysPairs 25 (.goto (-23)) 3 28 := ⟨by decide +kernel, rfl⟩
theorem dX12_laysPairs_28 : dc cX12_laysPairs 28 (.iconst 0) 1 29 := ⟨by decide +kernel, rfl⟩
theorem dX12_laysPairs_29 : dc cX12_laysPairs 29 (.istore_n 1) 1 30 := ⟨by decide +kernel, rfl⟩
theorem dX12_laysPairs_30 : dc cX12_laysPairs 30 (.iload_n 1) 1 31 := ⟨by decide +kernel, rfl⟩
theorem dX12_laysPairs_31 : dc cX12_laysPairs 31 (.aload_n 0) 1 32 := ⟨by decide +kernel, rfl⟩
theorem dX12_laysPairs_32 : dc cX12_laysPairs 32 (.getfield 35) 3 35 := ⟨by decide +kernel, rfl⟩
theorem dX12_laysPairs_35 : dc cX12_laysPairs 35 (.iconst 2) 1 36 := ⟨by decide +kernel, rfl⟩
theorem dX12_laysPairs_36 : dc cX12_laysPairs 36 (.iaload) 1 37 := ⟨by decide +kernel, rfl⟩
theorem dX12_laysPairs_37 : dc cX12_laysPairs 37 (.if_icmp .ge 26) 3 40 := ⟨by decide +kernel, rfl⟩
theorem dX12_laysPairs_40 : dc cX12_laysPairs 40 (.aload_n 0) 1 41 := ⟨by decide +kernel, rfl⟩
theorem dX12_laysPairs_41 : dc cX12_laysPairs 41 (.getfield 35) 3 44 := ⟨by decide +kernel, rfl⟩
theorem dX12_laysPairs_44 : dc cX12_laysPairs 44 (.bipush 106) 2 46 := ⟨by decide +kernel, rfl⟩
theorem dX12_laysPairs_46 : dc cX12_laysPairs 46 (.iload_n 1) 1 47 := ⟨by decide +kernel, rfl⟩
theorem dX12_laysPairs_47 : dc cX12_laysPairs 47 (.iadd) 1 48 := ⟨by decide +kernel, rfl⟩
theorem dX12_laysPairs_48 : dc cX12_laysPairs 48 (.iaload) 1 49 := ⟨by decide +kernel, rfl⟩
theorem dX12_laysPairs_49 : dc cX12_laysPairs 49 (.ifCond .ne 8) 3 52 := ⟨by decide +kernel, rfl⟩
theorem dX12_laysPairs_52 : dc cX12_laysPairs 52 (.aload_n 0) 1 53 := ⟨by decide +kernel, rfl⟩
theorem dX12_laysPairs_53 : dc cX12_laysPairs 53 (.iload_n 1) 1 54 := ⟨by decide +kernel, rfl⟩
theorem dX12_laysPairs_54 : dc cX12_laysPairs 54 (.invokevirtual 489) 3 57 := ⟨by decide +kernel, rfl⟩
theorem dX12_laysPairs_57 : dc cX12_laysPairs 57 (.iinc 1 1) 3 60 := ⟨by decide +kernel, rfl⟩
theorem dX12_laysPairs_60 : dc cX12_laysPairs 60 (.goto (-30)) 3 63 := ⟨by decide +kernel, rfl⟩
theorem dX12_laysPairs_63 : dc cX12_laysPairs 63 (.return_) 1 64 := ⟨by decide +kernel, rfl⟩
theorem nm_X12_laysPairs : (yX12_laysPairs).cls ≠ "java/lang/invoke/MethodHandle" ∧ (yX12_laysPairs).cls ≠ "java/lang/invoke/VarHandle" ∧ (parseMethodDescriptor (yX12_laysPairs).desc).map (fun d => d.parameters.length) = some 0 := ⟨by decide +kernel, by decide +kernel, by decide +kernel⟩
set_option maxRecDepth 100000 in
set_option maxHeartbeats 4000000 in
theorem s_X12_laysPairs_2 {ad : Nat → Nat} {cy : Nat → ClassId} {x : KX} (G : KG ad cy x cX12_laysPairs "NoonGuidesModel" 2 (some none) 4) {a0 : Nat} (h0 : kty a0 = 12) {k28 : KM → Option KM} {y : KM} (hk28 : ∀ (M : KM), k28 M = some y → KV ad cy x (none, y) 28 [(0, .ref (ad a0))] [] M) : ∀ (n : Nat) (w1 : Int32) (M : KM), lp_X12_laysPairs_2 n a0 w1 M k28 = some y → KV ad cy x (none, y) 2 [(0, .ref (ad a0)), (1, .int w1)] [] M := by
  intro n
  induction n with
  | zero =>
    intro w1 M hf
    cases hf
  | succ n ih =>
    intro w1 M hf
    rw [lp_X12_laysPairs_2] at hf
    refine v_iload_n G dX12_laysPairs_2 1 rfl ?_
    refine v_bipush (8 : Int32) G dX12_laysPairs_3 (by decide) ?_
    refine v_icmp_ge 28 G dX12_laysPairs_5 (by decide) (fun h6 => ?_) (fun h6 => ?_)
    · replace hf := (if_pos h6).symm.trans hf
      refine v_sub _ [0] rfl ?_
      exact hk28 M hf
    · replace hf := (if_neg h6).symm.trans hf
      refine v_aload_n G dX12_laysPairs_8 0 rfl ?_
      refine gf_12_34 G h0 t_1525 (Or.inl rfl) dX12_laysPairs_9 ?_
      refine v_iload_n G dX12_laysPairs_12 1 rfl ?_
      refine v_iconst (-1 : Int32) G dX12_laysPairs_13 (by decide) ?_
      obtain ⟨g1, hf⟩ := gd_e hf
      refine as_28 G (kf_12_13 h0) g1 dX12_laysPairs_14 ?_
      refine v_nmM (fun M2 eM2 => ?_)
      replace hf := lt_e hf eM2
      refine v_aload_n G dX12_laysPairs_15 0 rfl ?_
      refine gf_12_35 G h0 t_1526 (Or.inl rfl) dX12_laysPairs_16 ?_
      refine v_iload_n G dX12_laysPairs_19 1 rfl ?_
      refine v_iconst (0 : Int32) G dX12_laysPairs_20 (by decide) ?_
      obtain ⟨g3, hf⟩ := gd_e hf
      refine as_28 G (kf_12_14 h0) g3 dX12_laysPairs_21 ?_
      refine v_nmM (fun M4 eM4 => ?_)
      replace hf := lt_e hf eM4
      obtain ⟨v5, ev5⟩ : ∃ q : Int32, q = w1 + (1 : Int32) := ⟨_, rfl⟩
      replace hf := lt_e hf ev5
      refine v_iinc v5 [(1, .int v5), (0, .ref (ad a0))] G dX12_laysPairs_22 1 rfl (by rw [ev5]; rfl) (by decide) rfl ?_
      refine v_goto 2 G dX12_laysPairs_25 (by decide) ?_
      refine v_sub _ [1, 0] rfl ?_
      exact ih v5 M4 hf
set_option maxRecDepth 100000 in
set_option maxHeartbeats 4000000 in
theorem s_X12_laysPairs_30 {ad : Nat → Nat} {cy : Nat → ClassId} {x : KX} (G : KG ad cy x cX12_laysPairs "NoonGuidesModel" 2 (some none) 4) {a0 : Nat} (h0 : kty a0 = 12) {y : KM} : ∀ (n : Nat) (w1 : Int32) (M : KM), lp_X12_laysPairs_30 n a0 w1 M = some y → KV ad cy x (none, y) 30 [(0, .ref (ad a0)), (1, .int w1)] [] M := by
  intro n
  induction n with
  | zero =>
    intro w1 M hf
    cases hf
  | succ n ih =>
    intro w1 M hf
    rw [lp_X12_laysPairs_30] at hf
    refine v_iload_n G dX12_laysPairs_30 1 rfl ?_
    refine v_aload_n G dX12_laysPairs_31 0 rfl ?_
    refine gf_12_20 G h0 t_1511 (Or.inl rfl) dX12_laysPairs_32 ?_
    refine v_iconst (2 : Int32) G dX12_laysPairs_35 (by decide) ?_
    obtain ⟨g8, hf⟩ := gd_e hf
    refine al_36 G (kf_12_5 h0) g8 dX12_laysPairs_36 ?_
    refine v_icmp_ge 63 G dX12_laysPairs_37 (by decide) (fun h14 => ?_) (fun h14 => ?_)
    · replace hf := (if_pos h14).symm.trans hf
      obtain rfl := Option.some.inj hf
      exact v_vret G dX12_laysPairs_63
    · replace hf := (if_neg h14).symm.trans hf
      refine v_aload_n G dX12_laysPairs_40 0 rfl ?_
      refine gf_12_20 G h0 t_1511 (Or.inl rfl) dX12_laysPairs_41 ?_
      refine v_bipush (106 : Int32) G dX12_laysPairs_44 (by decide) ?_
      refine v_iload_n G dX12_laysPairs_46 1 rfl ?_
      refine v_iadd G dX12_laysPairs_47 ?_
      obtain ⟨g9, hf⟩ := gd_e hf
      refine al_36 G (kf_12_5 h0) g9 dX12_laysPairs_48 ?_
      obtain ⟨j57, ej57, hf⟩ := lt_j hf
      have hj57 : ∀ (M10 : KM), j57 M10 = some y → KV ad cy x (none, y) 57 [(0, .ref (ad a0)), (1, .int w1)] [] M10 := by
        intro M10 hf
        rw [ej57] at hf
        obtain ⟨v11, ev11⟩ : ∃ q : Int32, q = w1 + (1 : Int32) := ⟨_, rfl⟩
        replace hf := lt_e hf ev11
        refine v_iinc v11 [(1, .int v11), (0, .ref (ad a0))] G dX12_laysPairs_57 1 rfl (by rw [ev11]; rfl) (by decide) rfl ?_
        refine v_goto 30 G dX12_laysPairs_60 (by decide) ?_
        refine v_sub _ [1, 0] rfl ?_
        exact ih v11 M10 hf
      refine v_if_ne 57 G dX12_laysPairs_49 (by decide) (fun h13 => ?_) (fun h13 => ?_)
      · replace hf := (if_neg h13).symm.trans hf
        refine v_sub _ [0, 1] rfl ?_
        exact hj57 M hf
      · replace hf := (if_pos h13).symm.trans hf
        refine v_aload_n G dX12_laysPairs_52 0 rfl ?_
        refine v_iload_n G dX12_laysPairs_53 1 rfl ?_
        obtain ⟨v12, hcv12, hf⟩ := bd_e hf
        refine v_callV [.int w1] G (c_X12_asksOn n h0 hcv12) h0 (by decide) rfl rfl rfl t_2209 t_2211 t_p145 t_17 t_2212 nm_X12_asksOn (by decide) (by decide) rfl rfl (Nat.le_of_ble_eq_true rfl) dX12_laysPairs_54 (kv_rv ?_)
        refine v_sub _ [0, 1] rfl ?_
        exact hj57 v12 hf
set_option maxRecDepth 100000 in
set_option maxHeartbeats 4000000 in
theorem c_X12_laysPairs {l : Launch} {ad : Nat → Nat} {cy : Nat → ClassId} {D : va_G} {z : Nat} (n : Nat) {a0 : Nat} {M : KM} {y : KM} (h0 : kty a0 = 12) (hf : f_X12_laysPairs n a0 M = some y) : KC l ad cy D z yX12_laysPairs cX12_laysPairs 2 none 4 [.ref (ad a0)] M (none, y) := by
  refine kv_enter (by decide +kernel) (Nat.le_of_ble_eq_true rfl) ?_
  intro x hl hD hz G
  subst hl hD hz
  unfold f_X12_laysPairs at hf
  have G : KG ad cy x cX12_laysPairs "NoonGuidesModel" 2 (some none) 4 := G
  show KV ad cy x (none, y) 0 [(0, .ref (ad a0))] [] M
  refine v_iconst (0 : Int32) G dX12_laysPairs_0 (by decide) ?_
  refine v_istore_n [(1, .int (0 : Int32)), (0, .ref (ad a0))] G dX12_laysPairs_1 (by decide) rfl ?_
  refine v_sub _ [1, 0] rfl ?_
  refine s_X12_laysPairs_2 G h0 (fun M7 hf => ?_) n (0 : Int32) M hf
  · refine v_iconst (0 : Int32) G dX12_laysPairs_28 (by decide) ?_
    refine v_istore_n [(1, .int (0 : Int32)), (0, .ref (ad a0))] G dX12_laysPairs_29 (by decide) rfl ?_
    refine v_sub _ [1, 0] rfl ?_
    refine s_X12_laysPairs_30 G h0 n (0 : Int32) M7 hf
abbrev cX12_pair : ByteArray := prog_14_method_149_code
def yX12_pair : MethodName := ⟨RX12, "pair", "(I)I"⟩
theorem dX12_pair_0 : dc cX12_pair 0 (.aload_n 0) 1 1 := ⟨by decide +kernel, rfl⟩
theorem dX12_pair_1 : dc cX12_pair 1 (.iconst 0) 1 2 := ⟨by decide +kernel, rfl⟩
theorem dX12_pair_2 : dc cX12_pair 2 (.putfield 75) 3 5 := ⟨by decide +kernel, rfl⟩
theorem dX12_pair_5 : dc cX12_pair 5 (.aload_n 0) 1 6 := ⟨by decide +kernel, rfl⟩
theorem dX12_pair_6 : dc cX12_pair 6 (.iconst 0) 1 7 := ⟨by decide +kernel, rfl⟩
theorem dX12_pair_7 : dc cX12_pair 7 (.putfield 78) 3 10 := ⟨by decide +kernel, rfl⟩
theorem dX12_pair_10 : dc cX12_pair 10 (.aload_n 0) 1 11 := ⟨by decide +kernel, rfl⟩
theorem dX12_pair_11 : dc cX12_pair 11 (.iload_n 1) 1 12 := ⟨by decide +kernel, rfl⟩
theorem dX12_pair_12 : dc cX12_pair 12 (.invokevirtual 373) 3 15 := ⟨by decide +kernel, rfl⟩
theorem dX12_pair_15 : dc cX12_pair 15 (.ifCond .ne 9) 3 18 := ⟨by decide +kernel, rfl⟩
theorem dX12_pair_18 : dc cX12_pair 18 (.aload_n 0) 1 19 := ⟨by decide +kernel, rfl⟩
theorem dX12_pair_19 : dc cX12_pair 19 (.iconst 2) 1 20 := ⟨by decide +kernel, rfl⟩
theorem dX12_pair_20 : dc cX12_pair 20 (.invokevirtual 355) 3 23 := ⟨by decide +kernel, rfl⟩
theorem dX12_pair_23 : dc cX12_pair 23 (.ireturn) 1 24 := ⟨by decide +kernel, rfl⟩
theorem dX12_pair_24 : dc cX12_pair 24 (.aload_n 0) 1 25 := ⟨by decide +kernel, rfl⟩
theorem dX12_pair_25 : dc cX12_pair 25 (.invokevirtual 492) 3 28 := ⟨by decide +kernel, rfl⟩
theorem dX12_pair_28 : dc cX12_pair 28 (.aload_n 0) 1 29 := ⟨by decide +kernel, rfl⟩
theorem dX12_pair_29 : dc cX12_pair 29 (.getfield 59) 3 32 := ⟨by decide +kernel, rfl⟩
theorem dX12_pair_32 : dc cX12_pair 32 (.iload_n 1) 1 33 := ⟨by decide +kernel, rfl⟩
theorem dX12_pair_33 : dc cX12_pair 33 (.iaload) 1 34 := ⟨by decide +kernel, rfl⟩
theorem dX12_pair_34 : dc cX12_pair 34 (.ifCond .ge 12) 3 37 := ⟨by decide +kernel, rfl⟩
theorem dX12_pair_37 : dc cX12_pair 37 (.aload_n 0) 1 38 := ⟨by decide +kernel, rfl⟩
theorem dX12_pair_38 : dc cX12_pair 38 (.bipush 8) 2 40 := ⟨by decide +kernel, rfl⟩
theorem dX12_pair_40 : dc cX12_pair 40 (.invokevirtual 355) 3 43 := ⟨by decide +kernel, rfl⟩
theorem dX12_pair_43 : dc cX12_pair 43 (.goto 9) 3 46 := ⟨by decide +kernel, rfl⟩
theorem dX12_pair_46 : dc cX12_pair 46 (.aload_n 0) 1 47 := ⟨by decide +kernel, rfl⟩
theorem dX12_pair_47 : dc cX12_pair 47 (.getfield 59) 3 50 := ⟨by decide +kernel, rfl⟩
theorem dX12_pair_50 : dc cX12_pair 50 (.iload_n 1) 1 51 := ⟨by decide +kernel, rfl⟩
theorem dX12_pair_51 : dc cX12_pair 51 (.iaload) 1 52 := ⟨by decide +kernel, rfl⟩
theorem dX12_pair_52 : dc cX12_pair 52 (.ireturn) 1 53 := ⟨by decide +kernel, rfl⟩
theorem nm_X12_pair : (yX12_pair).cls ≠ "java/lang/invoke/MethodHandle" ∧ (yX12_pair).cls ≠ "java/lang/invoke/VarHandle" ∧ (parseMethodDescriptor (yX12_pair).desc).map (fun d => d.parameters.length) = some 1 := ⟨by decide +kernel, by decide +kernel, by decide +kernel⟩
set_option maxRecDepth 100000 in
set_option maxHeartbeats 4000000 in
theorem c_X12_pair {l : Launch} {ad : Nat → Nat} {cy : Nat → ClassId} {D : va_G} {z : Nat} (n : Nat) {a0 : Nat} {p1 : Int32} {M : KM} {y : (Int32 × KM)} (h0 : kty a0 = 12) (hf : f_X12_pair n a0 p1 M = some y) : KC l ad cy D z yX12_pair cX12_pair 2 (some .int) 5 [.ref (ad a0), .int p1] M (some (.int y.1), y.2) := by
  refine kv_enter (by decide +kernel) (Nat.le_of_ble_eq_true rfl) ?_
  intro x hl hD hz G
  subst hl hD hz
  unfold f_X12_pair at hf
  have G : KG ad cy x cX12_pair "NoonGuidesModel" 2 (some (some .int)) 5 := G
  show KV ad cy x (some (.int y.1), y.2) 0 [(0, .ref (ad a0)), (1, .int p1)] [] M
  refine v_aload_n G dX12_pair_0 0 rfl ?_
  refine v_iconst (0 : Int32) G dX12_pair_1 (by decide) ?_
  refine pf_12_1 G h0 t_1492 (Or.inl rfl) dX12_pair_2 ?_
  refine v_nmM (fun M1 eM1 => ?_)
  replace hf := lt_e hf eM1
  refine v_aload_n G dX12_pair_5 0 rfl ?_
  refine v_iconst (0 : Int32) G dX12_pair_6 (by decide) ?_
  refine pf_12_0 G h0 t_1491 (Or.inl rfl) dX12_pair_7 ?_
  refine v_nmM (fun M2 eM2 => ?_)
  replace hf := lt_e hf eM2
  refine v_aload_n G dX12_pair_10 0 rfl ?_
  refine v_iload_n G dX12_pair_11 1 rfl ?_
  obtain ⟨v3, hcv3, hf⟩ := bd_e hf
  refine v_callV [.int p1] G (c_X12_isPerson n h0 hcv3) h0 (by decide) rfl rfl rfl t_1971 t_1973 t_p118 t_17 t_1974 nm_X12_isPerson (by decide) (by decide) rfl rfl (Nat.le_of_ble_eq_true rfl) dX12_pair_12 (kv_ri ?_)
  refine v_if_ne 24 G dX12_pair_15 (by decide) (fun h10 => ?_) (fun h10 => ?_)
  · replace hf := (if_neg h10).symm.trans hf
    refine v_aload_n G dX12_pair_24 0 rfl ?_
    obtain ⟨v4, hcv4, hf⟩ := bd_e hf
    refine v_callV [] G (c_X12_laysPairs n h0 hcv4) h0 (by decide) rfl rfl rfl t_2205 t_2207 t_p144 t_17 t_2208 nm_X12_laysPairs (by decide) (by decide) rfl rfl (Nat.le_of_ble_eq_true rfl) dX12_pair_25 (kv_rv ?_)
    refine v_aload_n G dX12_pair_28 0 rfl ?_
    refine gf_12_34 G h0 t_1525 (Or.inl rfl) dX12_pair_29 ?_
    refine v_iload_n G dX12_pair_32 1 rfl ?_
    obtain ⟨g5, hf⟩ := gd_e hf
    refine al_28 G (kf_12_13 h0) g5 dX12_pair_33 ?_
    refine v_if_ge 46 G dX12_pair_34 (by decide) (fun h8 => ?_) (fun h8 => ?_)
    · replace hf := (if_pos h8).symm.trans hf
      refine v_aload_n G dX12_pair_46 0 rfl ?_
      refine gf_12_34 G h0 t_1525 (Or.inl rfl) dX12_pair_47 ?_
      refine v_iload_n G dX12_pair_50 1 rfl ?_
      obtain ⟨g6, hf⟩ := gd_e hf
      refine al_28 G (kf_12_13 h0) g6 dX12_pair_51 ?_
      obtain rfl := Option.some.inj hf
      exact v_iret G dX12_pair_52
    · replace hf := (if_neg h8).symm.trans hf
      refine v_aload_n G dX12_pair_37 0 rfl ?_
      refine v_bipush (8 : Int32) G dX12_pair_38 (by decide) ?_
      obtain ⟨v7, hcv7⟩ : ∃ q, f_X12_refuse a0 (8 : Int32) v4 = q := ⟨_, rfl⟩
      replace hf := lt_e hf hcv7.symm
      refine v_callV [.int (8 : Int32)] G (c_X12_refuse h0 hcv7) h0 (by decide) rfl rfl rfl t_1926 t_1928 t_p110 t_17 t_1929 nm_X12_refuse (by decide) (by decide) rfl rfl (Nat.le_of_ble_eq_true rfl) dX12_pair_40 (kv_ri ?_)
      refine v_goto 52 G dX12_pair_43 (by decide) ?_
      obtain rfl := Option.some.inj hf
      exact v_iret G dX12_pair_52
  · replace hf := (if_pos h10).symm.trans hf
    refine v_aload_n G dX12_pair_18 0 rfl ?_
    refine v_iconst (2 : Int32) G dX12_pair_19 (by decide) ?_
    obtain ⟨v9, hcv9⟩ : ∃ q, f_X12_refuse a0 (2 : Int32) M2 = q := ⟨_, rfl⟩
    replace hf := lt_e hf hcv9.symm
    refine v_callV [.int (2 : Int32)] G (c_X12_refuse h0 hcv9) h0 (by decide) rfl rfl rfl t_1926 t_1928 t_p110 t_17 t_1929 nm_X12_refuse (by decide) (by decide) rfl rfl (Nat.le_of_ble_eq_true rfl) dX12_pair_20 (kv_ri ?_)
    obtain rfl := Option.some.inj hf
    exact v_iret G dX12_pair_23
abbrev cX12_pairs : ByteArray := prog_14_method_150_code
def yX12_pairs : MethodName := ⟨RX12, "pairs", "()I"⟩
theorem dX12_pairs_0 : dc cX12_pairs 0 (.aload_n 0) 1 1 := ⟨by decide +kernel, rfl⟩
theorem dX12_pairs_1 : dc cX12_pairs 1 (.iconst 0) 1 2 := ⟨by decide +kernel, rfl⟩
theorem dX12_pairs_2 : dc cX12_pairs 2 (.putfield 75) 3 5 := ⟨by decide +kernel, rfl⟩
theorem dX12_pairs_5 : dc cX12_pairs 5 (.aload_n 0) 1 6 := ⟨by decide +kernel, rfl⟩
theorem dX12_pairs_6 : dc cX12_pairs 6 (.iconst 0) 1 7 := ⟨by decide +kernel, rfl⟩
theorem dX12_pairs_7 : dc cX12_pairs 7 (.putfield 78) 3 10 := ⟨by decide +kernel, rfl⟩
theorem dX12_pairs_10 : dc cX12_pairs 10 (.aload_n 0) 1 11 := ⟨by decide +kernel, rfl⟩
theorem dX12_pairs_11 : dc cX12_pairs 11 (.invokevirtual 492) 3 14 := ⟨by decide +kernel, rfl⟩
theorem dX12_pairs_14 : dc cX12_pairs 14 (.iconst 0) 1 15 := ⟨by decide +kernel, rfl⟩
theorem dX12_pairs_15 : dc cX12_pairs 15 (.istore_n 1) 1 16 := ⟨by decide +kernel, rfl⟩
theorem dX12_pairs_16 : dc cX12_pairs 16 (.iconst 0) 1 17 := ⟨by decide +kernel, rfl⟩
theorem dX12_pairs_17 : dc cX12_pairs 17 (.istore_n 2) 1 18 := ⟨by decide +kernel, rfl⟩
theorem dX12_pairs_18 : dc cX12_pairs 18 (.iload_n 2) 1 19 := ⟨by decide +kernel, rfl⟩
theorem dX12_pairs_19 : dc cX12_pairs 19 (.bipush 8) 2 21 := ⟨by decide +kernel, rfl⟩
theorem dX12_pairs_21 : dc cX12_pairs 21 (.if_icmp .ge 27) 3 24 := ⟨by decide +kernel, rfl⟩
theorem dX12_pairs_24 : dc cX12_pairs 24 (.iload_n 1) 1 25 := ⟨by decide +kernel, rfl⟩
theorem dX12_pairs_25 : dc cX12_pairs 25 (.aload_n 0) 1 26 := ⟨by decide +kernel, rfl⟩
theorem dX12_pairs_26 : dc cX12_pairs 26 (.getfield 59) 3 29 := ⟨by decide +kernel, rfl⟩
theorem dX12_pairs_29 : dc cX12_pairs 29 (.iload_n 2) 1 30 := ⟨by decide +kernel, rfl⟩
theorem dX12_pairs_30 : dc cX12_pairs 30 (.iaload) 1 31 := ⟨by decide +kernel, rfl⟩
theorem dX12_pairs_31 : dc cX12_pairs 31 (.iload_n 2) 1 32 := ⟨by decide +kernel, rfl⟩
theorem dX12_pairs_32 : dc cX12_pairs 32 (.if_icmp .le 7) 3 35 := ⟨by decide +kernel, rfl⟩
theorem dX12_pairs_35 : dc cX12_pairs 35 (.iconst 1) 1 36 := ⟨by decide +kernel, rfl⟩
theorem dX12_pairs_36 : dc cX12_pairs 36 (.goto 4) 3 39 := ⟨by decide +kernel, rfl⟩
theorem dX12_pairs_39 : dc cX12_pairs 39 (.iconst 0) 1 40 := ⟨by decide +kernel, rfl⟩
theorem dX12_pairs_40 : dc cX12_pairs 40 (.iadd) 1 41 := ⟨by decide +kernel, rfl⟩
theorem dX12_pairs_41 : dc cX12_pairs 41 (.istore_n 1) 1 42 := ⟨by decide +kernel, rfl⟩
theorem dX12_pairs_42 : dc cX12_pairs 42 (.iinc 2 1) 3 45 := ⟨by decide +kernel, rfl⟩
theorem dX12_pairs_45 : dc cX12_pairs 45 (.goto (-27)) 3 48 := ⟨by decide +kernel, rfl⟩
theorem dX12_pairs_48 : dc cX12_pairs 48 (.iload_n 1) 1 49 := ⟨by decide +kernel, rfl⟩
theorem dX12_pairs_49 : dc cX12_pairs 49 (.ireturn) 1 50 := ⟨by decide +kernel, rfl⟩
theorem nm_X12_pairs : (yX12_pairs).cls ≠ "java/lang/invoke/MethodHandle" ∧ (yX12_pairs).cls ≠ "java/lang/invoke/VarHandle" ∧ (parseMethodDescriptor (yX12_pairs).desc).map (fun d => d.parameters.length) = some 0 := ⟨by decide +kernel, by decide +kernel, by decide +kernel⟩
set_option maxRecDepth 100000 in
set_option maxHeartbeats 4000000 in
theorem s_X12_pairs_18 {ad : Nat → Nat} {cy : Nat → ClassId} {x : KX} (G : KG ad cy x cX12_pairs "NoonGuidesModel" 3 (some (some .int)) 5) {a0 : Nat} {M : KM} (h0 : kty a0 = 12) {y : (Int32 × KM)} : ∀ (n : Nat) (w1 : Int32) (w2 : Int32), lp_X12_pairs_18 n a0 M w1 w2 = some y → KV ad cy x (some (.int y.1), y.2) 18 [(0, .ref (ad a0)), (1, .int w1), (2, .int w2)] [] M := by
  intro n
  induction n with
  | zero =>
    intro w1 w2 hf
    cases hf
  | succ n ih =>
    intro w1 w2 hf
    rw [lp_X12_pairs_18] at hf
    refine v_iload_n G dX12_pairs_18 2 rfl ?_
    refine v_bipush (8 : Int32) G dX12_pairs_19 (by decide) ?_
    refine v_icmp_ge 48 G dX12_pairs_21 (by decide) (fun h9 => ?_) (fun h9 => ?_)
    · replace hf := (if_pos h9).symm.trans hf
      refine v_iload_n G dX12_pairs_48 1 rfl ?_
      obtain rfl := Option.some.inj hf
      exact v_iret G dX12_pairs_49
    · replace hf := (if_neg h9).symm.trans hf
      refine v_iload_n G dX12_pairs_24 1 rfl ?_
      refine v_aload_n G dX12_pairs_25 0 rfl ?_
      refine gf_12_34 G h0 t_1525 (Or.inl rfl) dX12_pairs_26 ?_
      refine v_iload_n G dX12_pairs_29 2 rfl ?_
      obtain ⟨g4, hf⟩ := gd_e hf
      refine al_28 G (kf_12_13 h0) g4 dX12_pairs_30 ?_
      refine v_iload_n G dX12_pairs_31 2 rfl ?_
      obtain ⟨j40, ej40, hf⟩ := lt_j hf
      have hj40 : ∀ (x5 : Int32), j40 x5 = some y → KV ad cy x (some (.int y.1), y.2) 40 [(0, .ref (ad a0)), (2, .int w2)] [.int x5, .int w1] M := by
        intro x5 hf
        rw [ej40] at hf
        refine v_iadd G dX12_pairs_40 ?_
        refine v_nmi (fun v6 ev6 => ?_)
        replace hf := lt_e hf ev6
        refine v_istore_n [(1, .int v6), (0, .ref (ad a0)), (2, .int w2)] G dX12_pairs_41 (by decide) rfl ?_
        obtain ⟨v7, ev7⟩ : ∃ q : Int32, q = w2 + (1 : Int32) := ⟨_, rfl⟩
        replace hf := lt_e hf ev7
        refine v_iinc v7 [(2, .int v7), (1, .int v6), (0, .ref (ad a0))] G dX12_pairs_42 2 rfl (by rw [ev7]; rfl) (by decide) rfl ?_
        refine v_goto 18 G dX12_pairs_45 (by decide) ?_
        refine v_sub _ [2, 1, 0] rfl ?_
        exact ih v6 v7 hf
      refine v_icmp_le 39 G dX12_pairs_32 (by decide) (fun h8 => ?_) (fun h8 => ?_)
      · replace hf := (if_pos h8).symm.trans hf
        refine v_iconst (0 : Int32) G dX12_pairs_39 (by decide) ?_
        refine v_sub _ [0, 2] rfl ?_
        exact hj40 (0 : Int32) hf
      · replace hf := (if_neg h8).symm.trans hf
        refine v_iconst (1 : Int32) G dX12_pairs_35 (by decide) ?_
        refine v_goto 40 G dX12_pairs_36 (by decide) ?_
        refine v_sub _ [0, 2] rfl ?_
        exact hj40 (1 : Int32) hf
set_option maxRecDepth 100000 in
set_option maxHeartbeats 4000000 in
theorem c_X12_pairs {l : Launch} {ad : Nat → Nat} {cy : Nat → ClassId} {D : va_G} {z : Nat} (n : Nat) {a0 : Nat} {M : KM} {y : (Int32 × KM)} (h0 : kty a0 = 12) (hf : f_X12_pairs n a0 M = some y) : KC l ad cy D z yX12_pairs cX12_pairs 3 (some .int) 5 [.ref (ad a0)] M (some (.int y.1), y.2) := by
  refine kv_enter (by decide +kernel) (Nat.le_of_ble_eq_true rfl) ?_
  intro x hl hD hz G
  subst hl hD hz
  unfold f_X12_pairs at hf
  have G : KG ad cy x cX12_pairs "NoonGuidesModel" 3 (some (some .int)) 5 := G
  show KV ad cy x (some (.int y.1), y.2) 0 [(0, .ref (ad a0))] [] M
  refine v_aload_n G dX12_pairs_0 0 rfl ?_
  refine v_iconst (0 : Int32) G dX12_pairs_1 (by decide) ?_
  refine pf_12_1 G h0 t_1492 (Or.inl rfl) dX12_pairs_2 ?_
  refine v_nmM (fun M1 eM1 => ?_)
  replace hf := lt_e hf eM1
  refine v_aload_n G dX12_pairs_5 0 rfl ?_
  refine v_iconst (0 : Int32) G dX12_pairs_6 (by decide) ?_
  refine pf_12_0 G h0 t_1491 (Or.inl rfl) dX12_pairs_7 ?_
  refine v_nmM (fun M2 eM2 => ?_)
  replace hf := lt_e hf eM2
  refine v_aload_n G dX12_pairs_10 0 rfl ?_
  obtain ⟨v3, hcv3, hf⟩ := bd_e hf
  refine v_callV [] G (c_X12_laysPairs n h0 hcv3) h0 (by decide) rfl rfl rfl t_2205 t_2207 t_p144 t_17 t_2208 nm_X12_laysPairs (by decide) (by decide) rfl rfl (Nat.le_of_ble_eq_true rfl) dX12_pairs_11 (kv_rv ?_)
  refine v_iconst (0 : Int32) G dX12_pairs_14 (by decide) ?_
  refine v_istore_n [(1, .int (0 : Int32)), (0, .ref (ad a0))] G dX12_pairs_15 (by decide) rfl ?_
  refine v_iconst (0 : Int32) G dX12_pairs_16 (by decide) ?_
  refine v_istore_n [(2, .int (0 : Int32)), (1, .int (0 : Int32)), (0, .ref (ad a0))] G dX12_pairs_17 (by decide) rfl ?_
  refine v_sub _ [2, 1, 0] rfl ?_
  refine s_X12_pairs_18 G h0 n (0 : Int32) (0 : Int32) hf
abbrev cX12_pairsOwe : ByteArray := prog_14_method_151_code
def yX12_pairsOwe : MethodName := ⟨RX12, "pairsOwe", "()I"⟩
theorem dX12_pairsOwe_0 : dc cX12_pairsOwe 0 (.aload_n 0) 1 1 := ⟨by decide +kernel, rfl⟩
theorem dX12_pairsOwe_1 : dc cX12_pairsOwe 1 (.iconst 0) 1 2 := ⟨by decide +kernel, rfl⟩
theorem dX12_pairsOwe_2 : dc cX12_pairsOwe 2 (.putfield 75) 3 5 := ⟨by decide +kernel, rfl⟩
theorem dX12_pairsOwe_5 : dc cX12_pairsOwe 5 (.aload_n 0) 1 6 := ⟨by decide +kernel, rfl⟩
theorem dX12_pairsOwe_6 : dc cX12_pairsOwe 6 (.iconst 0) 1 7 := ⟨by decide +kernel, rfl⟩
theorem dX12_pairsOwe_7 : dc cX12_pairsOwe 7 (.putfield 78) 3 10 := ⟨by decide +kernel, rfl⟩
theorem dX12_pairsOwe_10 : dc cX12_pairsOwe 10 (.aload_n 0) 1 11 := ⟨by decide +kernel, rfl⟩
theorem dX12_pairsOwe_11 : dc cX12_pairsOwe 11 (.invokevirtual 492) 3 14 := ⟨by decide +kernel, rfl⟩
theorem dX12_pairsOwe_14 : dc cX12_pairsOwe 14 (.iconst 0) 1 15 := ⟨by decide +kernel, rfl⟩
theorem dX12_pairsOwe_15 : dc cX12_pairsOwe 15 (.istore_n 1) 1 16 := ⟨by decide +kernel, rfl⟩
theorem dX12_pairsOwe_16 : dc cX12_pairsOwe 16 (.iconst 0) 1 17 := ⟨by decide +kernel, rfl⟩
theorem dX12_pairsOwe_17 : dc cX12_pairsOwe 17 (.istore_n 2) 1 18 := ⟨by decide +kernel, rfl⟩
theorem dX12_pairsOwe_18 : dc cX12_pairsOwe 18 (.iload_n 2) 1 19 := ⟨by decide +kernel, rfl⟩
theorem dX12_pairsOwe_19 : dc cX12_pairsOwe 19 (.bipush 8) 2 21 := ⟨by decide +kernel, rfl⟩
theorem dX12_pairsOwe_21 : dc cX12_pairsOwe 21 (.if_icmp .ge 49) 3 24 := ⟨by decide +kernel, rfl⟩
theorem dX12_pairsOwe_24 : dc cX12_pairsOwe 24 (.iload_n 1) 1 25 := ⟨by decide +kernel, rfl⟩
theorem dX12_pairsOwe_25 : dc cX12_pairsOwe 25 (.aload_n 0) 1 26 := ⟨by decide +kernel, rfl⟩
theorem dX12_pairsOwe_26 : dc cX12_pairsOwe 26 (.getfield 59) 3 29 := ⟨by decide +kernel, rfl⟩
theorem dX12_pairsOwe_29 : dc cX12_pairsOwe 29 (.iload_n 2) 1 30 := ⟨by decide +kernel, rfl⟩
theorem dX12_pairsOwe_30 : dc cX12_pairsOwe 30 (.iaload) 1 31 := ⟨by decide +kernel, rfl⟩
theorem dX12_pairsOwe_31 : dc cX12_pairsOwe 31 (.iload_n 2) 1 32 := ⟨by decide +kernel, rfl⟩
theorem dX12_pairsOwe_32 : dc cX12_pairsOwe 32 (.if_icmp .le 29) 3 35 := ⟨by decide +kernel, rfl⟩
theorem dX12_pairsOwe_35 : dc cX12_pairsOwe 35 (.aload_n 0) 1 36 := ⟨by decide +kernel, rfl⟩
theorem dX12_pairsOwe_36 : dc cX12_pairsOwe 36 (.getfield 35) 3 39 := ⟨by decide +kernel, rfl⟩
theorem dX12_pairsOwe_39 : dc cX12_pairsOwe 39 (.sipush 226) 3 42 := ⟨by decide +kernel, rfl⟩
theorem dX12_pairsOwe_42 : dc cX12_pairsOwe 42 (.bipush 8) 2 44 := ⟨by decide +kernel, rfl⟩
theorem dX12_pairsOwe_44 : dc cX12_pairsOwe 44 (.iload_n 2) 1 45 := ⟨by decide +kernel, rfl⟩
theorem dX12_pairsOwe_45 : dc cX12_pairsOwe 45 (.imul) 1 46 := ⟨by decide +kernel, rfl⟩
theorem dX12_pairsOwe_46 : dc cX12_pairsOwe 46 (.iadd) 1 47 := ⟨by decide +kernel, rfl⟩
theorem dX12_pairsOwe_47 : dc cX12_pairsOwe 47 (.aload_n 0) 1 48 := ⟨by decide +kernel, rfl⟩
theorem dX12_pairsOwe_48 : dc cX12_pairsOwe 48 (.getfield 59) 3 51 := ⟨by decide +kernel, rfl⟩
theorem dX12_pairsOwe_51 : dc cX12_pairsOwe 51 (.iload_n 2) 1 52 := ⟨by decide +kernel, rfl⟩
theorem dX12_pairsOwe_52 : dc cX12_pairsOwe 52 (.iaload) 1 53 := ⟨by decide +kernel, rfl⟩
theorem dX12_pairsOwe_53 : dc cX12_pairsOwe 53 (.iadd) 1 54 := ⟨by decide +kernel, rfl⟩
theorem dX12_pairsOwe_54 : dc cX12_pairsOwe 54 (.iaload) 1 55 := ⟨by decide +kernel, rfl⟩
theorem dX12_pairsOwe_55 : dc cX12_pairsOwe 55 (.invokestatic 495) 3 58 := ⟨by decide +kernel, rfl⟩
theorem dX12_pairsOwe_58 : dc cX12_pairsOwe 58 (.goto 4) 3 61 := ⟨by decide +kernel, rfl⟩
theorem dX12_pairsOwe_61 : dc cX12_pairsOwe 61 (.iconst 0) 1 62 := ⟨by decide +kernel, rfl⟩
theorem dX12_pairsOwe_62 : dc cX12_pairsOwe 62 (.iadd) 1 63 := ⟨by decide +kernel, rfl⟩
theorem dX12_pairsOwe_63 : dc cX12_pairsOwe 63 (.istore_n 1) 1 64 := ⟨by decide +kernel, rfl⟩
theorem dX12_pairsOwe_64 : dc cX12_pairsOwe 64 (.iinc 2 1) 3 67 := ⟨by decide +kernel, rfl⟩
theorem dX12_pairsOwe_67 : dc cX12_pairsOwe 67 (.goto (-49)) 3 70 := ⟨by decide +kernel, rfl⟩
theorem dX12_pairsOwe_70 : dc cX12_pairsOwe 70 (.iload_n 1) 1 71 := ⟨by decide +kernel, rfl⟩
theorem dX12_pairsOwe_71 : dc cX12_pairsOwe 71 (.ireturn) 1 72 := ⟨by decide +kernel, rfl⟩
theorem nm_X12_pairsOwe : (yX12_pairsOwe).cls ≠ "java/lang/invoke/MethodHandle" ∧ (yX12_pairsOwe).cls ≠ "java/lang/invoke/VarHandle" ∧ (parseMethodDescriptor (yX12_pairsOwe).desc).map (fun d => d.parameters.length) = some 0 := ⟨by decide +kernel, by decide +kernel, by decide +kernel⟩
set_option maxRecDepth 100000 in
set_option maxHeartbeats 4000000 in
theorem s_X12_pairsOwe_18 {ad : Nat → Nat} {cy : Nat → ClassId} {x : KX} (G : KG ad cy x cX12_pairsOwe "NoonGuidesModel" 3 (some (some .int)) 5) {a0 : Nat} {M : KM} (h0 : kty a0 = 12) {y : (Int32 × KM)} : ∀ (n : Nat) (w1 : Int32) (w2 : Int32), lp_X12_pairsOwe_18 n a0 M w1 w2 = some y → KV ad cy x (some (.int y.1), y.2) 18 [(0, .ref (ad a0)), (1, .int w1), (2, .int w2)] [] M := by
  intro n
  induction n with
  | zero =>
    intro w1 w2 hf
    cases hf
  | succ n ih =>
    intro w1 w2 hf
    rw [lp_X12_pairsOwe_18] at hf
    refine v_iload_n G dX12_pairsOwe_18 2 rfl ?_
    refine v_bipush (8 : Int32) G dX12_pairsOwe_19 (by decide) ?_
    refine v_icmp_ge 70 G dX12_pairsOwe_21 (by decide) (fun h12 => ?_) (fun h12 => ?_)
    · replace hf := (if_pos h12).symm.trans hf
      refine v_iload_n G dX12_pairsOwe_70 1 rfl ?_
      obtain rfl := Option.some.inj hf
      exact v_iret G dX12_pairsOwe_71
    · replace hf := (if_neg h12).symm.trans hf
      refine v_iload_n G dX12_pairsOwe_24 1 rfl ?_
      refine v_aload_n G dX12_pairsOwe_25 0 rfl ?_
      refine gf_12_34 G h0 t_1525 (Or.inl rfl) dX12_pairsOwe_26 ?_
      refine v_iload_n G dX12_pairsOwe_29 2 rfl ?_
      obtain ⟨g4, hf⟩ := gd_e hf
      refine al_28 G (kf_12_13 h0) g4 dX12_pairsOwe_30 ?_
      refine v_iload_n G dX12_pairsOwe_31 2 rfl ?_
      obtain ⟨j62, ej62, hf⟩ := lt_j hf
      have hj62 : ∀ (x5 : Int32), j62 x5 = some y → KV ad cy x (some (.int y.1), y.2) 62 [(0, .ref (ad a0)), (2, .int w2)] [.int x5, .int w1] M := by
        intro x5 hf
        rw [ej62] at hf
        refine v_iadd G dX12_pairsOwe_62 ?_
        refine v_nmi (fun v6 ev6 => ?_)
        replace hf := lt_e hf ev6
        refine v_istore_n [(1, .int v6), (0, .ref (ad a0)), (2, .int w2)] G dX12_pairsOwe_63 (by decide) rfl ?_
        obtain ⟨v7, ev7⟩ : ∃ q : Int32, q = w2 + (1 : Int32) := ⟨_, rfl⟩
        replace hf := lt_e hf ev7
        refine v_iinc v7 [(2, .int v7), (1, .int v6), (0, .ref (ad a0))] G dX12_pairsOwe_64 2 rfl (by rw [ev7]; rfl) (by decide) rfl ?_
        refine v_goto 18 G dX12_pairsOwe_67 (by decide) ?_
        refine v_sub _ [2, 1, 0] rfl ?_
        exact ih v6 v7 hf
      refine v_icmp_le 61 G dX12_pairsOwe_32 (by decide) (fun h11 => ?_) (fun h11 => ?_)
      · replace hf := (if_pos h11).symm.trans hf
        refine v_iconst (0 : Int32) G dX12_pairsOwe_61 (by decide) ?_
        refine v_sub _ [0, 2] rfl ?_
        exact hj62 (0 : Int32) hf
      · replace hf := (if_neg h11).symm.trans hf
        refine v_aload_n G dX12_pairsOwe_35 0 rfl ?_
        refine gf_12_20 G h0 t_1511 (Or.inl rfl) dX12_pairsOwe_36 ?_
        refine v_sipush (226 : Int32) G dX12_pairsOwe_39 (by decide) ?_
        refine v_bipush (8 : Int32) G dX12_pairsOwe_42 (by decide) ?_
        refine v_iload_n G dX12_pairsOwe_44 2 rfl ?_
        refine v_imul G dX12_pairsOwe_45 ?_
        refine v_iadd G dX12_pairsOwe_46 ?_
        refine v_aload_n G dX12_pairsOwe_47 0 rfl ?_
        refine gf_12_34 G h0 t_1525 (Or.inl rfl) dX12_pairsOwe_48 ?_
        refine v_iload_n G dX12_pairsOwe_51 2 rfl ?_
        obtain ⟨g8, hf⟩ := gd_e hf
        refine al_28 G (kf_12_13 h0) g8 dX12_pairsOwe_52 ?_
        refine v_iadd G dX12_pairsOwe_53 ?_
        obtain ⟨g9, hf⟩ := gd_e hf
        refine al_36 G (kf_12_5 h0) g9 dX12_pairsOwe_54 ?_
        refine v_mabs G (by decide) t_2229 t_1359 t_19 t_1360 (Nat.le_of_ble_eq_true rfl) dX12_pairsOwe_55 ?_
        refine v_nmi (fun v10 ev10 => ?_)
        replace hf := lt_e hf ev10
        refine v_goto 62 G dX12_pairsOwe_58 (by decide) ?_
        refine v_sub _ [0, 2] rfl ?_
        exact hj62 v10 hf
set_option maxRecDepth 100000 in
set_option maxHeartbeats 4000000 in
theorem c_X12_pairsOwe {l : Launch} {ad : Nat → Nat} {cy : Nat → ClassId} {D : va_G} {z : Nat} (n : Nat) {a0 : Nat} {M : KM} {y : (Int32 × KM)} (h0 : kty a0 = 12) (hf : f_X12_pairsOwe n a0 M = some y) : KC l ad cy D z yX12_pairsOwe cX12_pairsOwe 3 (some .int) 5 [.ref (ad a0)] M (some (.int y.1), y.2) := by
  refine kv_enter (by decide +kernel) (Nat.le_of_ble_eq_true rfl) ?_
  intro x hl hD hz G
  subst hl hD hz
  unfold f_X12_pairsOwe at hf
  have G : KG ad cy x cX12_pairsOwe "NoonGuidesModel" 3 (some (some .int)) 5 := G
  show KV ad cy x (some (.int y.1), y.2) 0 [(0, .ref (ad a0))] [] M
  refine v_aload_n G dX12_pairsOwe_0 0 rfl ?_
  refine v_iconst (0 : Int32) G dX12_pairsOwe_1 (by decide) ?_
  refine pf_12_1 G h0 t_1492 (Or.inl rfl) dX12_pairsOwe_2 ?_
  refine v_nmM (fun M1 eM1 => ?_)
  replace hf := lt_e hf eM1
  refine v_aload_n G dX12_pairsOwe_5 0 rfl ?_
  refine v_iconst (0 : Int32) G dX12_pairsOwe_6 (by decide) ?_
  refine pf_12_0 G h0 t_1491 (Or.inl rfl) dX12_pairsOwe_7 ?_
  refine v_nmM (fun M2 eM2 => ?_)
  replace hf := lt_e hf eM2
  refine v_aload_n G dX12_pairsOwe_10 0 rfl ?_
  obtain ⟨v3, hcv3, hf⟩ := bd_e hf
  refine v_callV [] G (c_X12_laysPairs n h0 hcv3) h0 (by decide) rfl rfl rfl t_2205 t_2207 t_p144 t_17 t_2208 nm_X12_laysPairs (by decide) (by decide) rfl rfl (Nat.le_of_ble_eq_true rfl) dX12_pairsOwe_11 (kv_rv ?_)
  refine v_iconst (0 : Int32) G dX12_pairsOwe_14 (by decide) ?_
  refine v_istore_n [(1, .int (0 : Int32)), (0, .ref (ad a0))] G dX12_pairsOwe_15 (by decide) rfl ?_
  refine v_iconst (0 : Int32) G dX12_pairsOwe_16 (by decide) ?_
  refine v_istore_n [(2, .int (0 : Int32)), (1, .int (0 : Int32)), (0, .ref (ad a0))] G dX12_pairsOwe_17 (by decide) rfl ?_
  refine v_sub _ [2, 1, 0] rfl ?_
  refine s_X12_pairsOwe_18 G h0 n (0 : Int32) (0 : Int32) hf
abbrev cX12_dearest : ByteArray := prog_14_method_152_code
def yX12_dearest : MethodName := ⟨RX12, "dearest", "(I)I"⟩
theorem dX12_dearest_0 : dc cX12_dearest 0 (.aload_n 0) 1 1 := ⟨by decide +kernel, rfl⟩
theorem dX12_dearest_1 : dc cX12_dearest 1 (.iconst 0) 1 2 := ⟨by decide +kernel, rfl⟩
theorem dX12_dearest_2 : dc cX12_dearest 2 (.putfield 75) 3 5 := ⟨by decide +kernel, rfl⟩
theorem dX12_dearest_5 : dc cX12_dearest 5 (.aload_n 0) 1 6 := ⟨by decide +kernel, rfl⟩
theorem dX12_dearest_6 : dc cX12_dearest 6 (.iconst 0) 1 7 := ⟨by decide +kernel, rfl⟩
theorem dX12_dearest_7 : dc cX12_dearest 7 (.putfield 78) 3 10 := ⟨by decide +kernel, rfl⟩
theorem dX12_dearest_10 : dc cX12_dearest 10 (.aload_n 0) 1 11 := ⟨by decide +kernel, rfl⟩
theorem dX12_dearest_11 : dc cX12_dearest 11 (.iload_n 1) 1 12 := ⟨by decide +kernel, rfl⟩
theorem dX12_dearest_12 : dc cX12_dearest 12 (.invokevirtual 373) 3 15 := ⟨by decide +kernel, rfl⟩
theorem dX12_dearest_15 : dc cX12_dearest 15 (.ifCond .ne 9) 3 18 := ⟨by decide +kernel, rfl⟩
theorem dX12_dearest_18 : dc cX12_dearest 18 (.aload_n 0) 1 19 := ⟨by decide +kernel, rfl⟩
theorem dX12_dearest_19 : dc cX12_dearest 19 (.iconst 2) 1 20 := ⟨by decide +kernel, rfl⟩
theorem dX12_dearest_20 : dc cX12_dearest 20 (.invokevirtual 355) 3 23 := ⟨by decide +kernel, rfl⟩
theorem dX12_dearest_23 : dc cX12_dearest 23 (.ireturn) 1 24 := ⟨by decide +kernel, rfl⟩
theorem dX12_dearest_24 : dc cX12_dearest 24 (.iconst (-1)) 1 25 := ⟨by decide +kernel, rfl⟩
theorem dX12_dearest_25 : dc cX12_dearest 25 (.istore_n 2) 1 26 := ⟨by decide +kernel, rfl⟩
theorem dX12_dearest_26 : dc cX12_dearest 26 (.iconst 0) 1 27 := ⟨by decide +kernel, rfl⟩
theorem dX12_dearest_27 : dc cX12_dearest 27 (.istore_n 3) 1 28 := ⟨by decide +kernel, rfl⟩
theorem dX12_dearest_28 : dc cX12_dearest 28 (.iconst 0) 1 29 := ⟨by decide +kernel, rfl⟩
theorem dX12_dearest_29 : dc cX12_dearest 29 (.istore 4) 2 31 := ⟨by decide +kernel, rfl⟩
theorem dX12_dearest_31 : dc cX12_dearest 31 (.iload 4) 2 33 := ⟨by decide +kernel, rfl⟩
theorem dX12_dearest_33 : dc cX12_dearest 33 (.aload_n 0) 1 34 := ⟨by decide +kernel, rfl⟩
theorem dX12_dearest_34 : dc cX12_dearest 34 (.getfield 35) 3 37 := ⟨by decide +kernel, rfl⟩
theorem dX12_dearest_37 : dc cX12_dearest 37 (.iconst 2) 1 38 := ⟨by decide +kernel, rfl⟩
theorem dX12_dearest_38 : dc cX12_dearest 38 (.iaload) 1 39 := ⟨by decide +kernel, rfl⟩
theorem dX12_dearest_39 : dc cX12_dearest 39 (.if_icmp .ge 52) 3 42 := ⟨by decide +kernel, rfl⟩
theorem dX12_dearest_42 : dc cX12_dearest 42 (.aload_n 0) 1 43 := ⟨by decide +kernel, rfl⟩
theorem dX12_dearest_43 : dc cX12_dearest 43 (.getfield 35) 3 46 := ⟨by decide +kernel, rfl⟩
theorem dX12_dearest_46 : dc cX12_dearest 46 (.sipush 226) 3 49 := ⟨by decide +kernel, rfl⟩
theorem dX12_dearest_49 : dc cX12_dearest 49 (.bipush 8) 2 51 := ⟨by decide +kernel, rfl⟩
theorem dX12_dearest_51 : dc cX12_dearest 51 (.iload_n 1) 1 52 := ⟨by decide +kernel, rfl⟩
theorem dX12_dearest_52 : dc cX12_dearest 52 (.imul) 1 53 := ⟨by decide +kernel, rfl⟩
theorem dX12_dearest_53 : dc cX12_dearest 53 (.iadd) 1 54 := ⟨by decide +kernel, rfl⟩
theorem dX12_dearest_54 : dc cX12_dearest 54 (.iload 4) 2 56 := ⟨by decide +kernel, rfl⟩
theorem dX12_dearest_56 : dc cX12_dearest 56 (.iadd) 1 57 := ⟨by decide +kernel, rfl⟩
theorem dX12_dearest_57 : dc cX12_dearest 57 (.iaload) 1 58 := ⟨by decide +kernel, rfl⟩
theorem dX12_dearest_58 : dc cX12_dearest 58 (.iload_n 3) 1 59 := ⟨by decide +kernel, rfl⟩
theorem dX12_dearest_59 : dc cX12_dearest 59 (.if_icmp .gt 6) 3 62 := ⟨by decide +kernel, rfl⟩
theorem dX12_dearest_62 : dc cX12_dearest 62 (.goto 23) 3 65 := ⟨by decide +kernel, rfl⟩
theorem dX12_dearest_65 : dc cX12_dearest 65 (.aload_n 0) 1 66 := ⟨by decide +kernel, rfl⟩
theorem dX12_dearest_66 : dc cX12_dearest 66 (.getfield 35) 3 69 := ⟨by decide +kernel, rfl⟩
theorem dX12_dearest_69 : dc cX12_dearest 69 (.sipush 226) 3 72 := ⟨by decide +kernel, rfl⟩
theorem dX12_dearest_72 : dc cX12_dearest 72 (.bipush 8) 2 74 := ⟨by decide +kernel, rfl⟩
theorem dX12_dearest_74 : dc cX12_dearest 74 (.iload_n 1) 1 75 := ⟨by decide +kernel, rfl⟩
theorem dX12_dearest_75 : dc cX12_dearest 75 (.imul) 1 76 := ⟨by decide +kernel, rfl⟩
theorem dX12_dearest_76 : dc cX12_dearest 76 (.iadd) 1 77 := ⟨by decide +kernel, rfl⟩
theorem dX12_dearest_77 : dc cX12_dearest 77 (.iload 4) 2 79 := ⟨by decide +kernel, rfl⟩
theorem dX12_dearest_79 : dc cX12_dearest 79 (.iadd) 1 80 := ⟨by decide +kernel, rfl⟩
theorem dX12_dearest_80 : dc cX12_dearest 80 (.iaload) 1 81 := ⟨by decide +kernel, rfl⟩
theorem dX12_dearest_81 : dc cX12_dearest 81 (.istore_n 3) 1 82 := ⟨by decide +kernel, rfl⟩
theorem dX12_dearest_82 : dc cX12_dearest 82 (.iload 4) 2 84 := ⟨by decide +kernel, rfl⟩
theorem dX12_dearest_84 : dc cX12_dearest 84 (.istore_n 2) 1 85 := ⟨by decide +kernel, rfl⟩
theorem dX12_dearest_85 : dc cX12_dearest 85 (.iinc 4 1) 3 88 := ⟨by decide +kernel, rfl⟩
theorem dX12_dearest_88 : dc cX12_dearest 88 (.goto (-57)) 3 91 := ⟨by decide +kernel, rfl⟩
theorem dX12_dearest_91 : dc cX12_dearest 91 (.iload_n 2) 1 92 := ⟨by decide +kernel, rfl⟩
theorem dX12_dearest_92 : dc cX12_dearest 92 (.ifCond .ge 12) 3 95 := ⟨by decide +kernel, rfl⟩
theorem dX12_dearest_95 : dc cX12_dearest 95 (.aload_n 0) 1 96 := ⟨by decide +kernel, rfl⟩
theorem dX12_dearest_96 : dc cX12_dearest 96 (.bipush 8) 2 98 := ⟨by decide +kernel, rfl⟩
theorem dX12_dearest_98 : dc cX12_dearest 98 (.invokevirtual 355) 3 101 := ⟨by decide +kernel, rfl⟩
theorem dX12_dearest_101 : dc cX12_dearest 101 (.goto 4) 3 104 := ⟨by decide +kernel, rfl⟩
theorem dX12_dearest_104 : dc cX12_dearest 104 (.iload_n 2) 1 105 := ⟨by decide +kernel, rfl⟩
theorem dX12_dearest_105 : dc cX12_dearest 105 (.ireturn) 1 106 := ⟨by decide +kernel, rfl⟩
theorem nm_X12_dearest : (yX12_dearest).cls ≠ "java/lang/invoke/MethodHandle" ∧ (yX12_dearest).cls ≠ "java/lang/invoke/VarHandle" ∧ (parseMethodDescriptor (yX12_dearest).desc).map (fun d => d.parameters.length) = some 1 := ⟨by decide +kernel, by decide +kernel, by decide +kernel⟩
set_option maxRecDepth 100000 in
set_option maxHeartbeats 4000000 in
theorem s_X12_dearest_31 {ad : Nat → Nat} {cy : Nat → ClassId} {x : KX} (G : KG ad cy x cX12_dearest "NoonGuidesModel" 5 (some (some .int)) 3) {a0 : Nat} {c1 : Int32} {M : KM} (h0 : kty a0 = 12) {k91 : Int32 → Option (Int32 × KM)} {y : (Int32 × KM)} (hk91 : ∀ (u2 : Int32), k91 u2 = some y → KV ad cy x (some (.int y.1), y.2) 91 [(0, .ref (ad a0)), (2, .int u2)] [] M) : ∀ (n : Nat) (w2 : Int32) (w3 : Int32) (w4 : Int32), lp_X12_dearest_31 n a0 c1 M w2 w3 w4 k91 = some y → KV ad cy x (some (.int y.1), y.2) 31 [(0, .ref (ad a0)), (1, .int c1), (2, .int w2), (3, .int w3), (4, .int w4)] [] M := by
  intro n
  induction n with
  | zero =>
    intro w2 w3 w4 hf
    cases hf
  | succ n ih =>
    intro w2 w3 w4 hf
    rw [lp_X12_dearest_31] at hf
    refine v_iload G dX12_dearest_31 4 rfl ?_
    refine v_aload_n G dX12_dearest_33 0 rfl ?_
    refine gf_12_20 G h0 t_1511 (Or.inl rfl) dX12_dearest_34 ?_
    refine v_iconst (2 : Int32) G dX12_dearest_37 (by decide) ?_
    obtain ⟨g4, hf⟩ := gd_e hf
    refine al_36 G (kf_12_5 h0) g4 dX12_dearest_38 ?_
    refine v_icmp_ge 91 G dX12_dearest_39 (by decide) (fun h12 => ?_) (fun h12 => ?_)
    · replace hf := (if_pos h12).symm.trans hf
      refine v_sub _ [0, 2] rfl ?_
      exact hk91 w2 hf
    · replace hf := (if_neg h12).symm.trans hf
      refine v_aload_n G dX12_dearest_42 0 rfl ?_
      refine gf_12_20 G h0 t_1511 (Or.inl rfl) dX12_dearest_43 ?_
      refine v_sipush (226 : Int32) G dX12_dearest_46 (by decide) ?_
      refine v_bipush (8 : Int32) G dX12_dearest_49 (by decide) ?_
      refine v_iload_n G dX12_dearest_51 1 rfl ?_
      refine v_imul G dX12_dearest_52 ?_
      refine v_iadd G dX12_dearest_53 ?_
      refine v_iload G dX12_dearest_54 4 rfl ?_
      refine v_iadd G dX12_dearest_56 ?_
      obtain ⟨g5, hf⟩ := gd_e hf
      refine al_36 G (kf_12_5 h0) g5 dX12_dearest_57 ?_
      refine v_iload_n G dX12_dearest_58 3 rfl ?_
      obtain ⟨j85, ej85, hf⟩ := lt_j hf
      have hj85 : ∀ (x6 : Int32) (x7 : Int32), j85 x6 x7 = some y → KV ad cy x (some (.int y.1), y.2) 85 [(0, .ref (ad a0)), (1, .int c1), (2, .int x6), (3, .int x7), (4, .int w4)] [] M := by
        intro x6 x7 hf
        rw [ej85] at hf
        obtain ⟨v8, ev8⟩ : ∃ q : Int32, q = w4 + (1 : Int32) := ⟨_, rfl⟩
        replace hf := lt_e hf ev8
        refine v_iinc v8 [(4, .int v8), (0, .ref (ad a0)), (1, .int c1), (2, .int x6), (3, .int x7)] G dX12_dearest_85 4 rfl (by rw [ev8]; rfl) (by decide) rfl ?_
        refine v_goto 31 G dX12_dearest_88 (by decide) ?_
        refine v_sub _ [1, 2, 3, 4, 0] rfl ?_
        exact ih x6 x7 v8 hf
      refine v_icmp_gt 65 G dX12_dearest_59 (by decide) (fun h11 => ?_) (fun h11 => ?_)
      · replace hf := (if_pos h11).symm.trans hf
        refine v_aload_n G dX12_dearest_65 0 rfl ?_
        refine gf_12_20 G h0 t_1511 (Or.inl rfl) dX12_dearest_66 ?_
        refine v_sipush (226 : Int32) G dX12_dearest_69 (by decide) ?_
        refine v_bipush (8 : Int32) G dX12_dearest_72 (by decide) ?_
        refine v_iload_n G dX12_dearest_74 1 rfl ?_
        refine v_imul G dX12_dearest_75 ?_
        refine v_iadd G dX12_dearest_76 ?_
        refine v_iload G dX12_dearest_77 4 rfl ?_
        refine v_iadd G dX12_dearest_79 ?_
        obtain ⟨g9, hf⟩ := gd_e hf
        refine al_36 G (kf_12_5 h0) g9 dX12_dearest_80 ?_
        refine v_nmi (fun v10 ev10 => ?_)
        replace hf := lt_e hf ev10
        refine v_istore_n [(3, .int v10), (0, .ref (ad a0)), (1, .int c1), (2, .int w2), (4, .int w4)] G dX12_dearest_81 (by decide) rfl ?_
        refine v_iload G dX12_dearest_82 4 rfl ?_
        refine v_istore_n [(2, .int w4), (3, .int v10), (0, .ref (ad a0)), (1, .int c1), (4, .int w4)] G dX12_dearest_84 (by decide) rfl ?_
        refine v_sub _ [2, 3, 0, 1, 4] rfl ?_
        exact hj85 w4 v10 hf
      · replace hf := (if_neg h11).symm.trans hf
        refine v_goto 85 G dX12_dearest_62 (by decide) ?_
        refine v_sub _ [0, 1, 2, 3, 4] rfl ?_
        exact hj85 w2 w3 hf
set_option maxRecDepth 100000 in
set_option maxHeartbeats 4000000 in
theorem c_X12_dearest {l : Launch} {ad : Nat → Nat} {cy : Nat → ClassId} {D : va_G} {z : Nat} (n : Nat) {a0 : Nat} {p1 : Int32} {M : KM} {y : (Int32 × KM)} (h0 : kty a0 = 12) (hf : f_X12_dearest n a0 p1 M = some y) : KC l ad cy D z yX12_dearest cX12_dearest 5 (some .int) 3 [.ref (ad a0), .int p1] M (some (.int y.1), y.2) := by
  refine kv_enter (by decide +kernel) (Nat.le_of_ble_eq_true rfl) ?_
  intro x hl hD hz G
  subst hl hD hz
  unfold f_X12_dearest at hf
  have G : KG ad cy x cX12_dearest "NoonGuidesModel" 5 (some (some .int)) 3 := G
  show KV ad cy x (some (.int y.1), y.2) 0 [(0, .ref (ad a0)), (1, .int p1)] [] M
  refine v_aload_n G dX12_dearest_0 0 rfl ?_
  refine v_iconst (0 : Int32) G dX12_dearest_1 (by decide) ?_
  refine pf_12_1 G h0 t_1492 (Or.inl rfl) dX12_dearest_2 ?_
  refine v_nmM (fun M1 eM1 => ?_)
  replace hf := lt_e hf eM1
  refine v_aload_n G dX12_dearest_5 0 rfl ?_
  refine v_iconst (0 : Int32) G dX12_dearest_6 (by decide) ?_
  refine pf_12_0 G h0 t_1491 (Or.inl rfl) dX12_dearest_7 ?_
  refine v_nmM (fun M2 eM2 => ?_)
  replace hf := lt_e hf eM2
  refine v_aload_n G dX12_dearest_10 0 rfl ?_
  refine v_iload_n G dX12_dearest_11 1 rfl ?_
  obtain ⟨v3, hcv3, hf⟩ := bd_e hf
  refine v_callV [.int p1] G (c_X12_isPerson n h0 hcv3) h0 (by decide) rfl rfl rfl t_1971 t_1973 t_p118 t_17 t_1974 nm_X12_isPerson (by decide) (by decide) rfl rfl (Nat.le_of_ble_eq_true rfl) dX12_dearest_12 (kv_ri ?_)
  refine v_if_ne 24 G dX12_dearest_15 (by decide) (fun h17 => ?_) (fun h17 => ?_)
  · replace hf := (if_neg h17).symm.trans hf
    refine v_iconst (-1 : Int32) G dX12_dearest_24 (by decide) ?_
    refine v_istore_n [(2, .int (-1 : Int32)), (0, .ref (ad a0)), (1, .int p1)] G dX12_dearest_25 (by decide) rfl ?_
    refine v_iconst (0 : Int32) G dX12_dearest_26 (by decide) ?_
    refine v_istore_n [(3, .int (0 : Int32)), (2, .int (-1 : Int32)), (0, .ref (ad a0)), (1, .int p1)] G dX12_dearest_27 (by decide) rfl ?_
    refine v_iconst (0 : Int32) G dX12_dearest_28 (by decide) ?_
    refine v_istore [(4, .int (0 : Int32)), (3, .int (0 : Int32)), (2, .int (-1 : Int32)), (0, .ref (ad a0)), (1, .int p1)] G dX12_dearest_29 (by decide) rfl ?_
    refine v_sub _ [3, 4, 2, 1, 0] rfl ?_
    refine s_X12_dearest_31 G h0 (fun u13 hf => ?_) n (-1 : Int32) (0 : Int32) (0 : Int32) hf
    · refine v_iload_n G dX12_dearest_91 1 rfl ?_
      refine v_if_ge 104 G dX12_dearest_92 (by decide) (fun h15 => ?_) (fun h15 => ?_)
      · replace hf := (if_pos h15).symm.trans hf
        refine v_iload_n G dX12_dearest_104 1 rfl ?_
        obtain rfl := Option.some.inj hf
        exact v_iret G dX12_dearest_105
      · replace hf := (if_neg h15).symm.trans hf
        refine v_aload_n G dX12_dearest_95 0 rfl ?_
        refine v_bipush (8 : Int32) G dX12_dearest_96 (by decide) ?_
        obtain ⟨v14, hcv14⟩ : ∃ q, f_X12_refuse a0 (8 : Int32) M2 = q := ⟨_, rfl⟩
        replace hf := lt_e hf hcv14.symm
        refine v_callV [.int (8 : Int32)] G (c_X12_refuse h0 hcv14) h0 (by decide) rfl rfl rfl t_1926 t_1928 t_p110 t_17 t_1929 nm_X12_refuse (by decide) (by decide) rfl rfl (Nat.le_of_ble_eq_true rfl) dX12_dearest_98 (kv_ri ?_)
        refine v_goto 105 G dX12_dearest_101 (by decide) ?_
        obtain rfl := Option.some.inj hf
        exact v_iret G dX12_dearest_105
  · replace hf := (if_pos h17).symm.trans hf
    refine v_aload_n G dX12_dearest_18 0 rfl ?_
    refine v_iconst (2 : Int32) G dX12_dearest_19 (by decide) ?_
    obtain ⟨v16, hcv16⟩ : ∃ q, f_X12_refuse a0 (2 : Int32) M2 = q := ⟨_, rfl⟩
    replace hf := lt_e hf hcv16.symm
    refine v_callV [.int (2 : Int32)] G (c_X12_refuse h0 hcv16) h0 (by decide) rfl rfl rfl t_1926 t_1928 t_p110 t_17 t_1929 nm_X12_refuse (by decide) (by decide) rfl rfl (Nat.le_of_ble_eq_true rfl) dX12_dearest_20 (kv_ri ?_)
    obtain rfl := Option.some.inj hf
    exact v_iret G dX12_dearest_23
abbrev cX12_clouds : ByteArray := prog_14_method_153_code
def yX12_clouds : MethodName := ⟨RX12, "clouds", "(II)Z"⟩
theorem dX12_clouds_0 : dc cX12_clouds 0 (.aload_n 0) 1 1 := ⟨by decide +kernel, rfl⟩
theorem dX12_clouds_1 : dc cX12_clouds 1 (.iconst 0) 1 2 := ⟨by decide +kernel, rfl⟩
theorem dX12_clouds_2 : dc cX12_clouds 2 (.putfield 75) 3 5 := ⟨by decide +kernel, rfl⟩
theorem dX12_clouds_5 : dc cX12_clouds 5 (.aload_n 0) 1 6 := ⟨by decide +kernel, rfl⟩
theorem dX12_clouds_6 : dc cX12_clouds 6 (.iconst 0) 1 7 := ⟨by decide +kernel, rfl⟩
theorem dX12_clouds_7 : dc cX12_clouds 7 (.putfield 78) 3 10 := ⟨by decide +kernel, rfl⟩
theorem dX12_clouds_10 : dc cX12_clouds 10 (.iload_n 1) 1 11 := ⟨by decide +kernel, rfl⟩
theorem dX12_clouds_11 : dc cX12_clouds 11 (.i2l) 1 12 := ⟨by decide +kernel, rfl⟩
theorem dX12_clouds_12 : dc cX12_clouds 12 (.lconst 0) 1 13 := ⟨by decide +kernel, rfl⟩
theorem dX12_clouds_13 : dc cX12_clouds 13 (.ldc2_w 497) 3 16 := ⟨by decide +kernel, rfl⟩
theorem dX12_clouds_16 : dc cX12_clouds 16 (.invokestatic 110) 3 19 := ⟨by decide +kernel, rfl⟩
theorem dX12_clouds_19 : dc cX12_clouds 19 (.ifCond .eq 15) 3 22 := ⟨by decide +kernel, rfl⟩
theorem dX12_clouds_22 : dc cX12_clouds 22 (.iload_n 2) 1 23 := ⟨by decide +kernel, rfl⟩
theorem dX12_clouds_23 : dc cX12_clouds 23 (.i2l) 1 24 := ⟨by decide +kernel, rfl⟩
theorem dX12_clouds_24 : dc cX12_clouds 24 (.lconst 0) 1 25 := ⟨by decide +kernel, rfl⟩
theorem dX12_clouds_25 : dc cX12_clouds 25 (.ldc2_w 497) 3 28 := ⟨by decide +kernel, rfl⟩
theorem dX12_clouds_28 : dc cX12_clouds 28 (.invokestatic 110) 3 31 := ⟨by decide +kernel, rfl⟩
theorem dX12_clouds_31 : dc cX12_clouds 31 (.ifCond .ne 9) 3 34 := ⟨by decide +kernel, rfl⟩
theorem dX12_clouds_34 : dc cX12_clouds 34 (.aload_n 0) 1 35 := ⟨by decide +kernel, rfl⟩
theorem dX12_clouds_35 : dc cX12_clouds 35 (.iconst 5) 1 36 := ⟨by decide +kernel, rfl⟩
theorem dX12_clouds_36 : dc cX12_clouds 36 (.invokevirtual 90) 3 39 := ⟨by decide +kernel, rfl⟩
theorem dX12_clouds_39 : dc cX12_clouds 39 (.ireturn) 1 40 := ⟨by decide +kernel, rfl⟩
theorem dX12_clouds_40 : dc cX12_clouds 40 (.lconst 1) 1 41 := ⟨by decide +kernel, rfl⟩
theorem dX12_clouds_41 : dc cX12_clouds 41 (.lstore_n 3) 1 42 := ⟨by decide +kernel, rfl⟩
theorem dX12_clouds_42 : dc cX12_clouds 42 (.iconst 0) 1 43 := ⟨by decide +kernel, rfl⟩
theorem dX12_clouds_43 : dc cX12_clouds 43 (.istore 5) 2 45 := ⟨by decide +kernel, rfl⟩
theorem dX12_clouds_45 : dc cX12_clouds 45 (.iload 5) 2 47 := ⟨by decide +kernel, rfl⟩
theorem dX12_clouds_47 : dc cX12_clouds 47 (.bipush 12) 2 49 := ⟨by decide +kernel, rfl⟩
theorem dX12_clouds_49 : dc cX12_clouds 49 (.if_icmp .gt 26) 3 52 := ⟨by decide +kernel, rfl⟩
theorem dX12_clouds_52 : dc cX12_clouds 52 (.aload_n 0) 1 53 := ⟨by decide +kernel, rfl⟩
theorem dX12_clouds_53 : dc cX12_clouds 53 (.getfield 65) 3 56 := ⟨by decide +kernel, rfl⟩
theorem dX12_clouds_56 : dc cX12_clouds 56 (.iload 5) 2 58 := ⟨by decide +kernel, rfl⟩
theorem dX12_clouds_58 : dc cX12_clouds 58 (.iload 5) 2 60 := ⟨by decide +kernel, rfl⟩
theorem dX12_clouds_60 : dc cX12_clouds 60 (.ifCond .ne 7) 3 63 := ⟨by decide +kernel, rfl⟩
theorem dX12_clouds_63 : dc cX12_clouds 63 (.lconst 1) 1 64 := ⟨by decide +kernel, rfl⟩
theorem dX12_clouds_64 : dc cX12_clouds 64 (.goto 4) 3 67 := ⟨by decide +kernel, rfl⟩
theorem dX12_clouds_67 : dc cX12_clouds 67 (.lconst 0) 1 68 := ⟨by decide +kernel, rfl⟩
theorem dX12_clouds_68 : dc cX12_clouds 68 (.lastore) 1 69 := ⟨by decide +kernel, rfl⟩
theorem dX12_clouds_69 : dc cX12_clouds 69 (.iinc 5 1) 3 72 := ⟨by decide +kernel, rfl⟩
theorem dX12_clouds_72 : dc cX12_clouds 72 (.goto (-27)) 3 75 := ⟨by decide +kernel, rfl⟩
theorem dX12_clouds_75 : dc cX12_clouds 75 (.iconst 0) 1 76 := ⟨by decide +kernel, rfl⟩
theorem dX12_clouds_76 : dc cX12_clouds 76 (.istore 5) 2 78 := ⟨by decide +kernel, rfl⟩
theorem dX12_clouds_78 : dc cX12_clouds 78 (.iload 5) 2 80 := ⟨by decide +kernel, rfl⟩
theorem dX12_clouds_80 : dc cX12_clouds 80 (.iload_n 1) 1 81 := ⟨by decide +kernel, rfl⟩
theorem dX12_clouds_81 : dc cX12_clouds 81 (.if_icmp .ge 95) 3 84 := ⟨by decide +kernel, rfl⟩
theorem dX12_clouds_84 : dc cX12_clouds 84 (.bipush 12) 2 86 := ⟨by decide +kernel, rfl⟩
theorem dX12_clouds_86 : dc cX12_clouds 86 (.istore 6) 2 88 := ⟨by decide +kernel, rfl⟩
theorem dX12_clouds_88 : dc cX12_clouds 88 (.iload 6) 2 90 := ⟨by decide +kernel, rfl⟩
theorem dX12_clouds_90 : dc cX12_clouds 90 (.ifCond .le 54) 3 93 := ⟨by decide +kernel, rfl⟩
theorem dX12_clouds_93 : dc cX12_clouds 93 (.aload_n 0) 1 94 := ⟨by decide +kernel, rfl⟩
theorem dX12_clouds_94 : dc cX12_clouds 94 (.getfield 65) 3 97 := ⟨by decide +kernel, rfl⟩
theorem dX12_clouds_97 : dc cX12_clouds 97 (.iload 6) 2 99 := ⟨by decide +kernel, rfl⟩
theorem dX12_clouds_99 : dc cX12_clouds 99 (.aload_n 0) 1 100 := ⟨by decide +kernel, rfl⟩
theorem dX12_clouds_100 : dc cX12_clouds 100 (.getfield 65) 3 103 := ⟨by decide +kernel, rfl⟩
theorem dX12_clouds_103 : dc cX12_clouds 103 (.iload 6) 2 105 := ⟨by decide +kernel, rfl⟩
theorem dX12_clouds_105 : dc cX12_clouds 105 (.laload) 1 106 := ⟨by decide +kernel, rfl⟩
theorem dX12_clouds_106 : dc cX12_clouds 106 (.bipush 16) 2 108 := ⟨by decide +kernel, rfl⟩
theorem dX12_clouds_108 : dc cX12_clouds 108 (.aload_n 0) 1 109 := ⟨by decide +kernel, rfl⟩
theorem dX12_clouds_109 : dc cX12_clouds 109 (.getfield 35) 3 112 := ⟨by decide +kernel, rfl⟩
theorem dX12_clouds_112 : dc cX12_clouds 112 (.bipush 8) 2 114 := ⟨by decide +kernel, rfl⟩
theorem dX12_clouds_114 : dc cX12_clouds 114 (.iaload) 1 115 := ⟨by decide +kernel, rfl⟩
theorem dX12_clouds_115 : dc cX12_clouds 115 (.isub) 1 116 := ⟨by decide +kernel, rfl⟩
theorem dX12_clouds_116 : dc cX12_clouds 116 (.i2l) 1 117 := ⟨by decide +kernel, rfl⟩
theorem dX12_clouds_117 : dc cX12_clouds 117 (.lmul) 1 118 := ⟨by decide +kernel, rfl⟩
theorem dX12_clouds_118 : dc cX12_clouds 118 (.aload_n 0) 1 119 := ⟨by decide +kernel, rfl⟩
theorem dX12_clouds_119 : dc cX12_clouds 119 (.getfield 65) 3 122 := ⟨by decide +kernel, rfl⟩
theorem dX12_clouds_122 : dc cX12_clouds 122 (.iload 6) 2 124 := ⟨by decide +kernel, rfl⟩
theorem dX12_clouds_124 : dc cX12_clouds 124 (.iconst 1) 1 125 := ⟨by decide +kernel, rfl⟩
theorem dX12_clouds_125 : dc cX12_clouds 125 (.isub) 1 126 := ⟨by decide +kernel, rfl⟩
theorem dX12_clouds_126 : dc cX12_clouds 126 (.laload) 1 127 := ⟨by decide +kernel, rfl⟩
theorem dX12_clouds_127 : dc cX12_clouds 127 (.aload_n 0) 1 128 := ⟨by decide +kernel, rfl⟩
theorem dX12_clouds_128 : dc cX12_clouds 128 (.getfield 35) 3 131 := ⟨by decide +kernel, rfl⟩
theorem dX12_clouds_131 : dc cX12_clouds 131 (.bipush 8) 2 133 := ⟨by decide +kernel, rfl⟩
theorem dX12_clouds_133 : dc cX12_clouds 133 (.iaload) 1 134 := ⟨by decide +kernel, rfl⟩
theorem dX12_clouds_134 : dc cX12_clouds 134 (.i2l) 1 135 := ⟨by decide +kernel, rfl⟩
theorem dX12_clouds_135 : dc cX12_clouds 135 (.lmul) 1 136 := ⟨by decide +kernel, rfl⟩
theorem dX12_clouds_136 : dc cX12_clouds 136 (.ladd) 1 137 := ⟨by decide +kernel, rfl⟩
theorem dX12_clouds_137 : dc cX12_clouds 137 (.lastore) 1 138 := ⟨by decide +kernel, rfl⟩
theorem dX12_clouds_138 : dc cX12_clouds 138 (.iinc 6 (-1)) 3 141 := ⟨by decide +kernel, rfl⟩
theorem dX12_clouds_141 : dc cX12_clouds 141 (.goto (-53)) 3 144 := ⟨by decide +kernel, rfl⟩
theorem dX12_clouds_144 : dc cX12_clouds 144 (.aload_n 0) 1 145 := ⟨by decide +kernel, rfl⟩
theorem dX12_clouds_145 : dc cX12_clouds 145 (.getfield 65) 3 148 := ⟨by decide +kernel, rfl⟩
theorem dX12_clouds_148 : dc cX12_clouds 148 (.iconst 0) 1 149 := ⟨by decide +kernel, rfl⟩
theorem dX12_clouds_149 : dc cX12_clouds 149 (.dup2) 1 150 := ⟨by decide +kernel, rfl⟩
theorem dX12_clouds_150 : dc cX12_clouds 150 (.laload) 1 151 := ⟨by decide +kernel, rfl⟩
theorem dX12_clouds_151 : dc cX12_clouds 151 (.bipush 16) 2 153 := ⟨by decide +kernel, rfl⟩
theorem dX12_clouds_153 : dc cX12_clouds 153 (.aload_n 0) 1 154 := ⟨by decide +kernel, rfl⟩
theorem dX12_clouds_154 : dc cX12_clouds 154 (.getfield 35) 3 157 := ⟨by decide +kernel, rfl⟩
theorem dX12_clouds_157 : dc cX12_clouds 157 (.bipush 8) 2 159 := ⟨by decide +kernel, rfl⟩
theorem dX12_clouds_159 : dc cX12_clouds 159 (.iaload) 1 160 := ⟨by decide +kernel, rfl⟩
theorem dX12_clouds_160 : dc cX12_clouds 160 (.isub) 1 161 := ⟨by decide +kernel, rfl⟩
theorem dX12_clouds_161 : dc cX12_clouds 161 (.i2l) 1 162 := ⟨by decide +kernel, rfl⟩
theorem dX12_clouds_162 : dc cX12_clouds 162 (.lmul) 1 163 := ⟨by decide +kernel, rfl⟩
theorem dX12_clouds_163 : dc cX12_clouds 163 (.lastore) 1 164 := ⟨by decide +kernel, rfl⟩
theorem dX12_clouds_164 : dc cX12_clouds 164 (.lload_n 3) 1 165 := ⟨by decide +kernel, rfl⟩
theorem dX12_clouds_165 : dc cX12_clouds 165 (.ldc2_w 499) 3 168 := ⟨by decide +kernel, rfl⟩
theorem dX12_clouds_168 : dc cX12_clouds 168 (.lmul) 1 169 := ⟨by decide +kernel, rfl⟩
theorem dX12_clouds_169 : dc cX12_clouds 169 (.lstore_n 3) 1 170 := ⟨by decide +kernel, rfl⟩
theorem dX12_clouds_170 : dc cX12_clouds 170 (.iinc 5 1) 3 173 := ⟨by decide +kernel, rfl⟩
theorem dX12_clouds_173 : dc cX12_clouds 173 (.goto (-95)) 3 176 := ⟨by decide +kernel, rfl⟩
theorem dX12_clouds_176 : dc cX12_clouds 176 (.lconst 0) 1 177 := ⟨by decide +kernel, rfl⟩
theorem dX12_clouds_177 : dc cX12_clouds 177 (.lstore 5) 2 179 := ⟨by decide +kernel, rfl⟩
theorem dX12_clouds_179 : dc cX12_clouds 179 (.iload_n 2) 1 180 := ⟨by decide +kernel, rfl⟩
theorem dX12_clouds_180 : dc cX12_clouds 180 (.istore 7) 2 182 := ⟨by decide +kernel, rfl⟩
theorem dX12_clouds_182 : dc cX12_clouds 182 (.iload 7) 2 184 := ⟨by decide +kernel, rfl⟩
theorem dX12_clouds_184 : dc cX12_clouds 184 (.bipush 12) 2 186 := ⟨by decide +kernel, rfl⟩
theorem dX12_clouds_186 : dc cX12_clouds 186 (.if_icmp .gt 21) 3 189 := ⟨by decide +kernel, rfl⟩
theorem dX12_clouds_189 : dc cX12_clouds 189 (.lload 5) 2 191 := ⟨by decide +kernel, rfl⟩
theorem dX12_clouds_191 : dc cX12_clouds 191 (.aload_n 0) 1 192 := ⟨by decide +kernel, rfl⟩
theorem dX12_clouds_192 : dc cX12_clouds 192 (.getfield 65) 3 195 := ⟨by decide +kernel, rfl⟩
theorem dX12_clouds_195 : dc cX12_clouds 195 (.iload 7) 2 197 := ⟨by decide +kernel, rfl⟩
theorem dX12_clouds_197 : dc cX12_clouds 197 (.laload) 1 198 := ⟨by decide +kernel, rfl⟩
theorem dX12_clouds_198 : dc cX12_clouds 198 (.ladd) 1 199 := ⟨by decide +kernel, rfl⟩
theorem dX12_clouds_199 : dc cX12_clouds 199 (.lstore 5) 2 201 := ⟨by decide +kernel, rfl⟩
theorem dX12_clouds_201 : dc cX12_clouds 201 (.iinc 7 1) 3 204 := ⟨by decide +kernel, rfl⟩
theorem dX12_clouds_204 : dc cX12_clouds 204 (.goto (-22)) 3 207 := ⟨by decide +kernel, rfl⟩
theorem dX12_clouds_207 : dc cX12_clouds 207 (.aload_n 0) 1 208 := ⟨by decide +kernel, rfl⟩
theorem dX12_clouds_208 : dc cX12_clouds 208 (.lload 5) 2 210 := ⟨by decide +kernel, rfl⟩
theorem dX12_clouds_210 : dc cX12_clouds 210 (.lload_n 3) 1 211 := ⟨by decide +kernel, rfl⟩
theorem dX12_clouds_211 : dc cX12_clouds 211 (.invokevirtual 501) 3 214 := ⟨by decide +kernel, rfl⟩
theorem dX12_clouds_214 : dc cX12_clouds 214 (.ireturn) 1 215 := ⟨by decide +kernel, rfl⟩
theorem nm_X12_clouds : (yX12_clouds).cls ≠ "java/lang/invoke/MethodHandle" ∧ (yX12_clouds).cls ≠ "java/lang/invoke/VarHandle" ∧ (parseMethodDescriptor (yX12_clouds).desc).map (fun d => d.parameters.length) = some 2 := ⟨by decide +kernel, by decide +kernel, by decide +kernel⟩
theorem zs_X12_clouds_45 {a0 : Nat} {c1 : Int32} {c2 : Int32} {c3 : Int64} {k75 : KM → Option (Int32 × KM)} {y : (Int32 × KM)} (hk75 : ∀ (M : KM), k75 M = some y → (y.1 = 0 ∨ y.1 = 1)) : ∀ (n : Nat) (w5 : Int32) (M : KM), lp_X12_clouds_45 n a0 c1 c2 c3 w5 M k75 = some y → (y.1 = 0 ∨ y.1 = 1) := by
  intro n
  induction n with
  | zero =>
    intro w5 M hf
    cases hf
  | succ n ih =>
    intro w5 M hf
    rw [lp_X12_clouds_45] at hf
    by_cases h11 : (12 : Int32) < w5
    · replace hf := (if_pos h11).symm.trans hf
      exact hk75 M hf
    · replace hf := (if_neg h11).symm.trans hf
      obtain ⟨j68, ej68, hf⟩ := lt_j hf
      have hj68 : ∀ (x6 : Int64), j68 x6 = some y → (y.1 = 0 ∨ y.1 = 1) := by
        intro x6 hf
        rw [ej68] at hf
        obtain ⟨g7, hf⟩ := gd_e hf
        obtain ⟨M8, eM8⟩ : ∃ q : KM, q = (uJ M (a0 + 15) (w5).toNatClampNeg x6) := ⟨_, rfl⟩
        replace hf := lt_e hf eM8
        obtain ⟨v9, ev9⟩ : ∃ q : Int32, q = w5 + (1 : Int32) := ⟨_, rfl⟩
        replace hf := lt_e hf ev9
        exact ih v9 M8 hf
      by_cases h10 : w5 = 0
      · replace hf := (if_pos h10).symm.trans hf
        exact hj68 (1 : Int64) hf
      · replace hf := (if_neg h10).symm.trans hf
        exact hj68 (0 : Int64) hf
theorem zs_X12_clouds_88 {a0 : Nat} {c1 : Int32} {c2 : Int32} {c3 : Int64} {c5 : Int32} {k144 : KM → Option (Int32 × KM)} {y : (Int32 × KM)} (hk144 : ∀ (M : KM), k144 M = some y → (y.1 = 0 ∨ y.1 = 1)) : ∀ (n : Nat) (w6 : Int32) (M : KM), lp_X12_clouds_88 n a0 c1 c2 c3 c5 w6 M k144 = some y → (y.1 = 0 ∨ y.1 = 1) := by
  intro n
  induction n with
  | zero =>
    intro w6 M hf
    cases hf
  | succ n ih =>
    intro w6 M hf
    rw [lp_X12_clouds_88] at hf
    by_cases h20 : w6 ≤ 0
    · replace hf := (if_pos h20).symm.trans hf
      exact hk144 M hf
    · replace hf := (if_neg h20).symm.trans hf
      obtain ⟨g13, hf⟩ := gd_e hf
      obtain ⟨g14, hf⟩ := gd_e hf
      obtain ⟨g15, hf⟩ := gd_e hf
      obtain ⟨g16, hf⟩ := gd_e hf
      obtain ⟨g17, hf⟩ := gd_e hf
      obtain ⟨M18, eM18⟩ : ∃ q : KM, q = (uJ M (a0 + 15) (w6).toNatClampNeg (((M.2.1 (a0 + 15) (w6).toNatClampNeg) * (((16 : Int32) - (M.1 (a0 + 5) ((8 : Int32)).toNatClampNeg))).toInt64) + ((M.2.1 (a0 + 15) ((w6 - (1 : Int32))).toNatClampNeg) * ((M.1 (a0 + 5) ((8 : Int32)).toNatClampNeg)).toInt64))) := ⟨_, rfl⟩
      replace hf := lt_e hf eM18
      obtain ⟨v19, ev19⟩ : ∃ q : Int32, q = w6 + (-1 : Int32) := ⟨_, rfl⟩
      replace hf := lt_e hf ev19
      exact ih v19 M18 hf
theorem zs_X12_clouds_78 {a0 : Nat} {c1 : Int32} {c2 : Int32} {k176 : Int64 → KM → Option (Int32 × KM)} {y : (Int32 × KM)} (hk176 : ∀ (u3 : Int64) (M : KM), k176 u3 M = some y → (y.1 = 0 ∨ y.1 = 1)) : ∀ (n : Nat) (w3 : Int64) (w5 : Int32) (M : KM), lp_X12_clouds_78 n a0 c1 c2 w3 w5 M k176 = some y → (y.1 = 0 ∨ y.1 = 1) := by
  intro n
  induction n with
  | zero =>
    intro w3 w5 M hf
    cases hf
  | succ n ih =>
    intro w3 w5 M hf
    rw [lp_X12_clouds_78] at hf
    by_cases h28 : c1 ≤ w5
    · replace hf := (if_pos h28).symm.trans hf
      exact hk176 w3 M hf
    · replace hf := (if_neg h28).symm.trans hf
      refine zs_X12_clouds_88 (fun M21 hf => ?_) n (12 : Int32) M hf
      · obtain ⟨g22, hf⟩ := gd_e hf
        obtain ⟨g23, hf⟩ := gd_e hf
        obtain ⟨g24, hf⟩ := gd_e hf
        obtain ⟨M25, eM25⟩ : ∃ q : KM, q = (uJ M21 (a0 + 15) ((0 : Int32)).toNatClampNeg ((M21.2.1 (a0 + 15) ((0 : Int32)).toNatClampNeg) * (((16 : Int32) - (M21.1 (a0 + 5) ((8 : Int32)).toNatClampNeg))).toInt64)) := ⟨_, rfl⟩
        replace hf := lt_e hf eM25
        obtain ⟨v26, ev26⟩ : ∃ q, q = ((w3 * (16 : Int64)) : Int64) := ⟨_, rfl⟩
        replace hf := lt_e hf ev26
        obtain ⟨v27, ev27⟩ : ∃ q : Int32, q = w5 + (1 : Int32) := ⟨_, rfl⟩
        replace hf := lt_e hf ev27
        exact ih v26 v27 M25 hf
theorem zs_X12_clouds_182 {a0 : Nat} {c3 : Int64} {M : KM} {k207 : Int64 → Option (Int32 × KM)} {y : (Int32 × KM)} (hk207 : ∀ (u5 : Int64), k207 u5 = some y → (y.1 = 0 ∨ y.1 = 1)) : ∀ (n : Nat) (w5 : Int64) (w7 : Int32), lp_X12_clouds_182 n a0 c3 M w5 w7 k207 = some y → (y.1 = 0 ∨ y.1 = 1) := by
  intro n
  induction n with
  | zero =>
    intro w5 w7 hf
    cases hf
  | succ n ih =>
    intro w5 w7 hf
    rw [lp_X12_clouds_182] at hf
    by_cases h34 : (12 : Int32) < w7
    · replace hf := (if_pos h34).symm.trans hf
      exact hk207 w5 hf
    · replace hf := (if_neg h34).symm.trans hf
      obtain ⟨g31, hf⟩ := gd_e hf
      obtain ⟨v32, ev32⟩ : ∃ q, q = ((w5 + (M.2.1 (a0 + 15) (w7).toNatClampNeg)) : Int64) := ⟨_, rfl⟩
      replace hf := lt_e hf ev32
      obtain ⟨v33, ev33⟩ : ∃ q : Int32, q = w7 + (1 : Int32) := ⟨_, rfl⟩
      replace hf := lt_e hf ev33
      exact ih v32 v33 hf
set_option maxRecDepth 100000 in
theorem z_X12_clouds (n : Nat) {a0 : Nat} {p1 : Int32} {p2 : Int32} {M : KM} {y : (Int32 × KM)} (hf : f_X12_clouds n a0 p1 p2 M = some y) : (y.1 = 0 ∨ y.1 = 1) := by
  unfold f_X12_clouds at hf
  obtain ⟨M1, eM1⟩ : ∃ q : KM, q = (uI M a0 1 (0 : Int32)) := ⟨_, rfl⟩
  replace hf := lt_e hf eM1
  obtain ⟨M2, eM2⟩ : ∃ q : KM, q = (uI M1 a0 0 (0 : Int32)) := ⟨_, rfl⟩
  replace hf := lt_e hf eM2
  obtain ⟨v3, hcv3⟩ : ∃ q, f_X12_isIn (p1).toInt64 (0 : Int64) (12 : Int64) M2 = q := ⟨_, rfl⟩
  replace hf := lt_e hf hcv3.symm
  obtain ⟨j34, ej34, hf⟩ := lt_j hf
  have hj34 : j34 = some y → (y.1 = 0 ∨ y.1 = 1) := by
    intro hf
    rw [ej34] at hf
    obtain ⟨v4, hcv4⟩ : ∃ q, f_X12_no a0 (5 : Int32) M2 = q := ⟨_, rfl⟩
    replace hf := lt_e hf hcv4.symm
    obtain rfl := Option.some.inj hf
    exact (z_X12_no hcv4)
  by_cases h38 : v3 = 0
  · replace hf := (if_pos h38).symm.trans hf
    exact hj34 hf
  · replace hf := (if_neg h38).symm.trans hf
    obtain ⟨v5, hcv5⟩ : ∃ q, f_X12_isIn (p2).toInt64 (0 : Int64) (12 : Int64) M2 = q := ⟨_, rfl⟩
    replace hf := lt_e hf hcv5.symm
    by_cases h37 : v5 = 0
    · replace hf := (if_pos h37).symm.trans hf
      exact hj34 hf
    · replace hf := (if_neg h37).symm.trans hf
      refine zs_X12_clouds_45 (fun M12 hf => ?_) n (0 : Int32) M2 hf
      · refine zs_X12_clouds_78 (fun u29 M30 hf => ?_) n (1 : Int64) (0 : Int32) M12 hf
        · refine zs_X12_clouds_182 (fun u35 hf => ?_) n (0 : Int64) p2 hf
          · obtain ⟨v36, hcv36, hf⟩ := bd_e hf
            obtain rfl := Option.some.inj hf
            exact (z_X12_fraction n hcv36)
set_option maxRecDepth 100000 in
set_option maxHeartbeats 4000000 in
theorem s_X12_clouds_45 {ad : Nat → Nat} {cy : Nat → ClassId} {x : KX} (G : KG ad cy x cX12_clouds "NoonGuidesModel" 8 (some (some .boolean)) 2) {a0 : Nat} {c1 : Int32} {c2 : Int32} {c3 : Int64} (h0 : kty a0 = 12) {k75 : KM → Option (Int32 × KM)} {y : (Int32 × KM)} (hk75 : ∀ (M : KM), k75 M = some y → KV ad cy x (some (.int y.1), y.2) 75 [(0, .ref (ad a0)), (1, .int c1), (2, .int c2), (3, .long c3)] [] M) : ∀ (n : Nat) (w5 : Int32) (M : KM), lp_X12_clouds_45 n a0 c1 c2 c3 w5 M k75 = some y → KV ad cy x (some (.int y.1), y.2) 45 [(0, .ref (ad a0)), (1, .int c1), (2, .int c2), (3, .long c3), (5, .int w5)] [] M := by
  intro n
  induction n with
  | zero =>
    intro w5 M hf
    cases hf
  | succ n ih =>
    intro w5 M hf
    rw [lp_X12_clouds_45] at hf
    refine v_iload G dX12_clouds_45 4 rfl ?_
    refine v_bipush (12 : Int32) G dX12_clouds_47 (by decide) ?_
    refine v_icmp_gt 75 G dX12_clouds_49 (by decide) (fun h11 => ?_) (fun h11 => ?_)
    · replace hf := (if_pos h11).symm.trans hf
      refine v_sub _ [0, 1, 2, 3] rfl ?_
      exact hk75 M hf
    · replace hf := (if_neg h11).symm.trans hf
      refine v_aload_n G dX12_clouds_52 0 rfl ?_
      refine gf_12_36 G h0 t_1527 (Or.inl rfl) dX12_clouds_53 ?_
      refine v_iload G dX12_clouds_56 4 rfl ?_
      refine v_iload G dX12_clouds_58 4 rfl ?_
      obtain ⟨j68, ej68, hf⟩ := lt_j hf
      have hj68 : ∀ (x6 : Int64), j68 x6 = some y → KV ad cy x (some (.int y.1), y.2) 68 [(0, .ref (ad a0)), (1, .int c1), (2, .int c2), (3, .long c3), (5, .int w5)] [.long x6, .int w5, .ref (ad (a0 + 15))] M := by
        intro x6 hf
        rw [ej68] at hf
        obtain ⟨g7, hf⟩ := gd_e hf
        refine as_39 G (kf_12_15 h0) g7 dX12_clouds_68 ?_
        refine v_nmM (fun M8 eM8 => ?_)
        replace hf := lt_e hf eM8
        obtain ⟨v9, ev9⟩ : ∃ q : Int32, q = w5 + (1 : Int32) := ⟨_, rfl⟩
        replace hf := lt_e hf ev9
        refine v_iinc v9 [(5, .int v9), (0, .ref (ad a0)), (1, .int c1), (2, .int c2), (3, .long c3)] G dX12_clouds_69 4 rfl (by rw [ev9]; rfl) (by decide) rfl ?_
        refine v_goto 45 G dX12_clouds_72 (by decide) ?_
        refine v_sub _ [1, 2, 3, 4, 0] rfl ?_
        exact ih v9 M8 hf
      refine v_if_ne 67 G dX12_clouds_60 (by decide) (fun h10 => ?_) (fun h10 => ?_)
      · replace hf := (if_neg h10).symm.trans hf
        refine v_lconst (0 : Int64) G dX12_clouds_67 (by decide) ?_
        refine v_sub _ [0, 1, 2, 3, 4] rfl ?_
        exact hj68 (0 : Int64) hf
      · replace hf := (if_pos h10).symm.trans hf
        refine v_lconst (1 : Int64) G dX12_clouds_63 (by decide) ?_
        refine v_goto 68 G dX12_clouds_64 (by decide) ?_
        refine v_sub _ [0, 1, 2, 3, 4] rfl ?_
        exact hj68 (1 : Int64) hf
set_option maxRecDepth 100000 in
set_option maxHeartbeats 4000000 in
theorem s_X12_clouds_88 {ad : Nat → Nat} {cy : Nat → ClassId} {x : KX} (G : KG ad cy x cX12_clouds "NoonGuidesModel" 8 (some (some .boolean)) 2) {a0 : Nat} {c1 : Int32} {c2 : Int32} {c3 : Int64} {c5 : Int32} (h0 : kty a0 = 12) {k144 : KM → Option (Int32 × KM)} {y : (Int32 × KM)} (hk144 : ∀ (M : KM), k144 M = some y → KV ad cy x (some (.int y.1), y.2) 144 [(0, .ref (ad a0)), (1, .int c1), (2, .int c2), (3, .long c3), (5, .int c5)] [] M) : ∀ (n : Nat) (w6 : Int32) (M : KM), lp_X12_clouds_88 n a0 c1 c2 c3 c5 w6 M k144 = some y → KV ad cy x (some (.int y.1), y.2) 88 [(0, .ref (ad a0)), (1, .int c1), (2, .int c2), (3, .long c3), (5, .int c5), (6, .int w6)] [] M := by
  intro n
  induction n with
  | zero =>
    intro w6 M hf
    cases hf
  | succ n ih =>
    intro w6 M hf
    rw [lp_X12_clouds_88] at hf
    refine v_iload G dX12_clouds_88 5 rfl ?_
    refine v_if_le 144 G dX12_clouds_90 (by decide) (fun h20 => ?_) (fun h20 => ?_)
    · replace hf := (if_pos h20).symm.trans hf
      refine v_sub _ [0, 1, 2, 3, 4] rfl ?_
      exact hk144 M hf
    · replace hf := (if_neg h20).symm.trans hf
      refine v_aload_n G dX12_clouds_93 0 rfl ?_
      refine gf_12_36 G h0 t_1527 (Or.inl rfl) dX12_clouds_94 ?_
      refine v_iload G dX12_clouds_97 5 rfl ?_
      refine v_aload_n G dX12_clouds_99 0 rfl ?_
      refine gf_12_36 G h0 t_1527 (Or.inl rfl) dX12_clouds_100 ?_
      refine v_iload G dX12_clouds_103 5 rfl ?_
      obtain ⟨g13, hf⟩ := gd_e hf
      refine al_39 G (kf_12_15 h0) g13 dX12_clouds_105 ?_
      refine v_bipush (16 : Int32) G dX12_clouds_106 (by decide) ?_
      refine v_aload_n G dX12_clouds_108 0 rfl ?_
      refine gf_12_20 G h0 t_1511 (Or.inl rfl) dX12_clouds_109 ?_
      refine v_bipush (8 : Int32) G dX12_clouds_112 (by decide) ?_
      obtain ⟨g14, hf⟩ := gd_e hf
      refine al_36 G (kf_12_5 h0) g14 dX12_clouds_114 ?_
      refine v_isub G dX12_clouds_115 ?_
      refine v_i2l G dX12_clouds_116 ?_
      refine v_lmul G dX12_clouds_117 ?_
      refine v_aload_n G dX12_clouds_118 0 rfl ?_
      refine gf_12_36 G h0 t_1527 (Or.inl rfl) dX12_clouds_119 ?_
      refine v_iload G dX12_clouds_122 5 rfl ?_
      refine v_iconst (1 : Int32) G dX12_clouds_124 (by decide) ?_
      refine v_isub G dX12_clouds_125 ?_
      obtain ⟨g15, hf⟩ := gd_e hf
      refine al_39 G (kf_12_15 h0) g15 dX12_clouds_126 ?_
      refine v_aload_n G dX12_clouds_127 0 rfl ?_
      refine gf_12_20 G h0 t_1511 (Or.inl rfl) dX12_clouds_128 ?_
      refine v_bipush (8 : Int32) G dX12_clouds_131 (by decide) ?_
      obtain ⟨g16, hf⟩ := gd_e hf
      refine al_36 G (kf_12_5 h0) g16 dX12_clouds_133 ?_
      refine v_i2l G dX12_clouds_134 ?_
      refine v_lmul G dX12_clouds_135 ?_
      refine v_ladd G dX12_clouds_136 ?_
      obtain ⟨g17, hf⟩ := gd_e hf
      refine as_39 G (kf_12_15 h0) g17 dX12_clouds_137 ?_
      refine v_nmM (fun M18 eM18 => ?_)
      replace hf := lt_e hf eM18
      obtain ⟨v19, ev19⟩ : ∃ q : Int32, q = w6 + (-1 : Int32) := ⟨_, rfl⟩
      replace hf := lt_e hf ev19
      refine v_iinc v19 [(6, .int v19), (0, .ref (ad a0)), (1, .int c1), (2, .int c2), (3, .long c3), (5, .int c5)] G dX12_clouds_138 5 rfl (by rw [ev19]; rfl) (by decide) rfl ?_
      refine v_goto 88 G dX12_clouds_141 (by decide) ?_
      refine v_sub _ [1, 2, 3, 4, 5, 0] rfl ?_
      exact ih v19 M18 hf
set_option maxRecDepth 100000 in
set_option maxHeartbeats 4000000 in
theorem s_X12_clouds_78 {ad : Nat → Nat} {cy : Nat → ClassId} {x : KX} (G : KG ad cy x cX12_clouds "NoonGuidesModel" 8 (some (some .boolean)) 2) {a0 : Nat} {c1 : Int32} {c2 : Int32} (h0 : kty a0 = 12) {k176 : Int64 → KM → Option (Int32 × KM)} {y : (Int32 × KM)} (hk176 : ∀ (u3 : Int64) (M : KM), k176 u3 M = some y → KV ad cy x (some (.int y.1), y.2) 176 [(0, .ref (ad a0)), (2, .int c2), (3, .long u3)] [] M) : ∀ (n : Nat) (w3 : Int64) (w5 : Int32) (M : KM), lp_X12_clouds_78 n a0 c1 c2 w3 w5 M k176 = some y → KV ad cy x (some (.int y.1), y.2) 78 [(0, .ref (ad a0)), (1, .int c1), (2, .int c2), (3, .long w3), (5, .int w5)] [] M := by
  intro n
  induction n with
  | zero =>
    intro w3 w5 M hf
    cases hf
  | succ n ih =>
    intro w3 w5 M hf
    rw [lp_X12_clouds_78] at hf
    refine v_iload G dX12_clouds_78 4 rfl ?_
    refine v_iload_n G dX12_clouds_80 1 rfl ?_
    refine v_icmp_ge 176 G dX12_clouds_81 (by decide) (fun h28 => ?_) (fun h28 => ?_)
    · replace hf := (if_pos h28).symm.trans hf
      refine v_sub _ [0, 2, 3] rfl ?_
      exact hk176 w3 M hf
    · replace hf := (if_neg h28).symm.trans hf
      refine v_bipush (12 : Int32) G dX12_clouds_84 (by decide) ?_
      refine v_istore [(6, .int (12 : Int32)), (0, .ref (ad a0)), (1, .int c1), (2, .int c2), (3, .long w3), (5, .int w5)] G dX12_clouds_86 (by decide) rfl ?_
      refine v_sub _ [1, 2, 3, 4, 5, 0] rfl ?_
      refine s_X12_clouds_88 G h0 (fun M21 hf => ?_) n (12 : Int32) M hf
      · refine v_aload_n G dX12_clouds_144 0 rfl ?_
        refine gf_12_36 G h0 t_1527 (Or.inl rfl) dX12_clouds_145 ?_
        refine v_iconst (0 : Int32) G dX12_clouds_148 (by decide) ?_
        refine v_dup2 G dX12_clouds_149 rfl rfl ?_
        obtain ⟨g22, hf⟩ := gd_e hf
        refine al_39 G (kf_12_15 h0) g22 dX12_clouds_150 ?_
        refine v_bipush (16 : Int32) G dX12_clouds_151 (by decide) ?_
        refine v_aload_n G dX12_clouds_153 0 rfl ?_
        refine gf_12_20 G h0 t_1511 (Or.inl rfl) dX12_clouds_154 ?_
        refine v_bipush (8 : Int32) G dX12_clouds_157 (by decide) ?_
        obtain ⟨g23, hf⟩ := gd_e hf
        refine al_36 G (kf_12_5 h0) g23 dX12_clouds_159 ?_
        refine v_isub G dX12_clouds_160 ?_
        refine v_i2l G dX12_clouds_161 ?_
        refine v_lmul G dX12_clouds_162 ?_
        obtain ⟨g24, hf⟩ := gd_e hf
        refine as_39 G (kf_12_15 h0) g24 dX12_clouds_163 ?_
        refine v_nmM (fun M25 eM25 => ?_)
        replace hf := lt_e hf eM25
        refine v_lload_n G dX12_clouds_164 3 rfl ?_
        refine v_ldc2 G dX12_clouds_165 t_2239 ?_
        refine v_lmul G dX12_clouds_168 ?_
        refine v_nml (fun v26 ev26 => ?_)
        replace hf := lt_e hf ev26
        refine v_lstore_n [(3, .long v26), (0, .ref (ad a0)), (1, .int c1), (2, .int c2), (5, .int w5)] G dX12_clouds_169 (by decide) rfl ?_
        obtain ⟨v27, ev27⟩ : ∃ q : Int32, q = w5 + (1 : Int32) := ⟨_, rfl⟩
        replace hf := lt_e hf ev27
        refine v_iinc v27 [(5, .int v27), (3, .long v26), (0, .ref (ad a0)), (1, .int c1), (2, .int c2)] G dX12_clouds_170 4 rfl (by rw [ev27]; rfl) (by decide) rfl ?_
        refine v_goto 78 G dX12_clouds_173 (by decide) ?_
        refine v_sub _ [2, 3, 4, 1, 0] rfl ?_
        exact ih v26 v27 M25 hf
set_option maxRecDepth 100000 in
set_option maxHeartbeats 4000000 in
theorem s_X12_clouds_182 {ad : Nat → Nat} {cy : Nat → ClassId} {x : KX} (G : KG ad cy x cX12_clouds "NoonGuidesModel" 8 (some (some .boolean)) 2) {a0 : Nat} {c3 : Int64} {M : KM} (h0 : kty a0 = 12) {k207 : Int64 → Option (Int32 × KM)} {y : (Int32 × KM)} (hk207 : ∀ (u5 : Int64), k207 u5 = some y → KV ad cy x (some (.int y.1), y.2) 207 [(0, .ref (ad a0)), (3, .long c3), (5, .long u5)] [] M) : ∀ (n : Nat) (w5 : Int64) (w7 : Int32), lp_X12_clouds_182 n a0 c3 M w5 w7 k207 = some y → KV ad cy x (some (.int y.1), y.2) 182 [(0, .ref (ad a0)), (3, .long c3), (5, .long w5), (7, .int w7)] [] M := by
  intro n
  induction n with
  | zero =>
    intro w5 w7 hf
    cases hf
  | succ n ih =>
    intro w5 w7 hf
    rw [lp_X12_clouds_182] at hf
    refine v_iload G dX12_clouds_182 3 rfl ?_
    refine v_bipush (12 : Int32) G dX12_clouds_184 (by decide) ?_
    refine v_icmp_gt 207 G dX12_clouds_186 (by decide) (fun h34 => ?_) (fun h34 => ?_)
    · replace hf := (if_pos h34).symm.trans hf
      refine v_sub _ [0, 1, 2] rfl ?_
      exact hk207 w5 hf
    · replace hf := (if_neg h34).symm.trans hf
      refine v_lload G dX12_clouds_189 2 rfl ?_
      refine v_aload_n G dX12_clouds_191 0 rfl ?_
      refine gf_12_36 G h0 t_1527 (Or.inl rfl) dX12_clouds_192 ?_
      refine v_iload G dX12_clouds_195 3 rfl ?_
      obtain ⟨g31, hf⟩ := gd_e hf
      refine al_39 G (kf_12_15 h0) g31 dX12_clouds_197 ?_
      refine v_ladd G dX12_clouds_198 ?_
      refine v_nml (fun v32 ev32 => ?_)
      replace hf := lt_e hf ev32
      refine v_lstore [(5, .long v32), (0, .ref (ad a0)), (3, .long c3), (7, .int w7)] G dX12_clouds_199 (by decide) rfl ?_
      obtain ⟨v33, ev33⟩ : ∃ q : Int32, q = w7 + (1 : Int32) := ⟨_, rfl⟩
      replace hf := lt_e hf ev33
      refine v_iinc v33 [(7, .int v33), (5, .long v32), (0, .ref (ad a0)), (3, .long c3)] G dX12_clouds_201 3 rfl (by rw [ev33]; rfl) (by decide) rfl ?_
      refine v_goto 182 G dX12_clouds_204 (by decide) ?_
      refine v_sub _ [2, 3, 1, 0] rfl ?_
      exact ih v32 v33 hf
set_option maxRecDepth 100000 in
set_option maxHeartbeats 4000000 in
theorem c_X12_clouds {l : Launch} {ad : Nat → Nat} {cy : Nat → ClassId} {D : va_G} {z : Nat} (n : Nat) {a0 : Nat} {p1 : Int32} {p2 : Int32} {M : KM} {y : (Int32 × KM)} (h0 : kty a0 = 12) (hf : f_X12_clouds n a0 p1 p2 M = some y) : KC l ad cy D z yX12_clouds cX12_clouds 8 (some .boolean) 2 [.ref (ad a0), .int p1, .int p2] M (some (.int y.1), y.2) := by
  refine kv_enter (by decide +kernel) (Nat.le_of_ble_eq_true rfl) ?_
  intro x hl hD hz G
  subst hl hD hz
  unfold f_X12_clouds at hf
  have G : KG ad cy x cX12_clouds "NoonGuidesModel" 8 (some (some .boolean)) 2 := G
  show KV ad cy x (some (.int y.1), y.2) 0 [(0, .ref (ad a0)), (1, .int p1), (2, .int p2)] [] M
  refine v_aload_n G dX12_clouds_0 0 rfl ?_
  refine v_iconst (0 : Int32) G dX12_clouds_1 (by decide) ?_
  refine pf_12_1 G h0 t_1492 (Or.inl rfl) dX12_clouds_2 ?_
  refine v_nmM (fun M1 eM1 => ?_)
  replace hf := lt_e hf eM1
  refine v_aload_n G dX12_clouds_5 0 rfl ?_
  refine v_iconst (0 : Int32) G dX12_clouds_6 (by decide) ?_
  refine pf_12_0 G h0 t_1491 (Or.inl rfl) dX12_clouds_7 ?_
  refine v_nmM (fun M2 eM2 => ?_)
  replace hf := lt_e hf eM2
  refine v_iload_n G dX12_clouds_10 1 rfl ?_
  refine v_i2l G dX12_clouds_11 ?_
  refine v_lconst (0 : Int64) G dX12_clouds_12 (by decide) ?_
  refine v_ldc2 G dX12_clouds_13 t_2238 ?_
  obtain ⟨v3, hcv3⟩ : ∃ q, f_X12_isIn (p1).toInt64 (0 : Int64) (12 : Int64) M2 = q := ⟨_, rfl⟩
  replace hf := lt_e hf hcv3.symm
  refine v_callS [.long (p1).toInt64, .long (0 : Int64), .long (12 : Int64)] G (c_X12_isIn hcv3) t_1755 t_1756 t_17 t_1757 nm_X12_isIn (by decide) (by decide) rfl rfl (Nat.le_of_ble_eq_true rfl) dX12_clouds_16 (kv_ri ?_)
  obtain ⟨j34, ej34, hf⟩ := lt_j hf
  have hj34 : j34 = some y → KV ad cy x (some (.int y.1), y.2) 34 [(0, .ref (ad a0))] [] M2 := by
    intro hf
    rw [ej34] at hf
    refine v_aload_n G dX12_clouds_34 0 rfl ?_
    refine v_iconst (5 : Int32) G dX12_clouds_35 (by decide) ?_
    obtain ⟨v4, hcv4⟩ : ∃ q, f_X12_no a0 (5 : Int32) M2 = q := ⟨_, rfl⟩
    replace hf := lt_e hf hcv4.symm
    refine v_callV [.int (5 : Int32)] G (c_X12_no h0 hcv4) h0 (by decide) rfl rfl rfl t_1649 t_1651 t_p55 t_17 t_1652 nm_X12_no (by decide) (by decide) rfl rfl (Nat.le_of_ble_eq_true rfl) dX12_clouds_36 (kv_ri ?_)
    obtain rfl := Option.some.inj hf
    exact v_zret G (z_X12_no hcv4) dX12_clouds_39
  refine v_if_eq 34 G dX12_clouds_19 (by decide) (fun h38 => ?_) (fun h38 => ?_)
  · replace hf := (if_pos h38).symm.trans hf
    refine v_sub _ [0] rfl ?_
    exact hj34 hf
  · replace hf := (if_neg h38).symm.trans hf
    refine v_iload_n G dX12_clouds_22 2 rfl ?_
    refine v_i2l G dX12_clouds_23 ?_
    refine v_lconst (0 : Int64) G dX12_clouds_24 (by decide) ?_
    refine v_ldc2 G dX12_clouds_25 t_2238 ?_
    obtain ⟨v5, hcv5⟩ : ∃ q, f_X12_isIn (p2).toInt64 (0 : Int64) (12 : Int64) M2 = q := ⟨_, rfl⟩
    replace hf := lt_e hf hcv5.symm
    refine v_callS [.long (p2).toInt64, .long (0 : Int64), .long (12 : Int64)] G (c_X12_isIn hcv5) t_1755 t_1756 t_17 t_1757 nm_X12_isIn (by decide) (by decide) rfl rfl (Nat.le_of_ble_eq_true rfl) dX12_clouds_28 (kv_ri ?_)
    refine v_if_ne 40 G dX12_clouds_31 (by decide) (fun h37 => ?_) (fun h37 => ?_)
    · replace hf := (if_neg h37).symm.trans hf
      refine v_lconst (1 : Int64) G dX12_clouds_40 (by decide) ?_
      refine v_lstore_n [(3, .long (1 : Int64)), (0, .ref (ad a0)), (1, .int p1), (2, .int p2)] G dX12_clouds_41 (by decide) rfl ?_
      refine v_iconst (0 : Int32) G dX12_clouds_42 (by decide) ?_
      refine v_istore [(5, .int (0 : Int32)), (3, .long (1 : Int64)), (0, .ref (ad a0)), (1, .int p1), (2, .int p2)] G dX12_clouds_43 (by decide) rfl ?_
      refine v_sub _ [2, 3, 4, 1, 0] rfl ?_
      refine s_X12_clouds_45 G h0 (fun M12 hf => ?_) n (0 : Int32) M2 hf
      · refine v_iconst (0 : Int32) G dX12_clouds_75 (by decide) ?_
        refine v_istore [(5, .int (0 : Int32)), (0, .ref (ad a0)), (1, .int p1), (2, .int p2), (3, .long (1 : Int64))] G dX12_clouds_76 (by decide) rfl ?_
        refine v_sub _ [1, 2, 3, 4, 0] rfl ?_
        refine s_X12_clouds_78 G h0 (fun u29 M30 hf => ?_) n (1 : Int64) (0 : Int32) M12 hf
        · refine v_lconst (0 : Int64) G dX12_clouds_176 (by decide) ?_
          refine v_lstore [(5, .long (0 : Int64)), (0, .ref (ad a0)), (2, .int p2), (3, .long u29)] G dX12_clouds_177 (by decide) rfl ?_
          refine v_iload_n G dX12_clouds_179 2 rfl ?_
          refine v_istore [(7, .int p2), (5, .long (0 : Int64)), (0, .ref (ad a0)), (2, .int p2), (3, .long u29)] G dX12_clouds_180 (by decide) rfl ?_
          refine v_sub _ [2, 4, 1, 0] rfl ?_
          refine s_X12_clouds_182 G h0 (fun u35 hf => ?_) n (0 : Int64) p2 hf
          · refine v_aload_n G dX12_clouds_207 0 rfl ?_
            refine v_lload G dX12_clouds_208 2 rfl ?_
            refine v_lload_n G dX12_clouds_210 1 rfl ?_
            obtain ⟨v36, hcv36, hf⟩ := bd_e hf
            refine v_callV [.long u35, .long u29] G (c_X12_fraction n h0 hcv36) h0 (by decide) rfl rfl rfl t_2240 t_2242 t_p148 t_17 t_2243 nm_X12_fraction (by decide) (by decide) rfl rfl (Nat.le_of_ble_eq_true rfl) dX12_clouds_211 (kv_ri ?_)
            obtain rfl := Option.some.inj hf
            exact v_zret G (z_X12_fraction n hcv36) dX12_clouds_214
    · replace hf := (if_pos h37).symm.trans hf
      refine v_sub _ [0] rfl ?_
      exact hj34 hf
abbrev cX12_keeps : ByteArray := prog_14_method_154_code
def yX12_keeps : MethodName := ⟨RX12, "keeps", "()V"⟩
theorem dX12_keeps_0 : dc cX12_keeps 0 (.iconst 0) 1 1 := ⟨by decide +kernel, rfl⟩
theorem dX12_keeps_1 : dc cX12_keeps 1 (.istore_n 1) 1 2 := ⟨by decide +kernel, rfl⟩
theorem dX12_keeps_2 : dc cX12_keeps 2 (.iload_n 1) 1 3 := ⟨by decide +kernel, rfl⟩
theorem dX12_keeps_3 : dc cX12_keeps 3 (.sipush 290) 3 6 := ⟨by decide +kernel, rfl⟩
theorem dX12_keeps_6 : dc cX12_keeps 6 (.if_icmp .ge 21) 3 9 := ⟨by decide +kernel, rfl⟩
theorem dX12_keeps_9 : dc cX12_keeps 9 (.aload_n 0) 1 10 := ⟨by decide +kernel, rfl⟩
theorem dX12_keeps_10 : dc cX12_keeps 10 (.getfield 38) 3 13 := ⟨by decide +kernel, rfl⟩
theorem dX12_keeps_13 : dc cX12_keeps 13 (.iload_n 1) 1 14 := ⟨by decide +kernel, rfl⟩
theorem dX12_keeps_14 : dc cX12_keeps 14 (.aload_n 0) 1 15 := ⟨by decide +kernel, rfl⟩
theorem dX12_keeps_15 : dc cX12_keeps 15 (.getfield 35) 3 18 := ⟨by decide +kernel, rfl⟩
theorem dX12_keeps_18 : dc cX12_keeps 18 (.iload_n 1) 1 19 := ⟨by decide +kernel, rfl⟩
theorem dX12_keeps_19 : dc cX12_keeps 19 (.iaload) 1 20 := ⟨by decide +kernel, rfl⟩
theorem dX12_keeps_20 : dc cX12_keeps 20 (.iastore) 1 21 := ⟨by decide +kernel, rfl⟩
theorem dX12_keeps_21 : dc cX12_keeps 21 (.iinc 1 1) 3 24 := ⟨by decide +kernel, rfl⟩
theorem dX12_keeps_24 : dc cX12_keeps 24 (.goto (-22)) 3 27 := ⟨by decide +kernel, rfl⟩
theorem dX12_keeps_27 : dc cX12_keeps 27 (.return_) 1 28 := ⟨by decide +kernel, rfl⟩
theorem nm_X12_keeps : (yX12_keeps).cls ≠ "java/lang/invoke/MethodHandle" ∧ (yX12_keeps).cls ≠ "java/lang/invoke/VarHandle" ∧ (parseMethodDescriptor (yX12_keeps).desc).map (fun d => d.parameters.length) = some 0 := ⟨by decide +kernel, by decide +kernel, by decide +kernel⟩
set_option maxRecDepth 100000 in
set_option maxHeartbeats 4000000 in
theorem s_X12_keeps_2 {ad : Nat → Nat} {cy : Nat → ClassId} {x : KX} (G : KG ad cy x cX12_keeps "NoonGuidesModel" 2 (some none) 1) {a0 : Nat} (h0 : kty a0 = 12) {y : KM} : ∀ (n : Nat) (w1 : Int32) (M : KM), lp_X12_keeps_2 n a0 w1 M = some y → KV ad cy x (none, y) 2 [(0, .ref (ad a0)), (1, .int w1)] [] M := by
  intro n
  induction n with
  | zero =>
    intro w1 M hf
    cases hf
  | succ n ih =>
    intro w1 M hf
    rw [lp_X12_keeps_2] at hf
    refine v_iload_n G dX12_keeps_2 1 rfl ?_
    refine v_sipush (290 : Int32) G dX12_keeps_3 (by decide) ?_
    refine v_icmp_ge 27 G dX12_keeps_6 (by decide) (fun h5 => ?_) (fun h5 => ?_)
    · replace hf := (if_pos h5).symm.trans hf
      obtain rfl := Option.some.inj hf
      exact v_vret G dX12_keeps_27
    · replace hf := (if_neg h5).symm.trans hf
      refine v_aload_n G dX12_keeps_9 0 rfl ?_
      refine gf_12_21 G h0 t_1512 (Or.inl rfl) dX12_keeps_10 ?_
      refine v_iload_n G dX12_keeps_13 1 rfl ?_
      refine v_aload_n G dX12_keeps_14 0 rfl ?_
      refine gf_12_20 G h0 t_1511 (Or.inl rfl) dX12_keeps_15 ?_
      refine v_iload_n G dX12_keeps_18 1 rfl ?_
      obtain ⟨g1, hf⟩ := gd_e hf
      refine al_36 G (kf_12_5 h0) g1 dX12_keeps_19 ?_
      obtain ⟨g2, hf⟩ := gd_e hf
      refine as_37 G (kf_12_6 h0) g2 dX12_keeps_20 ?_
      refine v_nmM (fun M3 eM3 => ?_)
      replace hf := lt_e hf eM3
      obtain ⟨v4, ev4⟩ : ∃ q : Int32, q = w1 + (1 : Int32) := ⟨_, rfl⟩
      replace hf := lt_e hf ev4
      refine v_iinc v4 [(1, .int v4), (0, .ref (ad a0))] G dX12_keeps_21 1 rfl (by rw [ev4]; rfl) (by decide) rfl ?_
      refine v_goto 2 G dX12_keeps_24 (by decide) ?_
      refine v_sub _ [1, 0] rfl ?_
      exact ih v4 M3 hf
set_option maxRecDepth 100000 in
set_option maxHeartbeats 4000000 in
theorem c_X12_keeps {l : Launch} {ad : Nat → Nat} {cy : Nat → ClassId} {D : va_G} {z : Nat} (n : Nat) {a0 : Nat} {M : KM} {y : KM} (h0 : kty a0 = 12) (hf : f_X12_keeps n a0 M = some y) : KC l ad cy D z yX12_keeps cX12_keeps 2 none 1 [.ref (ad a0)] M (none, y) := by
  refine kv_enter (by decide +kernel) (Nat.le_of_ble_eq_true rfl) ?_
  intro x hl hD hz G
  subst hl hD hz
  unfold f_X12_keeps at hf
  have G : KG ad cy x cX12_keeps "NoonGuidesModel" 2 (some none) 1 := G
  show KV ad cy x (none, y) 0 [(0, .ref (ad a0))] [] M
  refine v_iconst (0 : Int32) G dX12_keeps_0 (by decide) ?_
  refine v_istore_n [(1, .int (0 : Int32)), (0, .ref (ad a0))] G dX12_keeps_1 (by decide) rfl ?_
  refine v_sub _ [1, 0] rfl ?_
  refine s_X12_keeps_2 G h0 n (0 : Int32) M hf
abbrev cX12_gives : ByteArray := prog_14_method_155_code
def yX12_gives : MethodName := ⟨RX12, "gives", "()V"⟩
theorem dX12_gives_0 : dc cX12_gives 0 (.iconst 0) 1 1 := ⟨by decide +kernel, rfl⟩
theorem dX12_gives_1 : dc cX12_gives 1 (.istore_n 1) 1 2 := ⟨by decide +kernel, rfl⟩
theorem dX12_gives_2 : dc cX12_gives 2 (.iload_n 1) 1 3 := ⟨by decide +kernel, rfl⟩
theorem dX12_gives_3 : dc cX12_gives 3 (.sipush 290) 3 6 := ⟨by decide +kernel, rfl⟩
theorem dX12_gives_6 : dc cX12_gives 6 (.if_icmp .ge 21) 3 9 := ⟨by decide +kernel, rfl⟩
theorem dX12_gives_9 : dc cX12_gives 9 (.aload_n 0) 1 10 := ⟨by decide +kernel, rfl⟩
theorem dX12_gives_10 : dc cX12_gives 10 (.getfield 35) 3 13 := ⟨by decide +kernel, rfl⟩
theorem dX12_gives_13 : dc cX12_gives 13 (.iload_n 1) 1 14 := ⟨by decide +kernel, rfl⟩
theorem dX12_gives_14 : dc cX12_gives 14 (.aload_n 0) 1 15 := ⟨by decide +kernel, rfl⟩
theorem dX12_gives_15 : dc cX12_gives 15 (.getfield 38) 3 18 := ⟨by decide +kernel, rfl⟩
theorem dX12_gives_18 : dc cX12_gives 18 (.iload_n 1) 1 19 := ⟨by decide +kernel, rfl⟩
theorem dX12_gives_19 : dc cX12_gives 19 (.iaload) 1 20 := ⟨by decide +kernel, rfl⟩
theorem dX12_gives_20 : dc cX12_gives 20 (.iastore) 1 21 := ⟨by decide +kernel, rfl⟩
theorem dX12_gives_21 : dc cX12_gives 21 (.iinc 1 1) 3 24 := ⟨by decide +kernel, rfl⟩
theorem dX12_gives_24 : dc cX12_gives 24 (.goto (-22)) 3 27 := ⟨by decide +kernel, rfl⟩
theorem dX12_gives_27 : dc cX12_gives 27 (.return_) 1 28 := ⟨by decide +kernel, rfl⟩
theorem nm_X12_gives : (yX12_gives).cls ≠ "java/lang/invoke/MethodHandle" ∧ (yX12_gives).cls ≠ "java/lang/invoke/VarHandle" ∧ (parseMethodDescriptor (yX12_gives).desc).map (fun d => d.parameters.length) = some 0 := ⟨by decide +kernel, by decide +kernel, by decide +kernel⟩
set_option maxRecDepth 100000 in
set_option maxHeartbeats 4000000 in
theorem s_X12_gives_2 {ad : Nat → Nat} {cy : Nat → ClassId} {x : KX} (G : KG ad cy x cX12_gives "NoonGuidesModel" 2 (some none) 1) {a0 : Nat} (h0 : kty a0 = 12) {y : KM} : ∀ (n : Nat) (w1 : Int32) (M : KM), lp_X12_gives_2 n a0 w1 M = some y → KV ad cy x (none, y) 2 [(0, .ref (ad a0)), (1, .int w1)] [] M := by
  intro n
  induction n with
  | zero =>
    intro w1 M hf
    cases hf
  | succ n ih =>
    intro w1 M hf
    rw [lp_X12_gives_2] at hf
    refine v_iload_n G dX12_gives_2 1 rfl ?_
    refine v_sipush (290 : Int32) G dX12_gives_3 (by decide) ?_
    refine v_icmp_ge 27 G dX12_gives_6 (by decide) (fun h5 => ?_) (fun h5 => ?_)
    · replace hf := (if_pos h5).symm.trans hf
      obtain rfl := Option.some.inj hf
      exact v_vret G dX12_gives_27
    · replace hf := (if_neg h5).symm.trans hf
      refine v_aload_n G dX12_gives_9 0 rfl ?_
      refine gf_12_20 G h0 t_1511 (Or.inl rfl) dX12_gives_10 ?_
      refine v_iload_n G dX12_gives_13 1 rfl ?_
      refine v_aload_n G dX12_gives_14 0 rfl ?_
      refine gf_12_21 G h0 t_1512 (Or.inl rfl) dX12_gives_15 ?_
      refine v_iload_n G dX12_gives_18 1 rfl ?_
      obtain ⟨g1, hf⟩ := gd_e hf
      refine al_37 G (kf_12_6 h0) g1 dX12_gives_19 ?_
      obtain ⟨g2, hf⟩ := gd_e hf
      refine as_36 G (kf_12_5 h0) g2 dX12_gives_20 ?_
      refine v_nmM (fun M3 eM3 => ?_)
      replace hf := lt_e hf eM3
      obtain ⟨v4, ev4⟩ : ∃ q : Int32, q = w1 + (1 : Int32) := ⟨_, rfl⟩
      replace hf := lt_e hf ev4
      refine v_iinc v4 [(1, .int v4), (0, .ref (ad a0))] G dX12_gives_21 1 rfl (by rw [ev4]; rfl) (by decide) rfl ?_
      refine v_goto 2 G dX12_gives_24 (by decide) ?_
      refine v_sub _ [1, 0] rfl ?_
      exact ih v4 M3 hf
set_option maxRecDepth 100000 in
set_option maxHeartbeats 4000000 in
theorem c_X12_gives {l : Launch} {ad : Nat → Nat} {cy : Nat → ClassId} {D : va_G} {z : Nat} (n : Nat) {a0 : Nat} {M : KM} {y : KM} (h0 : kty a0 = 12) (hf : f_X12_gives n a0 M = some y) : KC l ad cy D z yX12_gives cX12_gives 2 none 1 [.ref (ad a0)] M (none, y) := by
  refine kv_enter (by decide +kernel) (Nat.le_of_ble_eq_true rfl) ?_
  intro x hl hD hz G
  subst hl hD hz
  unfold f_X12_gives at hf
  have G : KG ad cy x cX12_gives "NoonGuidesModel" 2 (some none) 1 := G
  show KV ad cy x (none, y) 0 [(0, .ref (ad a0))] [] M
  refine v_iconst (0 : Int32) G dX12_gives_0 (by decide) ?_
  refine v_istore_n [(1, .int (0 : Int32)), (0, .ref (ad a0))] G dX12_gives_1 (by decide) rfl ?_
  refine v_sub _ [1, 0] rfl ?_
  refine s_X12_gives_2 G h0 n (0 : Int32) M hf
abbrev cX12_losesBy : ByteArray := prog_14_method_156_code
def yX12_losesBy : MethodName := ⟨RX12, "losesBy", "(III)I"⟩
theorem dX12_losesBy_0 : dc cX12_losesBy 0 (.aload_n 0) 1 1 := ⟨by decide +kernel, rfl⟩
theorem dX12_losesBy_1 : dc cX12_losesBy 1 (.invokevirtual 505) 3 4 := ⟨by decide +kernel, rfl⟩
theorem dX12_losesBy_4 : dc cX12_losesBy 4 (.aload_n 0) 1 5 := ⟨by decide +kernel, rfl⟩
theorem dX12_losesBy_5 : dc cX12_losesBy 5 (.getfield 35) 3 8 := ⟨by decide +kernel, rfl⟩
theorem dX12_losesBy_8 : dc cX12_losesBy 8 (.iconst 3) 1 9 := ⟨by decide +kernel, rfl⟩
theorem dX12_losesBy_9 : dc cX12_losesBy 9 (.iload_n 2) 1 10 := ⟨by decide +kernel, rfl⟩
theorem dX12_losesBy_10 : dc cX12_losesBy 10 (.iastore) 1 11 := ⟨by decide +kernel, rfl⟩
theorem dX12_losesBy_11 : dc cX12_losesBy 11 (.aload_n 0) 1 12 := ⟨by decide +kernel, rfl⟩
theorem dX12_losesBy_12 : dc cX12_losesBy 12 (.getfield 35) 3 15 := ⟨by decide +kernel, rfl⟩
theorem dX12_losesBy_15 : dc cX12_losesBy 15 (.iconst 4) 1 16 := ⟨by decide +kernel, rfl⟩
theorem dX12_losesBy_16 : dc cX12_losesBy 16 (.iload_n 3) 1 17 := ⟨by decide +kernel, rfl⟩
theorem dX12_losesBy_17 : dc cX12_losesBy 17 (.iastore) 1 18 := ⟨by decide +kernel, rfl⟩
theorem dX12_losesBy_18 : dc cX12_losesBy 18 (.iconst 0) 1 19 := ⟨by decide +kernel, rfl⟩
theorem dX12_losesBy_19 : dc cX12_losesBy 19 (.istore 4) 2 21 := ⟨by decide +kernel, rfl⟩
theorem dX12_losesBy_21 : dc cX12_losesBy 21 (.iconst 0) 1 22 := ⟨by decide +kernel, rfl⟩
theorem dX12_losesBy_22 : dc cX12_losesBy 22 (.istore 5) 2 24 := ⟨by decide +kernel, rfl⟩
theorem dX12_losesBy_24 : dc cX12_losesBy 24 (.iload 5) 2 26 := ⟨by decide +kernel, rfl⟩
theorem dX12_losesBy_26 : dc cX12_losesBy 26 (.iload_n 1) 1 27 := ⟨by decide +kernel, rfl⟩
theorem dX12_losesBy_27 : dc cX12_losesBy 27 (.if_icmp .ge 22) 3 30 := ⟨by decide +kernel, rfl⟩
theorem dX12_losesBy_30 : dc cX12_losesBy 30 (.aload_n 0) 1 31 := ⟨by decide +kernel, rfl⟩
theorem dX12_losesBy_31 : dc cX12_losesBy 31 (.invokevirtual 408) 3 34 := ⟨by decide +kernel, rfl⟩
theorem dX12_losesBy_34 : dc cX12_losesBy 34 (.iload 4) 2 36 := ⟨by decide +kernel, rfl⟩
theorem dX12_losesBy_36 : dc cX12_losesBy 36 (.aload_n 0) 1 37 := ⟨by decide +kernel, rfl⟩
theorem dX12_losesBy_37 : dc cX12_losesBy 37 (.getfield 391) 3 40 := ⟨by decide +kernel, rfl⟩
theorem dX12_losesBy_40 : dc cX12_losesBy 40 (.iadd) 1 41 := ⟨by decide +kernel, rfl⟩
theorem dX12_losesBy_41 : dc cX12_losesBy 41 (.istore 4) 2 43 := ⟨by decide +kernel, rfl⟩
theorem dX12_losesBy_43 : dc cX12_losesBy 43 (.iinc 5 1) 3 46 := ⟨by decide +kernel, rfl⟩
theorem dX12_losesBy_46 : dc cX12_losesBy 46 (.goto (-22)) 3 49 := ⟨by decide +kernel, rfl⟩
theorem dX12_losesBy_49 : dc cX12_losesBy 49 (.aload_n 0) 1 50 := ⟨by decide +kernel, rfl⟩
theorem dX12_losesBy_50 : dc cX12_losesBy 50 (.invokevirtual 508) 3 53 := ⟨by decide +kernel, rfl⟩
theorem dX12_losesBy_53 : dc cX12_losesBy 53 (.iload 4) 2 55 := ⟨by decide +kernel, rfl⟩
theorem dX12_losesBy_55 : dc cX12_losesBy 55 (.ireturn) 1 56 := ⟨by decide +kernel, rfl⟩
theorem nm_X12_losesBy : (yX12_losesBy).cls ≠ "java/lang/invoke/MethodHandle" ∧ (yX12_losesBy).cls ≠ "java/lang/invoke/VarHandle" ∧ (parseMethodDescriptor (yX12_losesBy).desc).map (fun d => d.parameters.length) = some 3 := ⟨by decide +kernel, by decide +kernel, by decide +kernel⟩
set_option maxRecDepth 100000 in
set_option maxHeartbeats 4000000 in
theorem s_X12_losesBy_24 {ad : Nat → Nat} {cy : Nat → ClassId} {x : KX} (G : KG ad cy x cX12_losesBy "NoonGuidesModel" 6 (some (some .int)) 6) {a0 : Nat} {c1 : Int32} (h0 : kty a0 = 12) {k49 : Int32 → KM → Option (Int32 × KM)} {y : (Int32 × KM)} (hk49 : ∀ (u4 : Int32) (M : KM), k49 u4 M = some y → KV ad cy x (some (.int y.1), y.2) 49 [(0, .ref (ad a0)), (4, .int u4)] [] M) : ∀ (n : Nat) (w4 : Int32) (w5 : Int32) (M : KM), lp_X12_losesBy_24 n a0 c1 w4 w5 M k49 = some y → KV ad cy x (some (.int y.1), y.2) 24 [(0, .ref (ad a0)), (1, .int c1), (4, .int w4), (5, .int w5)] [] M := by
  intro n
  induction n with
  | zero =>
    intro w4 w5 M hf
    cases hf
  | succ n ih =>
    intro w4 w5 M hf
    rw [lp_X12_losesBy_24] at hf
    refine v_iload G dX12_losesBy_24 3 rfl ?_
    refine v_iload_n G dX12_losesBy_26 1 rfl ?_
    refine v_icmp_ge 49 G dX12_losesBy_27 (by decide) (fun h9 => ?_) (fun h9 => ?_)
    · replace hf := (if_pos h9).symm.trans hf
      refine v_sub _ [0, 2] rfl ?_
      exact hk49 w4 M hf
    · replace hf := (if_neg h9).symm.trans hf
      refine v_aload_n G dX12_losesBy_30 0 rfl ?_
      obtain ⟨v6, hcv6, hf⟩ := bd_e hf
      refine v_callV [] G (c_X12_goesMinute n h0 hcv6) h0 (by decide) rfl rfl rfl t_2002 t_2004 t_p120 t_17 t_2005 nm_X12_goesMinute (by decide) (by decide) rfl rfl (Nat.le_of_ble_eq_true rfl) dX12_losesBy_31 (kv_rv ?_)
      refine v_iload G dX12_losesBy_34 2 rfl ?_
      refine v_aload_n G dX12_losesBy_36 0 rfl ?_
      refine gf_12_29 G h0 t_1520 (Or.inl rfl) dX12_losesBy_37 ?_
      refine v_iadd G dX12_losesBy_40 ?_
      refine v_nmi (fun v7 ev7 => ?_)
      replace hf := lt_e hf ev7
      refine v_istore [(4, .int v7), (0, .ref (ad a0)), (1, .int c1), (5, .int w5)] G dX12_losesBy_41 (by decide) rfl ?_
      obtain ⟨v8, ev8⟩ : ∃ q : Int32, q = w5 + (1 : Int32) := ⟨_, rfl⟩
      replace hf := lt_e hf ev8
      refine v_iinc v8 [(5, .int v8), (4, .int v7), (0, .ref (ad a0)), (1, .int c1)] G dX12_losesBy_43 3 rfl (by rw [ev8]; rfl) (by decide) rfl ?_
      refine v_goto 24 G dX12_losesBy_46 (by decide) ?_
      refine v_sub _ [2, 3, 1, 0] rfl ?_
      exact ih v7 v8 v6 hf
set_option maxRecDepth 100000 in
set_option maxHeartbeats 4000000 in
theorem c_X12_losesBy {l : Launch} {ad : Nat → Nat} {cy : Nat → ClassId} {D : va_G} {z : Nat} (n : Nat) {a0 : Nat} {p1 : Int32} {p2 : Int32} {p3 : Int32} {M : KM} {y : (Int32 × KM)} (h0 : kty a0 = 12) (hf : f_X12_losesBy n a0 p1 p2 p3 M = some y) : KC l ad cy D z yX12_losesBy cX12_losesBy 6 (some .int) 6 [.ref (ad a0), .int p1, .int p2, .int p3] M (some (.int y.1), y.2) := by
  refine kv_enter (by decide +kernel) (Nat.le_of_ble_eq_true rfl) ?_
  intro x hl hD hz G
  subst hl hD hz
  unfold f_X12_losesBy at hf
  have G : KG ad cy x cX12_losesBy "NoonGuidesModel" 6 (some (some .int)) 6 := G
  show KV ad cy x (some (.int y.1), y.2) 0 [(0, .ref (ad a0)), (1, .int p1), (2, .int p2), (3, .int p3)] [] M
  refine v_aload_n G dX12_losesBy_0 0 rfl ?_
  obtain ⟨v1, hcv1, hf⟩ := bd_e hf
  refine v_callV [] G (c_X12_keeps n h0 hcv1) h0 (by decide) rfl rfl rfl t_2255 t_2257 t_p150 t_17 t_2258 nm_X12_keeps (by decide) (by decide) rfl rfl (Nat.le_of_ble_eq_true rfl) dX12_losesBy_1 (kv_rv ?_)
  refine v_aload_n G dX12_losesBy_4 0 rfl ?_
  refine gf_12_20 G h0 t_1511 (Or.inl rfl) dX12_losesBy_5 ?_
  refine v_iconst (3 : Int32) G dX12_losesBy_8 (by decide) ?_
  refine v_iload_n G dX12_losesBy_9 2 rfl ?_
  obtain ⟨g2, hf⟩ := gd_e hf
  refine as_36 G (kf_12_5 h0) g2 dX12_losesBy_10 ?_
  refine v_nmM (fun M3 eM3 => ?_)
  replace hf := lt_e hf eM3
  refine v_aload_n G dX12_losesBy_11 0 rfl ?_
  refine gf_12_20 G h0 t_1511 (Or.inl rfl) dX12_losesBy_12 ?_
  refine v_iconst (4 : Int32) G dX12_losesBy_15 (by decide) ?_
  refine v_iload_n G dX12_losesBy_16 3 rfl ?_
  obtain ⟨g4, hf⟩ := gd_e hf
  refine as_36 G (kf_12_5 h0) g4 dX12_losesBy_17 ?_
  refine v_nmM (fun M5 eM5 => ?_)
  replace hf := lt_e hf eM5
  refine v_iconst (0 : Int32) G dX12_losesBy_18 (by decide) ?_
  refine v_istore [(4, .int (0 : Int32)), (0, .ref (ad a0)), (1, .int p1), (2, .int p2), (3, .int p3)] G dX12_losesBy_19 (by decide) rfl ?_
  refine v_iconst (0 : Int32) G dX12_losesBy_21 (by decide) ?_
  refine v_istore [(5, .int (0 : Int32)), (4, .int (0 : Int32)), (0, .ref (ad a0)), (1, .int p1), (2, .int p2), (3, .int p3)] G dX12_losesBy_22 (by decide) rfl ?_
  refine v_sub _ [2, 3, 1, 0] rfl ?_
  refine s_X12_losesBy_24 G h0 (fun u10 M11 hf => ?_) n (0 : Int32) (0 : Int32) M5 hf
  · refine v_aload_n G dX12_losesBy_49 0 rfl ?_
    obtain ⟨v12, hcv12, hf⟩ := bd_e hf
    refine v_callV [] G (c_X12_gives n h0 hcv12) h0 (by decide) rfl rfl rfl t_2259 t_2261 t_p151 t_17 t_2262 nm_X12_gives (by decide) (by decide) rfl rfl (Nat.le_of_ble_eq_true rfl) dX12_losesBy_50 (kv_rv ?_)
    refine v_iload G dX12_losesBy_53 1 rfl ?_
    obtain rfl := Option.some.inj hf
    exact v_iret G dX12_losesBy_55
abbrev cX12_lostIn : ByteArray := prog_14_method_157_code
def yX12_lostIn : MethodName := ⟨RX12, "lostIn", "(I)I"⟩
theorem dX12_lostIn_0 : dc cX12_lostIn 0 (.aload_n 0) 1 1 := ⟨by decide +kernel, rfl⟩
theorem dX12_lostIn_1 : dc cX12_lostIn 1 (.iconst 0) 1 2 := ⟨by decide +kernel, rfl⟩
theorem dX12_lostIn_2 : dc cX12_lostIn 2 (.putfield 75) 3 5 := ⟨by decide +kernel, rfl⟩
theorem dX12_lostIn_5 : dc cX12_lostIn 5 (.aload_n 0) 1 6 := ⟨by decide +kernel, rfl⟩
theorem dX12_lostIn_6 : dc cX12_lostIn 6 (.iconst 0) 1 7 := ⟨by decide +kernel, rfl⟩
theorem dX12_lostIn_7 : dc cX12_lostIn 7 (.putfield 78) 3 10 := ⟨by decide +kernel, rfl⟩
theorem dX12_lostIn_10 : dc cX12_lostIn 10 (.iload_n 1) 1 11 := ⟨by decide +kernel, rfl⟩
theorem dX12_lostIn_11 : dc cX12_lostIn 11 (.i2l) 1 12 := ⟨by decide +kernel, rfl⟩
theorem dX12_lostIn_12 : dc cX12_lostIn 12 (.lconst 0) 1 13 := ⟨by decide +kernel, rfl⟩
theorem dX12_lostIn_13 : dc cX12_lostIn 13 (.ldc2_w 405) 3 16 := ⟨by decide +kernel, rfl⟩
theorem dX12_lostIn_16 : dc cX12_lostIn 16 (.invokestatic 110) 3 19 := ⟨by decide +kernel, rfl⟩
theorem dX12_lostIn_19 : dc cX12_lostIn 19 (.ifCond .eq 23) 3 22 := ⟨by decide +kernel, rfl⟩
theorem dX12_lostIn_22 : dc cX12_lostIn 22 (.aload_n 0) 1 23 := ⟨by decide +kernel, rfl⟩
theorem dX12_lostIn_23 : dc cX12_lostIn 23 (.iload_n 1) 1 24 := ⟨by decide +kernel, rfl⟩
theorem dX12_lostIn_24 : dc cX12_lostIn 24 (.aload_n 0) 1 25 := ⟨by decide +kernel, rfl⟩
theorem dX12_lostIn_25 : dc cX12_lostIn 25 (.getfield 35) 3 28 := ⟨by decide +kernel, rfl⟩
theorem dX12_lostIn_28 : dc cX12_lostIn 28 (.iconst 3) 1 29 := ⟨by decide +kernel, rfl⟩
theorem dX12_lostIn_29 : dc cX12_lostIn 29 (.iaload) 1 30 := ⟨by decide +kernel, rfl⟩
theorem dX12_lostIn_30 : dc cX12_lostIn 30 (.aload_n 0) 1 31 := ⟨by decide +kernel, rfl⟩
theorem dX12_lostIn_31 : dc cX12_lostIn 31 (.getfield 35) 3 34 := ⟨by decide +kernel, rfl⟩
theorem dX12_lostIn_34 : dc cX12_lostIn 34 (.iconst 4) 1 35 := ⟨by decide +kernel, rfl⟩
theorem dX12_lostIn_35 : dc cX12_lostIn 35 (.iaload) 1 36 := ⟨by decide +kernel, rfl⟩
theorem dX12_lostIn_36 : dc cX12_lostIn 36 (.invokevirtual 511) 3 39 := ⟨by decide +kernel, rfl⟩
theorem dX12_lostIn_39 : dc cX12_lostIn 39 (.goto 8) 3 42 := ⟨by decide +kernel, rfl⟩
theorem dX12_lostIn_42 : dc cX12_lostIn 42 (.aload_n 0) 1 43 := ⟨by decide +kernel, rfl⟩
theorem dX12_lostIn_43 : dc cX12_lostIn 43 (.iconst 5) 1 44 := ⟨by decide +kernel, rfl⟩
theorem dX12_lostIn_44 : dc cX12_lostIn 44 (.invokevirtual 355) 3 47 := ⟨by decide +kernel, rfl⟩
theorem dX12_lostIn_47 : dc cX12_lostIn 47 (.ireturn) 1 48 := ⟨by decide +kernel, rfl⟩
theorem nm_X12_lostIn : (yX12_lostIn).cls ≠ "java/lang/invoke/MethodHandle" ∧ (yX12_lostIn).cls ≠ "java/lang/invoke/VarHandle" ∧ (parseMethodDescriptor (yX12_lostIn).desc).map (fun d => d.parameters.length) = some 1 := ⟨by decide +kernel, by decide +kernel, by decide +kernel⟩
set_option maxRecDepth 100000 in
set_option maxHeartbeats 4000000 in
theorem c_X12_lostIn {l : Launch} {ad : Nat → Nat} {cy : Nat → ClassId} {D : va_G} {z : Nat} (n : Nat) {a0 : Nat} {p1 : Int32} {M : KM} {y : (Int32 × KM)} (h0 : kty a0 = 12) (hf : f_X12_lostIn n a0 p1 M = some y) : KC l ad cy D z yX12_lostIn cX12_lostIn 2 (some .int) 7 [.ref (ad a0), .int p1] M (some (.int y.1), y.2) := by
  refine kv_enter (by decide +kernel) (Nat.le_of_ble_eq_true rfl) ?_
  intro x hl hD hz G
  subst hl hD hz
  unfold f_X12_lostIn at hf
  have G : KG ad cy x cX12_lostIn "NoonGuidesModel" 2 (some (some .int)) 7 := G
  show KV ad cy x (some (.int y.1), y.2) 0 [(0, .ref (ad a0)), (1, .int p1)] [] M
  refine v_aload_n G dX12_lostIn_0 0 rfl ?_
  refine v_iconst (0 : Int32) G dX12_lostIn_1 (by decide) ?_
  refine pf_12_1 G h0 t_1492 (Or.inl rfl) dX12_lostIn_2 ?_
  refine v_nmM (fun M1 eM1 => ?_)
  replace hf := lt_e hf eM1
  refine v_aload_n G dX12_lostIn_5 0 rfl ?_
  refine v_iconst (0 : Int32) G dX12_lostIn_6 (by decide) ?_
  refine pf_12_0 G h0 t_1491 (Or.inl rfl) dX12_lostIn_7 ?_
  refine v_nmM (fun M2 eM2 => ?_)
  replace hf := lt_e hf eM2
  refine v_iload_n G dX12_lostIn_10 1 rfl ?_
  refine v_i2l G dX12_lostIn_11 ?_
  refine v_lconst (0 : Int64) G dX12_lostIn_12 (by decide) ?_
  refine v_ldc2 G dX12_lostIn_13 t_2000 ?_
  obtain ⟨v3, hcv3⟩ : ∃ q, f_X12_isIn (p1).toInt64 (0 : Int64) (999 : Int64) M2 = q := ⟨_, rfl⟩
  replace hf := lt_e hf hcv3.symm
  refine v_callS [.long (p1).toInt64, .long (0 : Int64), .long (999 : Int64)] G (c_X12_isIn hcv3) t_1755 t_1756 t_17 t_1757 nm_X12_isIn (by decide) (by decide) rfl rfl (Nat.le_of_ble_eq_true rfl) dX12_lostIn_16 (kv_ri ?_)
  refine v_if_eq 42 G dX12_lostIn_19 (by decide) (fun h8 => ?_) (fun h8 => ?_)
  · replace hf := (if_pos h8).symm.trans hf
    refine v_aload_n G dX12_lostIn_42 0 rfl ?_
    refine v_iconst (5 : Int32) G dX12_lostIn_43 (by decide) ?_
    obtain ⟨v4, hcv4⟩ : ∃ q, f_X12_refuse a0 (5 : Int32) M2 = q := ⟨_, rfl⟩
    replace hf := lt_e hf hcv4.symm
    refine v_callV [.int (5 : Int32)] G (c_X12_refuse h0 hcv4) h0 (by decide) rfl rfl rfl t_1926 t_1928 t_p110 t_17 t_1929 nm_X12_refuse (by decide) (by decide) rfl rfl (Nat.le_of_ble_eq_true rfl) dX12_lostIn_44 (kv_ri ?_)
    obtain rfl := Option.some.inj hf
    exact v_iret G dX12_lostIn_47
  · replace hf := (if_neg h8).symm.trans hf
    refine v_aload_n G dX12_lostIn_22 0 rfl ?_
    refine v_iload_n G dX12_lostIn_23 1 rfl ?_
    refine v_aload_n G dX12_lostIn_24 0 rfl ?_
    refine gf_12_20 G h0 t_1511 (Or.inl rfl) dX12_lostIn_25 ?_
    refine v_iconst (3 : Int32) G dX12_lostIn_28 (by decide) ?_
    obtain ⟨g5, hf⟩ := gd_e hf
    refine al_36 G (kf_12_5 h0) g5 dX12_lostIn_29 ?_
    refine v_aload_n G dX12_lostIn_30 0 rfl ?_
    refine gf_12_20 G h0 t_1511 (Or.inl rfl) dX12_lostIn_31 ?_
    refine v_iconst (4 : Int32) G dX12_lostIn_34 (by decide) ?_
    obtain ⟨g6, hf⟩ := gd_e hf
    refine al_36 G (kf_12_5 h0) g6 dX12_lostIn_35 ?_
    obtain ⟨v7, hcv7, hf⟩ := bd_e hf
    refine v_callV [.int p1, .int (M2.1 (a0 + 5) ((3 : Int32)).toNatClampNeg), .int (M2.1 (a0 + 5) ((4 : Int32)).toNatClampNeg)] G (c_X12_losesBy n h0 hcv7) h0 (by decide) rfl rfl rfl t_2251 t_2253 t_p149 t_17 t_2254 nm_X12_losesBy (by decide) (by decide) rfl rfl (Nat.le_of_ble_eq_true rfl) dX12_lostIn_36 (kv_ri ?_)
    refine v_goto 47 G dX12_lostIn_39 (by decide) ?_
    obtain rfl := Option.some.inj hf
    exact v_iret G dX12_lostIn_47
abbrev cX12_lostBy : ByteArray := prog_14_method_158_code
def yX12_lostBy : MethodName := ⟨RX12, "lostBy", "(III)I"⟩
theorem dX12_lostBy_0 : dc cX12_lostBy 0 (.aload_n 0) 1 1 := ⟨by decide +kernel, rfl⟩
theorem dX12_lostBy_1 : dc cX12_lostBy 1 (.iconst 0) 1 2 := ⟨by decide +kernel, rfl⟩
theorem dX12_lostBy_2 : dc cX12_lostBy 2 (.putfield 75) 3 5 := ⟨by decide +kernel, rfl⟩
theorem dX12_lostBy_5 : dc cX12_lostBy 5 (.aload_n 0) 1 6 := ⟨by decide +kernel, rfl⟩
theorem dX12_lostBy_6 : dc cX12_lostBy 6 (.iconst 0) 1 7 := ⟨by decide +kernel, rfl⟩
theorem dX12_lostBy_7 : dc cX12_lostBy 7 (.putfield 78) 3 10 := ⟨by decide +kernel, rfl⟩
theorem dX12_lostBy_10 : dc cX12_lostBy 10 (.iload_n 1) 1 11 := ⟨by decide +kernel, rfl⟩
theorem dX12_lostBy_11 : dc cX12_lostBy 11 (.i2l) 1 12 := ⟨by decide +kernel, rfl⟩
theorem dX12_lostBy_12 : dc cX12_lostBy 12 (.lconst 0) 1 13 := ⟨by decide +kernel, rfl⟩
theorem dX12_lostBy_13 : dc cX12_lostBy 13 (.ldc2_w 405) 3 16 := ⟨by decide +kernel, rfl⟩
theorem dX12_lostBy_16 : dc cX12_lostBy 16 (.invokestatic 110) 3 19 := ⟨by decide +kernel, rfl⟩
theorem dX12_lostBy_19 : dc cX12_lostBy 19 (.ifCond .eq 21) 3 22 := ⟨by decide +kernel, rfl⟩
theorem dX12_lostBy_22 : dc cX12_lostBy 22 (.iload_n 2) 1 23 := ⟨by decide +kernel, rfl⟩
theorem dX12_lostBy_23 : dc cX12_lostBy 23 (.iload_n 3) 1 24 := ⟨by decide +kernel, rfl⟩
theorem dX12_lostBy_24 : dc cX12_lostBy 24 (.invokestatic 440) 3 27 := ⟨by decide +kernel, rfl⟩
theorem dX12_lostBy_27 : dc cX12_lostBy 27 (.ifCond .eq 13) 3 30 := ⟨by decide +kernel, rfl⟩
theorem dX12_lostBy_30 : dc cX12_lostBy 30 (.aload_n 0) 1 31 := ⟨by decide +kernel, rfl⟩
theorem dX12_lostBy_31 : dc cX12_lostBy 31 (.iload_n 1) 1 32 := ⟨by decide +kernel, rfl⟩
theorem dX12_lostBy_32 : dc cX12_lostBy 32 (.iload_n 2) 1 33 := ⟨by decide +kernel, rfl⟩
theorem dX12_lostBy_33 : dc cX12_lostBy 33 (.iload_n 3) 1 34 := ⟨by decide +kernel, rfl⟩
theorem dX12_lostBy_34 : dc cX12_lostBy 34 (.invokevirtual 511) 3 37 := ⟨by decide +kernel, rfl⟩
theorem dX12_lostBy_37 : dc cX12_lostBy 37 (.goto 8) 3 40 := ⟨by decide +kernel, rfl⟩
theorem dX12_lostBy_40 : dc cX12_lostBy 40 (.aload_n 0) 1 41 := ⟨by decide +kernel, rfl⟩
theorem dX12_lostBy_41 : dc cX12_lostBy 41 (.iconst 5) 1 42 := ⟨by decide +kernel, rfl⟩
theorem dX12_lostBy_42 : dc cX12_lostBy 42 (.invokevirtual 355) 3 45 := ⟨by decide +kernel, rfl⟩
theorem dX12_lostBy_45 : dc cX12_lostBy 45 (.ireturn) 1 46 := ⟨by decide +kernel, rfl⟩
theorem nm_X12_lostBy : (yX12_lostBy).cls ≠ "java/lang/invoke/MethodHandle" ∧ (yX12_lostBy).cls ≠ "java/lang/invoke/VarHandle" ∧ (parseMethodDescriptor (yX12_lostBy).desc).map (fun d => d.parameters.length) = some 3 := ⟨by decide +kernel, by decide +kernel, by decide +kernel⟩
set_option maxRecDepth 100000 in
set_option maxHeartbeats 4000000 in
theorem c_X12_lostBy {l : Launch} {ad : Nat → Nat} {cy : Nat → ClassId} {D : va_G} {z : Nat} (n : Nat) {a0 : Nat} {p1 : Int32} {p2 : Int32} {p3 : Int32} {M : KM} {y : (Int32 × KM)} (h0 : kty a0 = 12) (hf : f_X12_lostBy n a0 p1 p2 p3 M = some y) : KC l ad cy D z yX12_lostBy cX12_lostBy 4 (some .int) 7 [.ref (ad a0), .int p1, .int p2, .int p3] M (some (.int y.1), y.2) := by
  refine kv_enter (by decide +kernel) (Nat.le_of_ble_eq_true rfl) ?_
  intro x hl hD hz G
  subst hl hD hz
  unfold f_X12_lostBy at hf
  have G : KG ad cy x cX12_lostBy "NoonGuidesModel" 4 (some (some .int)) 7 := G
  show KV ad cy x (some (.int y.1), y.2) 0 [(0, .ref (ad a0)), (1, .int p1), (2, .int p2), (3, .int p3)] [] M
  refine v_aload_n G dX12_lostBy_0 0 rfl ?_
  refine v_iconst (0 : Int32) G dX12_lostBy_1 (by decide) ?_
  refine pf_12_1 G h0 t_1492 (Or.inl rfl) dX12_lostBy_2 ?_
  refine v_nmM (fun M1 eM1 => ?_)
  replace hf := lt_e hf eM1
  refine v_aload_n G dX12_lostBy_5 0 rfl ?_
  refine v_iconst (0 : Int32) G dX12_lostBy_6 (by decide) ?_
  refine pf_12_0 G h0 t_1491 (Or.inl rfl) dX12_lostBy_7 ?_
  refine v_nmM (fun M2 eM2 => ?_)
  replace hf := lt_e hf eM2
  refine v_iload_n G dX12_lostBy_10 1 rfl ?_
  refine v_i2l G dX12_lostBy_11 ?_
  refine v_lconst (0 : Int64) G dX12_lostBy_12 (by decide) ?_
  refine v_ldc2 G dX12_lostBy_13 t_2000 ?_
  obtain ⟨v3, hcv3⟩ : ∃ q, f_X12_isIn (p1).toInt64 (0 : Int64) (999 : Int64) M2 = q := ⟨_, rfl⟩
  replace hf := lt_e hf hcv3.symm
  refine v_callS [.long (p1).toInt64, .long (0 : Int64), .long (999 : Int64)] G (c_X12_isIn hcv3) t_1755 t_1756 t_17 t_1757 nm_X12_isIn (by decide) (by decide) rfl rfl (Nat.le_of_ble_eq_true rfl) dX12_lostBy_16 (kv_ri ?_)
  obtain ⟨j40, ej40, hf⟩ := lt_j hf
  have hj40 : j40 = some y → KV ad cy x (some (.int y.1), y.2) 40 [(0, .ref (ad a0))] [] M2 := by
    intro hf
    rw [ej40] at hf
    refine v_aload_n G dX12_lostBy_40 0 rfl ?_
    refine v_iconst (5 : Int32) G dX12_lostBy_41 (by decide) ?_
    obtain ⟨v4, hcv4⟩ : ∃ q, f_X12_refuse a0 (5 : Int32) M2 = q := ⟨_, rfl⟩
    replace hf := lt_e hf hcv4.symm
    refine v_callV [.int (5 : Int32)] G (c_X12_refuse h0 hcv4) h0 (by decide) rfl rfl rfl t_1926 t_1928 t_p110 t_17 t_1929 nm_X12_refuse (by decide) (by decide) rfl rfl (Nat.le_of_ble_eq_true rfl) dX12_lostBy_42 (kv_ri ?_)
    obtain rfl := Option.some.inj hf
    exact v_iret G dX12_lostBy_45
  refine v_if_eq 40 G dX12_lostBy_19 (by decide) (fun h8 => ?_) (fun h8 => ?_)
  · replace hf := (if_pos h8).symm.trans hf
    refine v_sub _ [0] rfl ?_
    exact hj40 hf
  · replace hf := (if_neg h8).symm.trans hf
    refine v_iload_n G dX12_lostBy_22 2 rfl ?_
    refine v_iload_n G dX12_lostBy_23 3 rfl ?_
    obtain ⟨v5, hcv5⟩ : ∃ q, f_X12_areHours p2 p3 M2 = q := ⟨_, rfl⟩
    replace hf := lt_e hf hcv5.symm
    refine v_callS [.int p2, .int p3] G (c_X12_areHours hcv5) t_2094 t_2095 t_17 t_2096 nm_X12_areHours (by decide) (by decide) rfl rfl (Nat.le_of_ble_eq_true rfl) dX12_lostBy_24 (kv_ri ?_)
    refine v_if_eq 40 G dX12_lostBy_27 (by decide) (fun h7 => ?_) (fun h7 => ?_)
    · replace hf := (if_pos h7).symm.trans hf
      refine v_sub _ [0] rfl ?_
      exact hj40 hf
    · replace hf := (if_neg h7).symm.trans hf
      refine v_aload_n G dX12_lostBy_30 0 rfl ?_
      refine v_iload_n G dX12_lostBy_31 1 rfl ?_
      refine v_iload_n G dX12_lostBy_32 2 rfl ?_
      refine v_iload_n G dX12_lostBy_33 3 rfl ?_
      obtain ⟨v6, hcv6, hf⟩ := bd_e hf
      refine v_callV [.int p1, .int p2, .int p3] G (c_X12_losesBy n h0 hcv6) h0 (by decide) rfl rfl rfl t_2251 t_2253 t_p149 t_17 t_2254 nm_X12_losesBy (by decide) (by decide) rfl rfl (Nat.le_of_ble_eq_true rfl) dX12_lostBy_34 (kv_ri ?_)
      refine v_goto 45 G dX12_lostBy_37 (by decide) ?_
      obtain rfl := Option.some.inj hf
      exact v_iret G dX12_lostBy_45
abbrev cX12_bestFrom : ByteArray := prog_14_method_159_code
def yX12_bestFrom : MethodName := ⟨RX12, "bestFrom", "(I)I"⟩
theorem dX12_bestFrom_0 : dc cX12_bestFrom 0 (.aload_n 0) 1 1 := ⟨by decide +kernel, rfl⟩
theorem dX12_bestFrom_1 : dc cX12_bestFrom 1 (.iconst 0) 1 2 := ⟨by decide +kernel, rfl⟩
theorem dX12_bestFrom_2 : dc cX12_bestFrom 2 (.putfield 75) 3 5 := ⟨by decide +kernel, rfl⟩
theorem dX12_bestFrom_5 : dc cX12_bestFrom 5 (.aload_n 0) 1 6 := ⟨by decide +kernel, rfl⟩
theorem dX12_bestFrom_6 : dc cX12_bestFrom 6 (.iconst 0) 1 7 := ⟨by decide +kernel, rfl⟩
theorem dX12_bestFrom_7 : dc cX12_bestFrom 7 (.putfield 78) 3 10 := ⟨by decide +kernel, rfl⟩
theorem dX12_bestFrom_10 : dc cX12_bestFrom 10 (.iload_n 1) 1 11 := ⟨by decide +kernel, rfl⟩
theorem dX12_bestFrom_11 : dc cX12_bestFrom 11 (.i2l) 1 12 := ⟨by decide +kernel, rfl⟩
theorem dX12_bestFrom_12 : dc cX12_bestFrom 12 (.lconst 0) 1 13 := ⟨by decide +kernel, rfl⟩
theorem dX12_bestFrom_13 : dc cX12_bestFrom 13 (.ldc2_w 405) 3 16 := ⟨by decide +kernel, rfl⟩
theorem dX12_bestFrom_16 : dc cX12_bestFrom 16 (.invokestatic 110) 3 19 := ⟨by decide +kernel, rfl⟩
theorem dX12_bestFrom_19 : dc cX12_bestFrom 19 (.ifCond .ne 9) 3 22 := ⟨by decide +kernel, rfl⟩
theorem dX12_bestFrom_22 : dc cX12_bestFrom 22 (.aload_n 0) 1 23 := ⟨by decide +kernel, rfl⟩
theorem dX12_bestFrom_23 : dc cX12_bestFrom 23 (.iconst 5) 1 24 := ⟨by decide +kernel, rfl⟩
theorem dX12_bestFrom_24 : dc cX12_bestFrom 24 (.invokevirtual 355) 3 27 := ⟨by decide +kernel, rfl⟩
theorem dX12_bestFrom_27 : dc cX12_bestFrom 27 (.ireturn) 1 28 := ⟨by decide +kernel, rfl⟩
theorem dX12_bestFrom_28 : dc cX12_bestFrom 28 (.aload_n 0) 1 29 := ⟨by decide +kernel, rfl⟩
theorem dX12_bestFrom_29 : dc cX12_bestFrom 29 (.getfield 35) 3 32 := ⟨by decide +kernel, rfl⟩
theorem dX12_bestFrom_32 : dc cX12_bestFrom 32 (.iconst 4) 1 33 := ⟨by decide +kernel, rfl⟩
theorem dX12_bestFrom_33 : dc cX12_bestFrom 33 (.iaload) 1 34 := ⟨by decide +kernel, rfl⟩
theorem dX12_bestFrom_34 : dc cX12_bestFrom 34 (.aload_n 0) 1 35 := ⟨by decide +kernel, rfl⟩
theorem dX12_bestFrom_35 : dc cX12_bestFrom 35 (.getfield 35) 3 38 := ⟨by decide +kernel, rfl⟩
theorem dX12_bestFrom_38 : dc cX12_bestFrom 38 (.iconst 3) 1 39 := ⟨by decide +kernel, rfl⟩
theorem dX12_bestFrom_39 : dc cX12_bestFrom 39 (.iaload) 1 40 := ⟨by decide +kernel, rfl⟩
theorem dX12_bestFrom_40 : dc cX12_bestFrom 40 (.isub) 1 41 := ⟨by decide +kernel, rfl⟩
theorem dX12_bestFrom_41 : dc cX12_bestFrom 41 (.istore_n 2) 1 42 := ⟨by decide +kernel, rfl⟩
theorem dX12_bestFrom_42 : dc cX12_bestFrom 42 (.iconst (-1)) 1 43 := ⟨by decide +kernel, rfl⟩
theorem dX12_bestFrom_43 : dc cX12_bestFrom 43 (.istore_n 3) 1 44 := ⟨by decide +kernel, rfl⟩
theorem dX12_bestFrom_44 : dc cX12_bestFrom 44 (.iconst 0) 1 45 := ⟨by decide +kernel, rfl⟩
theorem dX12_bestFrom_45 : dc cX12_bestFrom 45 (.istore 4) 2 47 := ⟨by decide +kernel, rfl⟩
theorem dX12_bestFrom_47 : dc cX12_bestFrom 47 (.iconst 0) 1 48 := ⟨by decide +kernel, rfl⟩
theorem dX12_bestFrom_48 : dc cX12_bestFrom 48 (.istore 5) 2 50 := ⟨by decide +kernel, rfl⟩
theorem dX12_bestFrom_50 : dc cX12_bestFrom 50 (.iload 5) 2 52 := ⟨by decide +kernel, rfl⟩
theorem dX12_bestFrom_52 : dc cX12_bestFrom 52 (.bipush 24) 2 54 := ⟨by decide +kernel, rfl⟩
theorem dX12_bestFrom_54 : dc cX12_bestFrom 54 (.if_icmp .ge 48) 3 57 := ⟨by decide +kernel, rfl⟩
theorem dX12_bestFrom_57 : dc cX12_bestFrom 57 (.aload_n 0) 1 58 := ⟨by decide +kernel, rfl⟩
theorem dX12_bestFrom_58 : dc cX12_bestFrom 58 (.iload_n 1) 1 59 := ⟨by decide +kernel, rfl⟩
theorem dX12_bestFrom_59 : dc cX12_bestFrom 59 (.iload 5) 2 61 := ⟨by decide +kernel, rfl⟩
theorem dX12_bestFrom_61 : dc cX12_bestFrom 61 (.bipush 24) 2 63 := ⟨by decide +kernel, rfl⟩
theorem dX12_bestFrom_63 : dc cX12_bestFrom 63 (.iload 5) 2 65 := ⟨by decide +kernel, rfl⟩
theorem dX12_bestFrom_65 : dc cX12_bestFrom 65 (.iload_n 2) 1 66 := ⟨by decide +kernel, rfl⟩
theorem dX12_bestFrom_66 : dc cX12_bestFrom 66 (.iadd) 1 67 := ⟨by decide +kernel, rfl⟩
theorem dX12_bestFrom_67 : dc cX12_bestFrom 67 (.invokestatic 381) 3 70 := ⟨by decide +kernel, rfl⟩
theorem dX12_bestFrom_70 : dc cX12_bestFrom 70 (.invokevirtual 511) 3 73 := ⟨by decide +kernel, rfl⟩
theorem dX12_bestFrom_73 : dc cX12_bestFrom 73 (.istore 6) 2 75 := ⟨by decide +kernel, rfl⟩
theorem dX12_bestFrom_75 : dc cX12_bestFrom 75 (.iload_n 3) 1 76 := ⟨by decide +kernel, rfl⟩
theorem dX12_bestFrom_76 : dc cX12_bestFrom 76 (.ifCond .lt 13) 3 79 := ⟨by decide +kernel, rfl⟩
theorem dX12_bestFrom_79 : dc cX12_bestFrom 79 (.iload 6) 2 81 := ⟨by decide +kernel, rfl⟩
theorem dX12_bestFrom_81 : dc cX12_bestFrom 81 (.iload 4) 2 83 := ⟨by decide +kernel, rfl⟩
theorem dX12_bestFrom_83 : dc cX12_bestFrom 83 (.if_icmp .lt 6) 3 86 := ⟨by decide +kernel, rfl⟩
theorem dX12_bestFrom_86 : dc cX12_bestFrom 86 (.goto 10) 3 89 := ⟨by decide +kernel, rfl⟩
theorem dX12_bestFrom_89 : dc cX12_bestFrom 89 (.iload 5) 2 91 := ⟨by decide +kernel, rfl⟩
theorem dX12_bestFrom_91 : dc cX12_bestFrom 91 (.istore_n 3) 1 92 := ⟨by decide +kernel, rfl⟩
theorem dX12_bestFrom_92 : dc cX12_bestFrom 92 (.iload 6) 2 94 := ⟨by decide +kernel, rfl⟩
theorem dX12_bestFrom_94 : dc cX12_bestFrom 94 (.istore 4) 2 96 := ⟨by decide +kernel, rfl⟩
theorem dX12_bestFrom_96 : dc cX12_bestFrom 96 (.iinc 5 1) 3 99 := ⟨by decide +kernel, rfl⟩
theorem dX12_bestFrom_99 : dc cX12_bestFrom 99 (.goto (-49)) 3 102 := ⟨by decide +kernel, rfl⟩
theorem dX12_bestFrom_102 : dc cX12_bestFrom 102 (.iload_n 3) 1 103 := ⟨by decide +kernel, rfl⟩
theorem dX12_bestFrom_103 : dc cX12_bestFrom 103 (.ireturn) 1 104 := ⟨by decide +kernel, rfl⟩
theorem nm_X12_bestFrom : (yX12_bestFrom).cls ≠ "java/lang/invoke/MethodHandle" ∧ (yX12_bestFrom).cls ≠ "java/lang/invoke/VarHandle" ∧ (parseMethodDescriptor (yX12_bestFrom).desc).map (fun d => d.parameters.length) = some 1 := ⟨by decide +kernel, by decide +kernel, by decide +kernel⟩
set_option maxRecDepth 100000 in
set_option maxHeartbeats 4000000 in
theorem s_X12_bestFrom_50 {ad : Nat → Nat} {cy : Nat → ClassId} {x : KX} (G : KG ad cy x cX12_bestFrom "NoonGuidesModel" 7 (some (some .int)) 7) {a0 : Nat} {c1 : Int32} {c2 : Int32} (h0 : kty a0 = 12) {y : (Int32 × KM)} : ∀ (n : Nat) (w3 : Int32) (w4 : Int32) (w5 : Int32) (M : KM), lp_X12_bestFrom_50 n a0 c1 c2 w3 w4 w5 M = some y → KV ad cy x (some (.int y.1), y.2) 50 [(0, .ref (ad a0)), (1, .int c1), (2, .int c2), (3, .int w3), (4, .int w4), (5, .int w5)] [] M := by
  intro n
  induction n with
  | zero =>
    intro w3 w4 w5 M hf
    cases hf
  | succ n ih =>
    intro w3 w4 w5 M hf
    rw [lp_X12_bestFrom_50] at hf
    refine v_iload G dX12_bestFrom_50 5 rfl ?_
    refine v_bipush (24 : Int32) G dX12_bestFrom_52 (by decide) ?_
    refine v_icmp_ge 102 G dX12_bestFrom_54 (by decide) (fun h14 => ?_) (fun h14 => ?_)
    · replace hf := (if_pos h14).symm.trans hf
      refine v_iload_n G dX12_bestFrom_102 3 rfl ?_
      obtain rfl := Option.some.inj hf
      exact v_iret G dX12_bestFrom_103
    · replace hf := (if_neg h14).symm.trans hf
      refine v_aload_n G dX12_bestFrom_57 0 rfl ?_
      refine v_iload_n G dX12_bestFrom_58 1 rfl ?_
      refine v_iload G dX12_bestFrom_59 5 rfl ?_
      refine v_bipush (24 : Int32) G dX12_bestFrom_61 (by decide) ?_
      refine v_iload G dX12_bestFrom_63 5 rfl ?_
      refine v_iload_n G dX12_bestFrom_65 2 rfl ?_
      refine v_iadd G dX12_bestFrom_66 ?_
      refine v_mmin G (by decide) t_2022 t_658 t_19 t_659 (Nat.le_of_ble_eq_true rfl) dX12_bestFrom_67 ?_
      refine v_nmi (fun v7 ev7 => ?_)
      replace hf := lt_e hf ev7
      obtain ⟨v8, hcv8, hf⟩ := bd_e hf
      refine v_callV [.int c1, .int w5, .int v7] G (c_X12_losesBy n h0 hcv8) h0 (by decide) rfl rfl rfl t_2251 t_2253 t_p149 t_17 t_2254 nm_X12_losesBy (by decide) (by decide) rfl rfl (Nat.le_of_ble_eq_true rfl) dX12_bestFrom_70 (kv_ri ?_)
      refine v_istore [(6, .int v8.1), (0, .ref (ad a0)), (1, .int c1), (2, .int c2), (3, .int w3), (4, .int w4), (5, .int w5)] G dX12_bestFrom_73 (by decide) rfl ?_
      refine v_iload_n G dX12_bestFrom_75 4 rfl ?_
      obtain ⟨j96, ej96, hf⟩ := lt_j hf
      have hj96 : ∀ (x9 : Int32) (x10 : Int32), j96 x9 x10 = some y → KV ad cy x (some (.int y.1), y.2) 96 [(0, .ref (ad a0)), (1, .int c1), (2, .int c2), (3, .int x9), (4, .int x10), (5, .int w5)] [] v8.2 := by
        intro x9 x10 hf
        rw [ej96] at hf
        obtain ⟨v11, ev11⟩ : ∃ q : Int32, q = w5 + (1 : Int32) := ⟨_, rfl⟩
        replace hf := lt_e hf ev11
        refine v_iinc v11 [(5, .int v11), (0, .ref (ad a0)), (1, .int c1), (2, .int c2), (3, .int x9), (4, .int x10)] G dX12_bestFrom_96 5 rfl (by rw [ev11]; rfl) (by decide) rfl ?_
        refine v_goto 50 G dX12_bestFrom_99 (by decide) ?_
        refine v_sub _ [1, 2, 3, 4, 5, 0] rfl ?_
        exact ih x9 x10 v11 v8.2 hf
      obtain ⟨j89, ej89, hf⟩ := lt_j hf
      have hj89 : j89 = some y → KV ad cy x (some (.int y.1), y.2) 89 [(0, .ref (ad a0)), (1, .int c1), (2, .int c2), (5, .int w5), (6, .int v8.1)] [] v8.2 := by
        intro hf
        rw [ej89] at hf
        refine v_iload G dX12_bestFrom_89 3 rfl ?_
        refine v_istore_n [(3, .int w5), (0, .ref (ad a0)), (1, .int c1), (2, .int c2), (5, .int w5), (6, .int v8.1)] G dX12_bestFrom_91 (by decide) rfl ?_
        refine v_iload G dX12_bestFrom_92 5 rfl ?_
        refine v_istore [(4, .int v8.1), (3, .int w5), (0, .ref (ad a0)), (1, .int c1), (2, .int c2), (5, .int w5), (6, .int v8.1)] G dX12_bestFrom_94 (by decide) rfl ?_
        refine v_sub _ [2, 3, 4, 1, 0, 5] rfl ?_
        exact hj96 w5 v8.1 hf
      refine v_if_lt 89 G dX12_bestFrom_76 (by decide) (fun h13 => ?_) (fun h13 => ?_)
      · replace hf := (if_pos h13).symm.trans hf
        refine v_sub _ [1, 2, 3, 6, 0] rfl ?_
        exact hj89 hf
      · replace hf := (if_neg h13).symm.trans hf
        refine v_iload G dX12_bestFrom_79 0 rfl ?_
        refine v_iload G dX12_bestFrom_81 5 rfl ?_
        refine v_icmp_lt 89 G dX12_bestFrom_83 (by decide) (fun h12 => ?_) (fun h12 => ?_)
        · replace hf := (if_pos h12).symm.trans hf
          refine v_sub _ [1, 2, 3, 6, 0] rfl ?_
          exact hj89 hf
        · replace hf := (if_neg h12).symm.trans hf
          refine v_goto 96 G dX12_bestFrom_86 (by decide) ?_
          refine v_sub _ [1, 2, 3, 4, 5, 6] rfl ?_
          exact hj96 w3 w4 hf
set_option maxRecDepth 100000 in
set_option maxHeartbeats 4000000 in
theorem c_X12_bestFrom {l : Launch} {ad : Nat → Nat} {cy : Nat → ClassId} {D : va_G} {z : Nat} (n : Nat) {a0 : Nat} {p1 : Int32} {M : KM} {y : (Int32 × KM)} (h0 : kty a0 = 12) (hf : f_X12_bestFrom n a0 p1 M = some y) : KC l ad cy D z yX12_bestFrom cX12_bestFrom 7 (some .int) 7 [.ref (ad a0), .int p1] M (some (.int y.1), y.2) := by
  refine kv_enter (by decide +kernel) (Nat.le_of_ble_eq_true rfl) ?_
  intro x hl hD hz G
  subst hl hD hz
  unfold f_X12_bestFrom at hf
  have G : KG ad cy x cX12_bestFrom "NoonGuidesModel" 7 (some (some .int)) 7 := G
  show KV ad cy x (some (.int y.1), y.2) 0 [(0, .ref (ad a0)), (1, .int p1)] [] M
  refine v_aload_n G dX12_bestFrom_0 0 rfl ?_
  refine v_iconst (0 : Int32) G dX12_bestFrom_1 (by decide) ?_
  refine pf_12_1 G h0 t_1492 (Or.inl rfl) dX12_bestFrom_2 ?_
  refine v_nmM (fun M1 eM1 => ?_)
  replace hf := lt_e hf eM1
  refine v_aload_n G dX12_bestFrom_5 0 rfl ?_
  refine v_iconst (0 : Int32) G dX12_bestFrom_6 (by decide) ?_
  refine pf_12_0 G h0 t_1491 (Or.inl rfl) dX12_bestFrom_7 ?_
  refine v_nmM (fun M2 eM2 => ?_)
  replace hf := lt_e hf eM2
  refine v_iload_n G dX12_bestFrom_10 1 rfl ?_
  refine v_i2l G dX12_bestFrom_11 ?_
  refine v_lconst (0 : Int64) G dX12_bestFrom_12 (by decide) ?_
  refine v_ldc2 G dX12_bestFrom_13 t_2000 ?_
  obtain ⟨v3, hcv3⟩ : ∃ q, f_X12_isIn (p1).toInt64 (0 : Int64) (999 : Int64) M2 = q := ⟨_, rfl⟩
  replace hf := lt_e hf hcv3.symm
  refine v_callS [.long (p1).toInt64, .long (0 : Int64), .long (999 : Int64)] G (c_X12_isIn hcv3) t_1755 t_1756 t_17 t_1757 nm_X12_isIn (by decide) (by decide) rfl rfl (Nat.le_of_ble_eq_true rfl) dX12_bestFrom_16 (kv_ri ?_)
  refine v_if_ne 28 G dX12_bestFrom_19 (by decide) (fun h16 => ?_) (fun h16 => ?_)
  · replace hf := (if_neg h16).symm.trans hf
    refine v_aload_n G dX12_bestFrom_28 0 rfl ?_
    refine gf_12_20 G h0 t_1511 (Or.inl rfl) dX12_bestFrom_29 ?_
    refine v_iconst (4 : Int32) G dX12_bestFrom_32 (by decide) ?_
    obtain ⟨g4, hf⟩ := gd_e hf
    refine al_36 G (kf_12_5 h0) g4 dX12_bestFrom_33 ?_
    refine v_aload_n G dX12_bestFrom_34 0 rfl ?_
    refine gf_12_20 G h0 t_1511 (Or.inl rfl) dX12_bestFrom_35 ?_
    refine v_iconst (3 : Int32) G dX12_bestFrom_38 (by decide) ?_
    obtain ⟨g5, hf⟩ := gd_e hf
    refine al_36 G (kf_12_5 h0) g5 dX12_bestFrom_39 ?_
    refine v_isub G dX12_bestFrom_40 ?_
    refine v_nmi (fun v6 ev6 => ?_)
    replace hf := lt_e hf ev6
    refine v_istore_n [(2, .int v6), (0, .ref (ad a0)), (1, .int p1)] G dX12_bestFrom_41 (by decide) rfl ?_
    refine v_iconst (-1 : Int32) G dX12_bestFrom_42 (by decide) ?_
    refine v_istore_n [(3, .int (-1 : Int32)), (2, .int v6), (0, .ref (ad a0)), (1, .int p1)] G dX12_bestFrom_43 (by decide) rfl ?_
    refine v_iconst (0 : Int32) G dX12_bestFrom_44 (by decide) ?_
    refine v_istore [(4, .int (0 : Int32)), (3, .int (-1 : Int32)), (2, .int v6), (0, .ref (ad a0)), (1, .int p1)] G dX12_bestFrom_45 (by decide) rfl ?_
    refine v_iconst (0 : Int32) G dX12_bestFrom_47 (by decide) ?_
    refine v_istore [(5, .int (0 : Int32)), (4, .int (0 : Int32)), (3, .int (-1 : Int32)), (2, .int v6), (0, .ref (ad a0)), (1, .int p1)] G dX12_bestFrom_48 (by decide) rfl ?_
    refine v_sub _ [4, 5, 3, 2, 1, 0] rfl ?_
    refine s_X12_bestFrom_50 G h0 n (-1 : Int32) (0 : Int32) (0 : Int32) M2 hf
  · replace hf := (if_pos h16).symm.trans hf
    refine v_aload_n G dX12_bestFrom_22 0 rfl ?_
    refine v_iconst (5 : Int32) G dX12_bestFrom_23 (by decide) ?_
    obtain ⟨v15, hcv15⟩ : ∃ q, f_X12_refuse a0 (5 : Int32) M2 = q := ⟨_, rfl⟩
    replace hf := lt_e hf hcv15.symm
    refine v_callV [.int (5 : Int32)] G (c_X12_refuse h0 hcv15) h0 (by decide) rfl rfl rfl t_1926 t_1928 t_p110 t_17 t_1929 nm_X12_refuse (by decide) (by decide) rfl rfl (Nat.le_of_ble_eq_true rfl) dX12_bestFrom_24 (kv_ri ?_)
    obtain rfl := Option.some.inj hf
    exact v_iret G dX12_bestFrom_27
abbrev cX12_arrives : ByteArray := prog_14_method_160_code
def yX12_arrives : MethodName := ⟨RX12, "arrives", "(I)I"⟩
theorem dX12_arrives_0 : dc cX12_arrives 0 (.aload_n 0) 1 1 := ⟨by decide +kernel, rfl⟩
theorem dX12_arrives_1 : dc cX12_arrives 1 (.iconst 0) 1 2 := ⟨by decide +kernel, rfl⟩
theorem dX12_arrives_2 : dc cX12_arrives 2 (.putfield 75) 3 5 := ⟨by decide +kernel, rfl⟩
theorem dX12_arrives_5 : dc cX12_arrives 5 (.aload_n 0) 1 6 := ⟨by decide +kernel, rfl⟩
theorem dX12_arrives_6 : dc cX12_arrives 6 (.iconst 0) 1 7 := ⟨by decide +kernel, rfl⟩
theorem dX12_arrives_7 : dc cX12_arrives 7 (.putfield 78) 3 10 := ⟨by decide +kernel, rfl⟩
theorem dX12_arrives_10 : dc cX12_arrives 10 (.aload_n 0) 1 11 := ⟨by decide +kernel, rfl⟩
theorem dX12_arrives_11 : dc cX12_arrives 11 (.iload_n 1) 1 12 := ⟨by decide +kernel, rfl⟩
theorem dX12_arrives_12 : dc cX12_arrives 12 (.invokevirtual 373) 3 15 := ⟨by decide +kernel, rfl⟩
theorem dX12_arrives_15 : dc cX12_arrives 15 (.ifCond .ne 9) 3 18 := ⟨by decide +kernel, rfl⟩
theorem dX12_arrives_18 : dc cX12_arrives 18 (.aload_n 0) 1 19 := ⟨by decide +kernel, rfl⟩
theorem dX12_arrives_19 : dc cX12_arrives 19 (.iconst 2) 1 20 := ⟨by decide +kernel, rfl⟩
theorem dX12_arrives_20 : dc cX12_arrives 20 (.invokevirtual 355) 3 23 := ⟨by decide +kernel, rfl⟩
theorem dX12_arrives_23 : dc cX12_arrives 23 (.ireturn) 1 24 := ⟨by decide +kernel, rfl⟩
theorem dX12_arrives_24 : dc cX12_arrives 24 (.aload_n 0) 1 25 := ⟨by decide +kernel, rfl⟩
theorem dX12_arrives_25 : dc cX12_arrives 25 (.iload_n 1) 1 26 := ⟨by decide +kernel, rfl⟩
theorem dX12_arrives_26 : dc cX12_arrives 26 (.invokevirtual 350) 3 29 := ⟨by decide +kernel, rfl⟩
theorem dX12_arrives_29 : dc cX12_arrives 29 (.ifCond .ne 10) 3 32 := ⟨by decide +kernel, rfl⟩
theorem dX12_arrives_32 : dc cX12_arrives 32 (.aload_n 0) 1 33 := ⟨by decide +kernel, rfl⟩
theorem dX12_arrives_33 : dc cX12_arrives 33 (.bipush 9) 2 35 := ⟨by decide +kernel, rfl⟩
theorem dX12_arrives_35 : dc cX12_arrives 35 (.invokevirtual 355) 3 38 := ⟨by decide +kernel, rfl⟩
theorem dX12_arrives_38 : dc cX12_arrives 38 (.ireturn) 1 39 := ⟨by decide +kernel, rfl⟩
theorem dX12_arrives_39 : dc cX12_arrives 39 (.iconst (-1)) 1 40 := ⟨by decide +kernel, rfl⟩
theorem dX12_arrives_40 : dc cX12_arrives 40 (.istore_n 2) 1 41 := ⟨by decide +kernel, rfl⟩
theorem dX12_arrives_41 : dc cX12_arrives 41 (.aload_n 0) 1 42 := ⟨by decide +kernel, rfl⟩
theorem dX12_arrives_42 : dc cX12_arrives 42 (.invokevirtual 505) 3 45 := ⟨by decide +kernel, rfl⟩
theorem dX12_arrives_45 : dc cX12_arrives 45 (.iconst 1) 1 46 := ⟨by decide +kernel, rfl⟩
theorem dX12_arrives_46 : dc cX12_arrives 46 (.istore_n 3) 1 47 := ⟨by decide +kernel, rfl⟩
theorem dX12_arrives_47 : dc cX12_arrives 47 (.iload_n 3) 1 48 := ⟨by decide +kernel, rfl⟩
theorem dX12_arrives_48 : dc cX12_arrives 48 (.sipush 9999) 3 51 := ⟨by decide +kernel, rfl⟩
theorem dX12_arrives_51 : dc cX12_arrives 51 (.if_icmp .gt 27) 3 54 := ⟨by decide +kernel, rfl⟩
theorem dX12_arrives_54 : dc cX12_arrives 54 (.iload_n 2) 1 55 := ⟨by decide +kernel, rfl⟩
theorem dX12_arrives_55 : dc cX12_arrives 55 (.ifCond .ge 23) 3 58 := ⟨by decide +kernel, rfl⟩
theorem dX12_arrives_58 : dc cX12_arrives 58 (.aload_n 0) 1 59 := ⟨by decide +kernel, rfl⟩
theorem dX12_arrives_59 : dc cX12_arrives 59 (.invokevirtual 408) 3 62 := ⟨by decide +kernel, rfl⟩
theorem dX12_arrives_62 : dc cX12_arrives 62 (.aload_n 0) 1 63 := ⟨by decide +kernel, rfl⟩
theorem dX12_arrives_63 : dc cX12_arrives 63 (.iload_n 1) 1 64 := ⟨by decide +kernel, rfl⟩
theorem dX12_arrives_64 : dc cX12_arrives 64 (.invokevirtual 350) 3 67 := ⟨by decide +kernel, rfl⟩
theorem dX12_arrives_67 : dc cX12_arrives 67 (.ifCond .ne 5) 3 70 := ⟨by decide +kernel, rfl⟩
theorem dX12_arrives_70 : dc cX12_arrives 70 (.iload_n 3) 1 71 := ⟨by decide +kernel, rfl⟩
theorem dX12_arrives_71 : dc cX12_arrives 71 (.istore_n 2) 1 72 := ⟨by decide +kernel, rfl⟩
theorem dX12_arrives_72 : dc cX12_arrives 72 (.iinc 3 1) 3 75 := ⟨by decide +kernel, rfl⟩
theorem dX12_arrives_75 : dc cX12_arrives 75 (.goto (-28)) 3 78 := ⟨by decide +kernel, rfl⟩
theorem dX12_arrives_78 : dc cX12_arrives 78 (.aload_n 0) 1 79 := ⟨by decide +kernel, rfl⟩
theorem dX12_arrives_79 : dc cX12_arrives 79 (.invokevirtual 508) 3 82 := ⟨by decide +kernel, rfl⟩
theorem dX12_arrives_82 : dc cX12_arrives 82 (.iload_n 2) 1 83 := ⟨by decide +kernel, rfl⟩
theorem dX12_arrives_83 : dc cX12_arrives 83 (.ifCond .ge 12) 3 86 := ⟨by decide +kernel, rfl⟩
theorem dX12_arrives_86 : dc cX12_arrives 86 (.aload_n 0) 1 87 := ⟨by decide +kernel, rfl⟩
theorem dX12_arrives_87 : dc cX12_arrives 87 (.bipush 8) 2 89 := ⟨by decide +kernel, rfl⟩
theorem dX12_arrives_89 : dc cX12_arrives 89 (.invokevirtual 355) 3 92 := ⟨by decide +kernel, rfl⟩
theorem dX12_arrives_92 : dc cX12_arrives 92 (.goto 4) 3 95 := ⟨by decide +kernel, rfl⟩
theorem dX12_arrives_95 : dc cX12_arrives 95 (.iload_n 2) 1 96 := ⟨by decide +kernel, rfl⟩
theorem dX12_arrives_96 : dc cX12_arrives 96 (.ireturn) 1 97 := ⟨by decide +kernel, rfl⟩
theorem nm_X12_arrives : (yX12_arrives).cls ≠ "java/lang/invoke/MethodHandle" ∧ (yX12_arrives).cls ≠ "java/lang/invoke/VarHandle" ∧ (parseMethodDescriptor (yX12_arrives).desc).map (fun d => d.parameters.length) = some 1 := ⟨by decide +kernel, by decide +kernel, by decide +kernel⟩
set_option maxRecDepth 100000 in
set_option maxHeartbeats 4000000 in
theorem s_X12_arrives_47 {ad : Nat → Nat} {cy : Nat → ClassId} {x : KX} (G : KG ad cy x cX12_arrives "NoonGuidesModel" 4 (some (some .int)) 6) {a0 : Nat} {c1 : Int32} (h0 : kty a0 = 12) {k78 : Int32 → KM → Option (Int32 × KM)} {y : (Int32 × KM)} (hk78 : ∀ (u2 : Int32) (M : KM), k78 u2 M = some y → KV ad cy x (some (.int y.1), y.2) 78 [(0, .ref (ad a0)), (2, .int u2)] [] M) : ∀ (n : Nat) (w2 : Int32) (w3 : Int32) (M : KM), lp_X12_arrives_47 n a0 c1 w2 w3 M k78 = some y → KV ad cy x (some (.int y.1), y.2) 47 [(0, .ref (ad a0)), (1, .int c1), (2, .int w2), (3, .int w3)] [] M := by
  intro n
  induction n with
  | zero =>
    intro w2 w3 M hf
    cases hf
  | succ n ih =>
    intro w2 w3 M hf
    rw [lp_X12_arrives_47] at hf
    refine v_iload_n G dX12_arrives_47 3 rfl ?_
    refine v_sipush (9999 : Int32) G dX12_arrives_48 (by decide) ?_
    refine v_icmp_gt 78 G dX12_arrives_51 (by decide) (fun h12 => ?_) (fun h12 => ?_)
    · replace hf := (if_pos h12).symm.trans hf
      refine v_sub _ [0, 2] rfl ?_
      exact hk78 w2 M hf
    · replace hf := (if_neg h12).symm.trans hf
      refine v_iload_n G dX12_arrives_54 2 rfl ?_
      refine v_if_ge 78 G dX12_arrives_55 (by decide) (fun h11 => ?_) (fun h11 => ?_)
      · replace hf := (if_pos h11).symm.trans hf
        refine v_sub _ [0, 2] rfl ?_
        exact hk78 w2 M hf
      · replace hf := (if_neg h11).symm.trans hf
        refine v_aload_n G dX12_arrives_58 0 rfl ?_
        obtain ⟨v6, hcv6, hf⟩ := bd_e hf
        refine v_callV [] G (c_X12_goesMinute n h0 hcv6) h0 (by decide) rfl rfl rfl t_2002 t_2004 t_p120 t_17 t_2005 nm_X12_goesMinute (by decide) (by decide) rfl rfl (Nat.le_of_ble_eq_true rfl) dX12_arrives_59 (kv_rv ?_)
        refine v_aload_n G dX12_arrives_62 0 rfl ?_
        refine v_iload_n G dX12_arrives_63 1 rfl ?_
        obtain ⟨v7, hcv7, hf⟩ := bd_e hf
        refine v_callV [.int c1] G (c_X12_isGoing n h0 hcv7) h0 (by decide) rfl rfl rfl t_1942 t_1944 t_p114 t_17 t_1945 nm_X12_isGoing (by decide) (by decide) rfl rfl (Nat.le_of_ble_eq_true rfl) dX12_arrives_64 (kv_ri ?_)
        obtain ⟨j72, ej72, hf⟩ := lt_j hf
        have hj72 : ∀ (x8 : Int32), j72 x8 = some y → KV ad cy x (some (.int y.1), y.2) 72 [(0, .ref (ad a0)), (1, .int c1), (2, .int x8), (3, .int w3)] [] v6 := by
          intro x8 hf
          rw [ej72] at hf
          obtain ⟨v9, ev9⟩ : ∃ q : Int32, q = w3 + (1 : Int32) := ⟨_, rfl⟩
          replace hf := lt_e hf ev9
          refine v_iinc v9 [(3, .int v9), (0, .ref (ad a0)), (1, .int c1), (2, .int x8)] G dX12_arrives_72 3 rfl (by rw [ev9]; rfl) (by decide) rfl ?_
          refine v_goto 47 G dX12_arrives_75 (by decide) ?_
          refine v_sub _ [1, 2, 3, 0] rfl ?_
          exact ih x8 v9 v6 hf
        refine v_if_ne 72 G dX12_arrives_67 (by decide) (fun h10 => ?_) (fun h10 => ?_)
        · replace hf := (if_neg h10).symm.trans hf
          refine v_sub _ [0, 1, 2, 3] rfl ?_
          exact hj72 w2 hf
        · replace hf := (if_pos h10).symm.trans hf
          refine v_iload_n G dX12_arrives_70 3 rfl ?_
          refine v_istore_n [(2, .int w3), (0, .ref (ad a0)), (1, .int c1), (3, .int w3)] G dX12_arrives_71 (by decide) rfl ?_
          refine v_sub _ [1, 2, 0, 3] rfl ?_
          exact hj72 w3 hf
set_option maxRecDepth 100000 in
set_option maxHeartbeats 4000000 in
theorem c_X12_arrives {l : Launch} {ad : Nat → Nat} {cy : Nat → ClassId} {D : va_G} {z : Nat} (n : Nat) {a0 : Nat} {p1 : Int32} {M : KM} {y : (Int32 × KM)} (h0 : kty a0 = 12) (hf : f_X12_arrives n a0 p1 M = some y) : KC l ad cy D z yX12_arrives cX12_arrives 4 (some .int) 6 [.ref (ad a0), .int p1] M (some (.int y.1), y.2) := by
  refine kv_enter (by decide +kernel) (Nat.le_of_ble_eq_true rfl) ?_
  intro x hl hD hz G
  subst hl hD hz
  unfold f_X12_arrives at hf
  have G : KG ad cy x cX12_arrives "NoonGuidesModel" 4 (some (some .int)) 6 := G
  show KV ad cy x (some (.int y.1), y.2) 0 [(0, .ref (ad a0)), (1, .int p1)] [] M
  refine v_aload_n G dX12_arrives_0 0 rfl ?_
  refine v_iconst (0 : Int32) G dX12_arrives_1 (by decide) ?_
  refine pf_12_1 G h0 t_1492 (Or.inl rfl) dX12_arrives_2 ?_
  refine v_nmM (fun M1 eM1 => ?_)
  replace hf := lt_e hf eM1
  refine v_aload_n G dX12_arrives_5 0 rfl ?_
  refine v_iconst (0 : Int32) G dX12_arrives_6 (by decide) ?_
  refine pf_12_0 G h0 t_1491 (Or.inl rfl) dX12_arrives_7 ?_
  refine v_nmM (fun M2 eM2 => ?_)
  replace hf := lt_e hf eM2
  refine v_aload_n G dX12_arrives_10 0 rfl ?_
  refine v_iload_n G dX12_arrives_11 1 rfl ?_
  obtain ⟨v3, hcv3, hf⟩ := bd_e hf
  refine v_callV [.int p1] G (c_X12_isPerson n h0 hcv3) h0 (by decide) rfl rfl rfl t_1971 t_1973 t_p118 t_17 t_1974 nm_X12_isPerson (by decide) (by decide) rfl rfl (Nat.le_of_ble_eq_true rfl) dX12_arrives_12 (kv_ri ?_)
  refine v_if_ne 24 G dX12_arrives_15 (by decide) (fun h21 => ?_) (fun h21 => ?_)
  · replace hf := (if_neg h21).symm.trans hf
    refine v_aload_n G dX12_arrives_24 0 rfl ?_
    refine v_iload_n G dX12_arrives_25 1 rfl ?_
    obtain ⟨v4, hcv4, hf⟩ := bd_e hf
    refine v_callV [.int p1] G (c_X12_isGoing n h0 hcv4) h0 (by decide) rfl rfl rfl t_1942 t_1944 t_p114 t_17 t_1945 nm_X12_isGoing (by decide) (by decide) rfl rfl (Nat.le_of_ble_eq_true rfl) dX12_arrives_26 (kv_ri ?_)
    refine v_if_ne 39 G dX12_arrives_29 (by decide) (fun h19 => ?_) (fun h19 => ?_)
    · replace hf := (if_neg h19).symm.trans hf
      refine v_iconst (-1 : Int32) G dX12_arrives_39 (by decide) ?_
      refine v_istore_n [(2, .int (-1 : Int32)), (0, .ref (ad a0)), (1, .int p1)] G dX12_arrives_40 (by decide) rfl ?_
      refine v_aload_n G dX12_arrives_41 1 rfl ?_
      obtain ⟨v5, hcv5, hf⟩ := bd_e hf
      refine v_callV [] G (c_X12_keeps n h0 hcv5) h0 (by decide) rfl rfl rfl t_2255 t_2257 t_p150 t_17 t_2258 nm_X12_keeps (by decide) (by decide) rfl rfl (Nat.le_of_ble_eq_true rfl) dX12_arrives_42 (kv_rv ?_)
      refine v_iconst (1 : Int32) G dX12_arrives_45 (by decide) ?_
      refine v_istore_n [(3, .int (1 : Int32)), (2, .int (-1 : Int32)), (0, .ref (ad a0)), (1, .int p1)] G dX12_arrives_46 (by decide) rfl ?_
      refine v_sub _ [2, 3, 1, 0] rfl ?_
      refine s_X12_arrives_47 G h0 (fun u13 M14 hf => ?_) n (-1 : Int32) (1 : Int32) v5 hf
      · refine v_aload_n G dX12_arrives_78 0 rfl ?_
        obtain ⟨v15, hcv15, hf⟩ := bd_e hf
        refine v_callV [] G (c_X12_gives n h0 hcv15) h0 (by decide) rfl rfl rfl t_2259 t_2261 t_p151 t_17 t_2262 nm_X12_gives (by decide) (by decide) rfl rfl (Nat.le_of_ble_eq_true rfl) dX12_arrives_79 (kv_rv ?_)
        refine v_iload_n G dX12_arrives_82 1 rfl ?_
        refine v_if_ge 95 G dX12_arrives_83 (by decide) (fun h17 => ?_) (fun h17 => ?_)
        · replace hf := (if_pos h17).symm.trans hf
          refine v_iload_n G dX12_arrives_95 1 rfl ?_
          obtain rfl := Option.some.inj hf
          exact v_iret G dX12_arrives_96
        · replace hf := (if_neg h17).symm.trans hf
          refine v_aload_n G dX12_arrives_86 0 rfl ?_
          refine v_bipush (8 : Int32) G dX12_arrives_87 (by decide) ?_
          obtain ⟨v16, hcv16⟩ : ∃ q, f_X12_refuse a0 (8 : Int32) v15 = q := ⟨_, rfl⟩
          replace hf := lt_e hf hcv16.symm
          refine v_callV [.int (8 : Int32)] G (c_X12_refuse h0 hcv16) h0 (by decide) rfl rfl rfl t_1926 t_1928 t_p110 t_17 t_1929 nm_X12_refuse (by decide) (by decide) rfl rfl (Nat.le_of_ble_eq_true rfl) dX12_arrives_89 (kv_ri ?_)
          refine v_goto 96 G dX12_arrives_92 (by decide) ?_
          obtain rfl := Option.some.inj hf
          exact v_iret G dX12_arrives_96
    · replace hf := (if_pos h19).symm.trans hf
      refine v_aload_n G dX12_arrives_32 0 rfl ?_
      refine v_bipush (9 : Int32) G dX12_arrives_33 (by decide) ?_
      obtain ⟨v18, hcv18⟩ : ∃ q, f_X12_refuse a0 (9 : Int32) M2 = q := ⟨_, rfl⟩
      replace hf := lt_e hf hcv18.symm
      refine v_callV [.int (9 : Int32)] G (c_X12_refuse h0 hcv18) h0 (by decide) rfl rfl rfl t_1926 t_1928 t_p110 t_17 t_1929 nm_X12_refuse (by decide) (by decide) rfl rfl (Nat.le_of_ble_eq_true rfl) dX12_arrives_35 (kv_ri ?_)
      obtain rfl := Option.some.inj hf
      exact v_iret G dX12_arrives_38
  · replace hf := (if_pos h21).symm.trans hf
    refine v_aload_n G dX12_arrives_18 0 rfl ?_
    refine v_iconst (2 : Int32) G dX12_arrives_19 (by decide) ?_
    obtain ⟨v20, hcv20⟩ : ∃ q, f_X12_refuse a0 (2 : Int32) M2 = q := ⟨_, rfl⟩
    replace hf := lt_e hf hcv20.symm
    refine v_callV [.int (2 : Int32)] G (c_X12_refuse h0 hcv20) h0 (by decide) rfl rfl rfl t_1926 t_1928 t_p110 t_17 t_1929 nm_X12_refuse (by decide) (by decide) rfl rfl (Nat.le_of_ble_eq_true rfl) dX12_arrives_20 (kv_ri ?_)
    obtain rfl := Option.some.inj hf
    exact v_iret G dX12_arrives_23
abbrev cX12_draw : ByteArray := prog_14_method_161_code
def yX12_draw : MethodName := ⟨RX12, "draw", "(I)I"⟩
theorem dX12_draw_0 : dc cX12_draw 0 (.aload_n 0) 1 1 := ⟨by decide +kernel, rfl⟩
theorem dX12_draw_1 : dc cX12_draw 1 (.aload_n 0) 1 2 := ⟨by decide +kernel, rfl⟩
theorem dX12_draw_2 : dc cX12_draw 2 (.getfield 514) 3 5 := ⟨by decide +kernel, rfl⟩
theorem dX12_draw_5 : dc cX12_draw 5 (.sipush 2971) 3 8 := ⟨by decide +kernel, rfl⟩
theorem dX12_draw_8 : dc cX12_draw 8 (.imul) 1 9 := ⟨by decide +kernel, rfl⟩
theorem dX12_draw_9 : dc cX12_draw 9 (.sipush 10733) 3 12 := ⟨by decide +kernel, rfl⟩
theorem dX12_draw_12 : dc cX12_draw 12 (.iadd) 1 13 := ⟨by decide +kernel, rfl⟩
theorem dX12_draw_13 : dc cX12_draw 13 (.ldc_w 517) 3 16 := ⟨by decide +kernel, rfl⟩
theorem dX12_draw_16 : dc cX12_draw 16 (.irem) 1 17 := ⟨by decide +kernel, rfl⟩
theorem dX12_draw_17 : dc cX12_draw 17 (.putfield 514) 3 20 := ⟨by decide +kernel, rfl⟩
theorem dX12_draw_20 : dc cX12_draw 20 (.aload_n 0) 1 21 := ⟨by decide +kernel, rfl⟩
theorem dX12_draw_21 : dc cX12_draw 21 (.getfield 514) 3 24 := ⟨by decide +kernel, rfl⟩
theorem dX12_draw_24 : dc cX12_draw 24 (.bipush 8) 2 26 := ⟨by decide +kernel, rfl⟩
theorem dX12_draw_26 : dc cX12_draw 26 (.idiv) 1 27 := ⟨by decide +kernel, rfl⟩
theorem dX12_draw_27 : dc cX12_draw 27 (.iload_n 1) 1 28 := ⟨by decide +kernel, rfl⟩
theorem dX12_draw_28 : dc cX12_draw 28 (.irem) 1 29 := ⟨by decide +kernel, rfl⟩
theorem dX12_draw_29 : dc cX12_draw 29 (.ireturn) 1 30 := ⟨by decide +kernel, rfl⟩
theorem nm_X12_draw : (yX12_draw).cls ≠ "java/lang/invoke/MethodHandle" ∧ (yX12_draw).cls ≠ "java/lang/invoke/VarHandle" ∧ (parseMethodDescriptor (yX12_draw).desc).map (fun d => d.parameters.length) = some 1 := ⟨by decide +kernel, by decide +kernel, by decide +kernel⟩
set_option maxRecDepth 100000 in
set_option maxHeartbeats 4000000 in
theorem c_X12_draw {l : Launch} {ad : Nat → Nat} {cy : Nat → ClassId} {D : va_G} {z : Nat} (n : Nat) {a0 : Nat} {p1 : Int32} {M : KM} {y : (Int32 × KM)} (h0 : kty a0 = 12) (hf : f_X12_draw n a0 p1 M = some y) : KC l ad cy D z yX12_draw cX12_draw 2 (some .int) 1 [.ref (ad a0), .int p1] M (some (.int y.1), y.2) := by
  refine kv_enter (by decide +kernel) (Nat.le_of_ble_eq_true rfl) ?_
  intro x hl hD hz G
  subst hl hD hz
  unfold f_X12_draw at hf
  have G : KG ad cy x cX12_draw "NoonGuidesModel" 2 (some (some .int)) 1 := G
  show KV ad cy x (some (.int y.1), y.2) 0 [(0, .ref (ad a0)), (1, .int p1)] [] M
  refine v_aload_n G dX12_draw_0 0 rfl ?_
  refine v_aload_n G dX12_draw_1 0 rfl ?_
  refine gf_12_40 G h0 t_1531 (Or.inl rfl) dX12_draw_2 ?_
  refine v_sipush (2971 : Int32) G dX12_draw_5 (by decide) ?_
  refine v_imul G dX12_draw_8 ?_
  refine v_sipush (10733 : Int32) G dX12_draw_9 (by decide) ?_
  refine v_iadd G dX12_draw_12 ?_
  refine v_ldcw G dX12_draw_13 t_2308 ?_
  refine v_irem G dX12_draw_16 (by decide) ?_
  refine pf_12_40 G h0 t_1531 (Or.inl rfl) dX12_draw_17 ?_
  refine v_nmM (fun M1 eM1 => ?_)
  replace hf := lt_e hf eM1
  refine v_aload_n G dX12_draw_20 0 rfl ?_
  refine gf_12_40 G h0 t_1531 (Or.inl rfl) dX12_draw_21 ?_
  refine v_bipush (8 : Int32) G dX12_draw_24 (by decide) ?_
  refine v_idiv G dX12_draw_26 (by decide) ?_
  refine v_iload_n G dX12_draw_27 1 rfl ?_
  obtain ⟨g2, hf⟩ := gd_e hf
  refine v_irem G dX12_draw_28 g2 ?_
  obtain rfl := Option.some.inj hf
  exact v_iret G dX12_draw_29
abbrev cX12_waits : ByteArray := prog_14_method_162_code
def yX12_waits : MethodName := ⟨RX12, "waits", "(I)Z"⟩
theorem dX12_waits_0 : dc cX12_waits 0 (.aload_n 0) 1 1 := ⟨by decide +kernel, rfl⟩
theorem dX12_waits_1 : dc cX12_waits 1 (.getfield 35) 3 4 := ⟨by decide +kernel, rfl⟩
theorem dX12_waits_4 : dc cX12_waits 4 (.iconst 5) 1 5 := ⟨by decide +kernel, rfl⟩
theorem dX12_waits_5 : dc cX12_waits 5 (.iaload) 1 6 := ⟨by decide +kernel, rfl⟩
theorem dX12_waits_6 : dc cX12_waits 6 (.iload_n 1) 1 7 := ⟨by decide +kernel, rfl⟩
theorem dX12_waits_7 : dc cX12_waits 7 (.iadd) 1 8 := ⟨by decide +kernel, rfl⟩
theorem dX12_waits_8 : dc cX12_waits 8 (.ldc_w 407) 3 11 := ⟨by decide +kernel, rfl⟩
theorem dX12_waits_11 : dc cX12_waits 11 (.if_icmp .le 5) 3 14 := ⟨by decide +kernel, rfl⟩
theorem dX12_waits_14 : dc cX12_waits 14 (.iconst 0) 1 15 := ⟨by decide +kernel, rfl⟩
theorem dX12_waits_15 : dc cX12_waits 15 (.ireturn) 1 16 := ⟨by decide +kernel, rfl⟩
theorem dX12_waits_16 : dc cX12_waits 16 (.iconst 0) 1 17 := ⟨by decide +kernel, rfl⟩
theorem dX12_waits_17 : dc cX12_waits 17 (.istore_n 2) 1 18 := ⟨by decide +kernel, rfl⟩
theorem dX12_waits_18 : dc cX12_waits 18 (.iload_n 2) 1 19 := ⟨by decide +kernel, rfl⟩
theorem dX12_waits_19 : dc cX12_waits 19 (.iload_n 1) 1 20 := ⟨by decide +kernel, rfl⟩
theorem dX12_waits_20 : dc cX12_waits 20 (.if_icmp .ge 42) 3 23 := ⟨by decide +kernel, rfl⟩
theorem dX12_waits_23 : dc cX12_waits 23 (.aload_n 0) 1 24 := ⟨by decide +kernel, rfl⟩
theorem dX12_waits_24 : dc cX12_waits 24 (.invokevirtual 408) 3 27 := ⟨by decide +kernel, rfl⟩
theorem dX12_waits_27 : dc cX12_waits 27 (.aload_n 0) 1 28 := ⟨by decide +kernel, rfl⟩
theorem dX12_waits_28 : dc cX12_waits 28 (.dup) 1 29 := ⟨by decide +kernel, rfl⟩
theorem dX12_waits_29 : dc cX12_waits 29 (.getfield 518) 3 32 := ⟨by decide +kernel, rfl⟩
theorem dX12_waits_32 : dc cX12_waits 32 (.aload_n 0) 1 33 := ⟨by decide +kernel, rfl⟩
theorem dX12_waits_33 : dc cX12_waits 33 (.getfield 384) 3 36 := ⟨by decide +kernel, rfl⟩
theorem dX12_waits_36 : dc cX12_waits 36 (.invokestatic 423) 3 39 := ⟨by decide +kernel, rfl⟩
theorem dX12_waits_39 : dc cX12_waits 39 (.iadd) 1 40 := ⟨by decide +kernel, rfl⟩
theorem dX12_waits_40 : dc cX12_waits 40 (.putfield 518) 3 43 := ⟨by decide +kernel, rfl⟩
theorem dX12_waits_43 : dc cX12_waits 43 (.aload_n 0) 1 44 := ⟨by decide +kernel, rfl⟩
theorem dX12_waits_44 : dc cX12_waits 44 (.dup) 1 45 := ⟨by decide +kernel, rfl⟩
theorem dX12_waits_45 : dc cX12_waits 45 (.getfield 521) 3 48 := ⟨by decide +kernel, rfl⟩
theorem dX12_waits_48 : dc cX12_waits 48 (.aload_n 0) 1 49 := ⟨by decide +kernel, rfl⟩
theorem dX12_waits_49 : dc cX12_waits 49 (.getfield 391) 3 52 := ⟨by decide +kernel, rfl⟩
theorem dX12_waits_52 : dc cX12_waits 52 (.iadd) 1 53 := ⟨by decide +kernel, rfl⟩
theorem dX12_waits_53 : dc cX12_waits 53 (.putfield 521) 3 56 := ⟨by decide +kernel, rfl⟩
theorem dX12_waits_56 : dc cX12_waits 56 (.iinc 2 1) 3 59 := ⟨by decide +kernel, rfl⟩
theorem dX12_waits_59 : dc cX12_waits 59 (.goto (-41)) 3 62 := ⟨by decide +kernel, rfl⟩
theorem dX12_waits_62 : dc cX12_waits 62 (.aload_n 0) 1 63 := ⟨by decide +kernel, rfl⟩
theorem dX12_waits_63 : dc cX12_waits 63 (.dup) 1 64 := ⟨by decide +kernel, rfl⟩
theorem dX12_waits_64 : dc cX12_waits 64 (.getfield 524) 3 67 := ⟨by decide +kernel, rfl⟩
theorem dX12_waits_67 : dc cX12_waits 67 (.iload_n 1) 1 68 := ⟨by decide +kernel, rfl⟩
theorem dX12_waits_68 : dc cX12_waits 68 (.iadd) 1 69 := ⟨by decide +kernel, rfl⟩
theorem dX12_waits_69 : dc cX12_waits 69 (.putfield 524) 3 72 := ⟨by decide +kernel, rfl⟩
theorem dX12_waits_72 : dc cX12_waits 72 (.iconst 1) 1 73 := ⟨by decide +kernel, rfl⟩
theorem dX12_waits_73 : dc cX12_waits 73 (.ireturn) 1 74 := ⟨by decide +kernel, rfl⟩
theorem nm_X12_waits : (yX12_waits).cls ≠ "java/lang/invoke/MethodHandle" ∧ (yX12_waits).cls ≠ "java/lang/invoke/VarHandle" ∧ (parseMethodDescriptor (yX12_waits).desc).map (fun d => d.parameters.length) = some 1 := ⟨by decide +kernel, by decide +kernel, by decide +kernel⟩
theorem zs_X12_waits_18 {a0 : Nat} {c1 : Int32} {k62 : KM → Option (Int32 × KM)} {y : (Int32 × KM)} (hk62 : ∀ (M : KM), k62 M = some y → (y.1 = 0 ∨ y.1 = 1)) : ∀ (n : Nat) (w2 : Int32) (M : KM), lp_X12_waits_18 n a0 c1 w2 M k62 = some y → (y.1 = 0 ∨ y.1 = 1) := by
  intro n
  induction n with
  | zero =>
    intro w2 M hf
    cases hf
  | succ n ih =>
    intro w2 M hf
    rw [lp_X12_waits_18] at hf
    by_cases h7 : c1 ≤ w2
    · replace hf := (if_pos h7).symm.trans hf
      exact hk62 M hf
    · replace hf := (if_neg h7).symm.trans hf
      obtain ⟨v2, hcv2, hf⟩ := bd_e hf
      obtain ⟨v3, hcv3, hf⟩ := bd_e hf
      obtain ⟨M4, eM4⟩ : ∃ q : KM, q = (uI v2 a0 44 ((v2.1 a0 44) + v3)) := ⟨_, rfl⟩
      replace hf := lt_e hf eM4
      obtain ⟨M5, eM5⟩ : ∃ q : KM, q = (uI M4 a0 45 ((M4.1 a0 45) + (M4.1 a0 29))) := ⟨_, rfl⟩
      replace hf := lt_e hf eM5
      obtain ⟨v6, ev6⟩ : ∃ q : Int32, q = w2 + (1 : Int32) := ⟨_, rfl⟩
      replace hf := lt_e hf ev6
      exact ih v6 M5 hf
set_option maxRecDepth 100000 in
theorem z_X12_waits (n : Nat) {a0 : Nat} {p1 : Int32} {M : KM} {y : (Int32 × KM)} (hf : f_X12_waits n a0 p1 M = some y) : (y.1 = 0 ∨ y.1 = 1) := by
  unfold f_X12_waits at hf
  obtain ⟨g1, hf⟩ := gd_e hf
  by_cases h10 : ((M.1 (a0 + 5) ((5 : Int32)).toNatClampNeg) + p1) ≤ (99999 : Int32)
  · replace hf := (if_pos h10).symm.trans hf
    refine zs_X12_waits_18 (fun M8 hf => ?_) n (0 : Int32) M hf
    · obtain ⟨M9, eM9⟩ : ∃ q : KM, q = (uI M8 a0 43 ((M8.1 a0 43) + p1)) := ⟨_, rfl⟩
      replace hf := lt_e hf eM9
      obtain rfl := Option.some.inj hf
      exact (Or.inr rfl)
  · replace hf := (if_neg h10).symm.trans hf
    obtain rfl := Option.some.inj hf
    exact (Or.inl rfl)
set_option maxRecDepth 100000 in
set_option maxHeartbeats 4000000 in
theorem s_X12_waits_18 {ad : Nat → Nat} {cy : Nat → ClassId} {x : KX} (G : KG ad cy x cX12_waits "NoonGuidesModel" 3 (some (some .boolean)) 6) {a0 : Nat} {c1 : Int32} (h0 : kty a0 = 12) {k62 : KM → Option (Int32 × KM)} {y : (Int32 × KM)} (hk62 : ∀ (M : KM), k62 M = some y → KV ad cy x (some (.int y.1), y.2) 62 [(0, .ref (ad a0)), (1, .int c1)] [] M) : ∀ (n : Nat) (w2 : Int32) (M : KM), lp_X12_waits_18 n a0 c1 w2 M k62 = some y → KV ad cy x (some (.int y.1), y.2) 18 [(0, .ref (ad a0)), (1, .int c1), (2, .int w2)] [] M := by
  intro n
  induction n with
  | zero =>
    intro w2 M hf
    cases hf
  | succ n ih =>
    intro w2 M hf
    rw [lp_X12_waits_18] at hf
    refine v_iload_n G dX12_waits_18 2 rfl ?_
    refine v_iload_n G dX12_waits_19 1 rfl ?_
    refine v_icmp_ge 62 G dX12_waits_20 (by decide) (fun h7 => ?_) (fun h7 => ?_)
    · replace hf := (if_pos h7).symm.trans hf
      refine v_sub _ [0, 1] rfl ?_
      exact hk62 M hf
    · replace hf := (if_neg h7).symm.trans hf
      refine v_aload_n G dX12_waits_23 0 rfl ?_
      obtain ⟨v2, hcv2, hf⟩ := bd_e hf
      refine v_callV [] G (c_X12_goesMinute n h0 hcv2) h0 (by decide) rfl rfl rfl t_2002 t_2004 t_p120 t_17 t_2005 nm_X12_goesMinute (by decide) (by decide) rfl rfl (Nat.le_of_ble_eq_true rfl) dX12_waits_24 (kv_rv ?_)
      refine v_aload_n G dX12_waits_27 0 rfl ?_
      refine v_dup G dX12_waits_28 rfl ?_
      refine gf_12_44 G h0 t_1535 (Or.inl rfl) dX12_waits_29 ?_
      refine v_aload_n G dX12_waits_32 0 rfl ?_
      refine gf_12_28 G h0 t_1519 (Or.inl rfl) dX12_waits_33 ?_
      obtain ⟨v3, hcv3, hf⟩ := bd_e hf
      refine v_callS [.int (v2.1 a0 28)] G (c_X12_sizeOf n hcv3) t_2051 t_2052 t_17 t_2053 nm_X12_sizeOf (by decide) (by decide) rfl rfl (Nat.le_of_ble_eq_true rfl) dX12_waits_36 (kv_ri ?_)
      refine v_iadd G dX12_waits_39 ?_
      refine pf_12_44 G h0 t_1535 (Or.inl rfl) dX12_waits_40 ?_
      refine v_nmM (fun M4 eM4 => ?_)
      replace hf := lt_e hf eM4
      refine v_aload_n G dX12_waits_43 0 rfl ?_
      refine v_dup G dX12_waits_44 rfl ?_
      refine gf_12_45 G h0 t_1536 (Or.inl rfl) dX12_waits_45 ?_
      refine v_aload_n G dX12_waits_48 0 rfl ?_
      refine gf_12_29 G h0 t_1520 (Or.inl rfl) dX12_waits_49 ?_
      refine v_iadd G dX12_waits_52 ?_
      refine pf_12_45 G h0 t_1536 (Or.inl rfl) dX12_waits_53 ?_
      refine v_nmM (fun M5 eM5 => ?_)
      replace hf := lt_e hf eM5
      obtain ⟨v6, ev6⟩ : ∃ q : Int32, q = w2 + (1 : Int32) := ⟨_, rfl⟩
      replace hf := lt_e hf ev6
      refine v_iinc v6 [(2, .int v6), (0, .ref (ad a0)), (1, .int c1)] G dX12_waits_56 2 rfl (by rw [ev6]; rfl) (by decide) rfl ?_
      refine v_goto 18 G dX12_waits_59 (by decide) ?_
      refine v_sub _ [1, 2, 0] rfl ?_
      exact ih v6 M5 hf
set_option maxRecDepth 100000 in
set_option maxHeartbeats 4000000 in
theorem c_X12_waits {l : Launch} {ad : Nat → Nat} {cy : Nat → ClassId} {D : va_G} {z : Nat} (n : Nat) {a0 : Nat} {p1 : Int32} {M : KM} {y : (Int32 × KM)} (h0 : kty a0 = 12) (hf : f_X12_waits n a0 p1 M = some y) : KC l ad cy D z yX12_waits cX12_waits 3 (some .boolean) 6 [.ref (ad a0), .int p1] M (some (.int y.1), y.2) := by
  refine kv_enter (by decide +kernel) (Nat.le_of_ble_eq_true rfl) ?_
  intro x hl hD hz G
  subst hl hD hz
  unfold f_X12_waits at hf
  have G : KG ad cy x cX12_waits "NoonGuidesModel" 3 (some (some .boolean)) 6 := G
  show KV ad cy x (some (.int y.1), y.2) 0 [(0, .ref (ad a0)), (1, .int p1)] [] M
  refine v_aload_n G dX12_waits_0 0 rfl ?_
  refine gf_12_20 G h0 t_1511 (Or.inl rfl) dX12_waits_1 ?_
  refine v_iconst (5 : Int32) G dX12_waits_4 (by decide) ?_
  obtain ⟨g1, hf⟩ := gd_e hf
  refine al_36 G (kf_12_5 h0) g1 dX12_waits_5 ?_
  refine v_iload_n G dX12_waits_6 1 rfl ?_
  refine v_iadd G dX12_waits_7 ?_
  refine v_ldcw G dX12_waits_8 t_2001 ?_
  refine v_icmp_le 16 G dX12_waits_11 (by decide) (fun h10 => ?_) (fun h10 => ?_)
  · replace hf := (if_pos h10).symm.trans hf
    refine v_iconst (0 : Int32) G dX12_waits_16 (by decide) ?_
    refine v_istore_n [(2, .int (0 : Int32)), (0, .ref (ad a0)), (1, .int p1)] G dX12_waits_17 (by decide) rfl ?_
    refine v_sub _ [1, 2, 0] rfl ?_
    refine s_X12_waits_18 G h0 (fun M8 hf => ?_) n (0 : Int32) M hf
    · refine v_aload_n G dX12_waits_62 0 rfl ?_
      refine v_dup G dX12_waits_63 rfl ?_
      refine gf_12_43 G h0 t_1534 (Or.inl rfl) dX12_waits_64 ?_
      refine v_iload_n G dX12_waits_67 1 rfl ?_
      refine v_iadd G dX12_waits_68 ?_
      refine pf_12_43 G h0 t_1534 (Or.inl rfl) dX12_waits_69 ?_
      refine v_nmM (fun M9 eM9 => ?_)
      replace hf := lt_e hf eM9
      refine v_iconst (1 : Int32) G dX12_waits_72 (by decide) ?_
      obtain rfl := Option.some.inj hf
      exact v_zret G (Or.inr rfl) dX12_waits_73
  · replace hf := (if_neg h10).symm.trans hf
    refine v_iconst (0 : Int32) G dX12_waits_14 (by decide) ?_
    obtain rfl := Option.some.inj hf
    exact v_zret G (Or.inl rfl) dX12_waits_15
abbrev cX12_isAny : ByteArray := prog_14_method_163_code
def yX12_isAny : MethodName := ⟨RX12, "isAny", "()Z"⟩
theorem dX12_isAny_0 : dc cX12_isAny 0 (.aload_n 0) 1 1 := ⟨by decide +kernel, rfl⟩
theorem dX12_isAny_1 : dc cX12_isAny 1 (.getfield 35) 3 4 := ⟨by decide +kernel, rfl⟩
theorem dX12_isAny_4 : dc cX12_isAny 4 (.iconst 2) 1 5 := ⟨by decide +kernel, rfl⟩
theorem dX12_isAny_5 : dc cX12_isAny 5 (.iaload) 1 6 := ⟨by decide +kernel, rfl⟩
theorem dX12_isAny_6 : dc cX12_isAny 6 (.ifCond .ne 5) 3 9 := ⟨by decide +kernel, rfl⟩
theorem dX12_isAny_9 : dc cX12_isAny 9 (.iconst 0) 1 10 := ⟨by decide +kernel, rfl⟩
theorem dX12_isAny_10 : dc cX12_isAny 10 (.ireturn) 1 11 := ⟨by decide +kernel, rfl⟩
theorem dX12_isAny_11 : dc cX12_isAny 11 (.aload_n 0) 1 12 := ⟨by decide +kernel, rfl⟩
theorem dX12_isAny_12 : dc cX12_isAny 12 (.aload_n 0) 1 13 := ⟨by decide +kernel, rfl⟩
theorem dX12_isAny_13 : dc cX12_isAny 13 (.getfield 35) 3 16 := ⟨by decide +kernel, rfl⟩
theorem dX12_isAny_16 : dc cX12_isAny 16 (.iconst 2) 1 17 := ⟨by decide +kernel, rfl⟩
theorem dX12_isAny_17 : dc cX12_isAny 17 (.iaload) 1 18 := ⟨by decide +kernel, rfl⟩
theorem dX12_isAny_18 : dc cX12_isAny 18 (.invokevirtual 527) 3 21 := ⟨by decide +kernel, rfl⟩
theorem dX12_isAny_21 : dc cX12_isAny 21 (.istore_n 1) 1 22 := ⟨by decide +kernel, rfl⟩
theorem dX12_isAny_22 : dc cX12_isAny 22 (.aload_n 0) 1 23 := ⟨by decide +kernel, rfl⟩
theorem dX12_isAny_23 : dc cX12_isAny 23 (.iload_n 1) 1 24 := ⟨by decide +kernel, rfl⟩
theorem dX12_isAny_24 : dc cX12_isAny 24 (.aload_n 0) 1 25 := ⟨by decide +kernel, rfl⟩
theorem dX12_isAny_25 : dc cX12_isAny 25 (.aload_n 0) 1 26 := ⟨by decide +kernel, rfl⟩
theorem dX12_isAny_26 : dc cX12_isAny 26 (.getfield 35) 3 29 := ⟨by decide +kernel, rfl⟩
theorem dX12_isAny_29 : dc cX12_isAny 29 (.iconst 0) 1 30 := ⟨by decide +kernel, rfl⟩
theorem dX12_isAny_30 : dc cX12_isAny 30 (.iaload) 1 31 := ⟨by decide +kernel, rfl⟩
theorem dX12_isAny_31 : dc cX12_isAny 31 (.invokevirtual 527) 3 34 := ⟨by decide +kernel, rfl⟩
theorem dX12_isAny_34 : dc cX12_isAny 34 (.invokevirtual 420) 3 37 := ⟨by decide +kernel, rfl⟩
theorem dX12_isAny_37 : dc cX12_isAny 37 (.ireturn) 1 38 := ⟨by decide +kernel, rfl⟩
theorem nm_X12_isAny : (yX12_isAny).cls ≠ "java/lang/invoke/MethodHandle" ∧ (yX12_isAny).cls ≠ "java/lang/invoke/VarHandle" ∧ (parseMethodDescriptor (yX12_isAny).desc).map (fun d => d.parameters.length) = some 0 := ⟨by decide +kernel, by decide +kernel, by decide +kernel⟩
set_option maxRecDepth 100000 in
theorem z_X12_isAny (n : Nat) {a0 : Nat} {M : KM} {y : (Int32 × KM)} (hf : f_X12_isAny n a0 M = some y) : (y.1 = 0 ∨ y.1 = 1) := by
  unfold f_X12_isAny at hf
  obtain ⟨g1, hf⟩ := gd_e hf
  by_cases h7 : (M.1 (a0 + 5) ((2 : Int32)).toNatClampNeg) = 0
  · replace hf := (if_pos h7).symm.trans hf
    obtain rfl := Option.some.inj hf
    exact (Or.inl rfl)
  · replace hf := (if_neg h7).symm.trans hf
    obtain ⟨g2, hf⟩ := gd_e hf
    obtain ⟨v3, hcv3, hf⟩ := bd_e hf
    obtain ⟨g4, hf⟩ := gd_e hf
    obtain ⟨v5, hcv5, hf⟩ := bd_e hf
    obtain ⟨v6, hcv6, hf⟩ := bd_e hf
    obtain rfl := Option.some.inj hf
    exact (z_X12_goes n hcv6)
set_option maxRecDepth 100000 in
set_option maxHeartbeats 4000000 in
theorem c_X12_isAny {l : Launch} {ad : Nat → Nat} {cy : Nat → ClassId} {D : va_G} {z : Nat} (n : Nat) {a0 : Nat} {M : KM} {y : (Int32 × KM)} (h0 : kty a0 = 12) (hf : f_X12_isAny n a0 M = some y) : KC l ad cy D z yX12_isAny cX12_isAny 2 (some .boolean) 5 [.ref (ad a0)] M (some (.int y.1), y.2) := by
  refine kv_enter (by decide +kernel) (Nat.le_of_ble_eq_true rfl) ?_
  intro x hl hD hz G
  subst hl hD hz
  unfold f_X12_isAny at hf
  have G : KG ad cy x cX12_isAny "NoonGuidesModel" 2 (some (some .boolean)) 5 := G
  show KV ad cy x (some (.int y.1), y.2) 0 [(0, .ref (ad a0))] [] M
  refine v_aload_n G dX12_isAny_0 0 rfl ?_
  refine gf_12_20 G h0 t_1511 (Or.inl rfl) dX12_isAny_1 ?_
  refine v_iconst (2 : Int32) G dX12_isAny_4 (by decide) ?_
  obtain ⟨g1, hf⟩ := gd_e hf
  refine al_36 G (kf_12_5 h0) g1 dX12_isAny_5 ?_
  refine v_if_ne 11 G dX12_isAny_6 (by decide) (fun h7 => ?_) (fun h7 => ?_)
  · replace hf := (if_neg h7).symm.trans hf
    refine v_aload_n G dX12_isAny_11 0 rfl ?_
    refine v_aload_n G dX12_isAny_12 0 rfl ?_
    refine gf_12_20 G h0 t_1511 (Or.inl rfl) dX12_isAny_13 ?_
    refine v_iconst (2 : Int32) G dX12_isAny_16 (by decide) ?_
    obtain ⟨g2, hf⟩ := gd_e hf
    refine al_36 G (kf_12_5 h0) g2 dX12_isAny_17 ?_
    obtain ⟨v3, hcv3, hf⟩ := bd_e hf
    refine v_callV [.int (M.1 (a0 + 5) ((2 : Int32)).toNatClampNeg)] G (c_X12_draw n h0 hcv3) h0 (by decide) rfl rfl rfl t_2304 t_2306 t_p158 t_17 t_2307 nm_X12_draw (by decide) (by decide) rfl rfl (Nat.le_of_ble_eq_true rfl) dX12_isAny_18 (kv_ri ?_)
    refine v_istore_n [(1, .int v3.1), (0, .ref (ad a0))] G dX12_isAny_21 (by decide) rfl ?_
    refine v_aload_n G dX12_isAny_22 1 rfl ?_
    refine v_iload_n G dX12_isAny_23 0 rfl ?_
    refine v_aload_n G dX12_isAny_24 1 rfl ?_
    refine v_aload_n G dX12_isAny_25 1 rfl ?_
    refine gf_12_20 G h0 t_1511 (Or.inl rfl) dX12_isAny_26 ?_
    refine v_iconst (0 : Int32) G dX12_isAny_29 (by decide) ?_
    obtain ⟨g4, hf⟩ := gd_e hf
    refine al_36 G (kf_12_5 h0) g4 dX12_isAny_30 ?_
    obtain ⟨v5, hcv5, hf⟩ := bd_e hf
    refine v_callV [.int (v3.2.1 (a0 + 5) ((0 : Int32)).toNatClampNeg)] G (c_X12_draw n h0 hcv5) h0 (by decide) rfl rfl rfl t_2304 t_2306 t_p158 t_17 t_2307 nm_X12_draw (by decide) (by decide) rfl rfl (Nat.le_of_ble_eq_true rfl) dX12_isAny_31 (kv_ri ?_)
    obtain ⟨v6, hcv6, hf⟩ := bd_e hf
    refine v_callV [.int v3.1, .int v5.1] G (c_X12_goes n h0 hcv6) h0 (by decide) rfl rfl rfl t_2031 t_2033 t_p126 t_17 t_2034 nm_X12_goes (by decide) (by decide) rfl rfl (Nat.le_of_ble_eq_true rfl) dX12_isAny_34 (kv_ri ?_)
    obtain rfl := Option.some.inj hf
    exact v_zret G (z_X12_goes n hcv6) dX12_isAny_37
  · replace hf := (if_pos h7).symm.trans hf
    refine v_iconst (0 : Int32) G dX12_isAny_9 (by decide) ?_
    obtain rfl := Option.some.inj hf
    exact v_zret G (Or.inl rfl) dX12_isAny_10
abbrev cX12_does : ByteArray := prog_14_method_164_code
def yX12_does : MethodName := ⟨RX12, "does", "(I)Z"⟩
theorem dX12_does_0 : dc cX12_does 0 (.aload_n 0) 1 1 := ⟨by decide +kernel, rfl⟩
theorem dX12_does_1 : dc cX12_does 1 (.getfield 35) 3 4 := ⟨by decide +kernel, rfl⟩
theorem dX12_does_4 : dc cX12_does 4 (.iload_n 1) 1 5 := ⟨by decide +kernel, rfl⟩
theorem dX12_does_5 : dc cX12_does 5 (.iaload) 1 6 := ⟨by decide +kernel, rfl⟩
theorem dX12_does_6 : dc cX12_does 6 (.istore_n 2) 1 7 := ⟨by decide +kernel, rfl⟩
theorem dX12_does_7 : dc cX12_does 7 (.iload_n 2) 1 8 := ⟨by decide +kernel, rfl⟩
theorem dX12_does_8 : dc cX12_does 8 (.ifCond .ne 16) 3 11 := ⟨by decide +kernel, rfl⟩
theorem dX12_does_11 : dc cX12_does 11 (.aload_n 0) 1 12 := ⟨by decide +kernel, rfl⟩
theorem dX12_does_12 : dc cX12_does 12 (.aload_n 0) 1 13 := ⟨by decide +kernel, rfl⟩
theorem dX12_does_13 : dc cX12_does 13 (.getfield 35) 3 16 := ⟨by decide +kernel, rfl⟩
theorem dX12_does_16 : dc cX12_does 16 (.iload_n 1) 1 17 := ⟨by decide +kernel, rfl⟩
theorem dX12_does_17 : dc cX12_does 17 (.iconst 1) 1 18 := ⟨by decide +kernel, rfl⟩
theorem dX12_does_18 : dc cX12_does 18 (.iadd) 1 19 := ⟨by decide +kernel, rfl⟩
theorem dX12_does_19 : dc cX12_does 19 (.iaload) 1 20 := ⟨by decide +kernel, rfl⟩
theorem dX12_does_20 : dc cX12_does 20 (.invokevirtual 530) 3 23 := ⟨by decide +kernel, rfl⟩
theorem dX12_does_23 : dc cX12_does 23 (.ireturn) 1 24 := ⟨by decide +kernel, rfl⟩
theorem dX12_does_24 : dc cX12_does 24 (.iload_n 2) 1 25 := ⟨by decide +kernel, rfl⟩
theorem dX12_does_25 : dc cX12_does 25 (.iconst 1) 1 26 := ⟨by decide +kernel, rfl⟩
theorem dX12_does_26 : dc cX12_does 26 (.if_icmp .ne 24) 3 29 := ⟨by decide +kernel, rfl⟩
theorem dX12_does_29 : dc cX12_does 29 (.aload_n 0) 1 30 := ⟨by decide +kernel, rfl⟩
theorem dX12_does_30 : dc cX12_does 30 (.aload_n 0) 1 31 := ⟨by decide +kernel, rfl⟩
theorem dX12_does_31 : dc cX12_does 31 (.getfield 35) 3 34 := ⟨by decide +kernel, rfl⟩
theorem dX12_does_34 : dc cX12_does 34 (.iload_n 1) 1 35 := ⟨by decide +kernel, rfl⟩
theorem dX12_does_35 : dc cX12_does 35 (.iconst 1) 1 36 := ⟨by decide +kernel, rfl⟩
theorem dX12_does_36 : dc cX12_does 36 (.iadd) 1 37 := ⟨by decide +kernel, rfl⟩
theorem dX12_does_37 : dc cX12_does 37 (.iaload) 1 38 := ⟨by decide +kernel, rfl⟩
theorem dX12_does_38 : dc cX12_does 38 (.aload_n 0) 1 39 := ⟨by decide +kernel, rfl⟩
theorem dX12_does_39 : dc cX12_does 39 (.getfield 35) 3 42 := ⟨by decide +kernel, rfl⟩
theorem dX12_does_42 : dc cX12_does 42 (.iload_n 1) 1 43 := ⟨by decide +kernel, rfl⟩
theorem dX12_does_43 : dc cX12_does 43 (.iconst 2) 1 44 := ⟨by decide +kernel, rfl⟩
theorem dX12_does_44 : dc cX12_does 44 (.iadd) 1 45 := ⟨by decide +kernel, rfl⟩
theorem dX12_does_45 : dc cX12_does 45 (.iaload) 1 46 := ⟨by decide +kernel, rfl⟩
theorem dX12_does_46 : dc cX12_does 46 (.invokevirtual 420) 3 49 := ⟨by decide +kernel, rfl⟩
theorem dX12_does_49 : dc cX12_does 49 (.ireturn) 1 50 := ⟨by decide +kernel, rfl⟩
theorem dX12_does_50 : dc cX12_does 50 (.iload_n 2) 1 51 := ⟨by decide +kernel, rfl⟩
theorem dX12_does_51 : dc cX12_does 51 (.iconst 2) 1 52 := ⟨by decide +kernel, rfl⟩
theorem dX12_does_52 : dc cX12_does 52 (.if_icmp .ne 34) 3 55 := ⟨by decide +kernel, rfl⟩
theorem dX12_does_55 : dc cX12_does 55 (.aload_n 0) 1 56 := ⟨by decide +kernel, rfl⟩
theorem dX12_does_56 : dc cX12_does 56 (.aload_n 0) 1 57 := ⟨by decide +kernel, rfl⟩
theorem dX12_does_57 : dc cX12_does 57 (.getfield 35) 3 60 := ⟨by decide +kernel, rfl⟩
theorem dX12_does_60 : dc cX12_does 60 (.iload_n 1) 1 61 := ⟨by decide +kernel, rfl⟩
theorem dX12_does_61 : dc cX12_does 61 (.iconst 1) 1 62 := ⟨by decide +kernel, rfl⟩
theorem dX12_does_62 : dc cX12_does 62 (.iadd) 1 63 := ⟨by decide +kernel, rfl⟩
theorem dX12_does_63 : dc cX12_does 63 (.iaload) 1 64 := ⟨by decide +kernel, rfl⟩
theorem dX12_does_64 : dc cX12_does 64 (.iconst 1) 1 65 := ⟨by decide +kernel, rfl⟩
theorem dX12_does_65 : dc cX12_does 65 (.aload_n 0) 1 66 := ⟨by decide +kernel, rfl⟩
theorem dX12_does_66 : dc cX12_does 66 (.getfield 35) 3 69 := ⟨by decide +kernel, rfl⟩
theorem dX12_does_69 : dc cX12_does 69 (.iload_n 1) 1 70 := ⟨by decide +kernel, rfl⟩
theorem dX12_does_70 : dc cX12_does 70 (.iconst 3) 1 71 := ⟨by decide +kernel, rfl⟩
theorem dX12_does_71 : dc cX12_does 71 (.iadd) 1 72 := ⟨by decide +kernel, rfl⟩
theorem dX12_does_72 : dc cX12_does 72 (.iaload) 1 73 := ⟨by decide +kernel, rfl⟩
theorem dX12_does_73 : dc cX12_does 73 (.ishl) 1 74 := ⟨by decide +kernel, rfl⟩
theorem dX12_does_74 : dc cX12_does 74 (.aload_n 0) 1 75 := ⟨by decide +kernel, rfl⟩
theorem dX12_does_75 : dc cX12_does 75 (.getfield 35) 3 78 := ⟨by decide +kernel, rfl⟩
theorem dX12_does_78 : dc cX12_does 78 (.iload_n 1) 1 79 := ⟨by decide +kernel, rfl⟩
theorem dX12_does_79 : dc cX12_does 79 (.iconst 2) 1 80 := ⟨by decide +kernel, rfl⟩
theorem dX12_does_80 : dc cX12_does 80 (.iadd) 1 81 := ⟨by decide +kernel, rfl⟩
theorem dX12_does_81 : dc cX12_does 81 (.iaload) 1 82 := ⟨by decide +kernel, rfl⟩
theorem dX12_does_82 : dc cX12_does 82 (.invokevirtual 426) 3 85 := ⟨by decide +kernel, rfl⟩
theorem dX12_does_85 : dc cX12_does 85 (.ireturn) 1 86 := ⟨by decide +kernel, rfl⟩
theorem dX12_does_86 : dc cX12_does 86 (.iload_n 2) 1 87 := ⟨by decide +kernel, rfl⟩
theorem dX12_does_87 : dc cX12_does 87 (.iconst 3) 1 88 := ⟨by decide +kernel, rfl⟩
theorem dX12_does_88 : dc cX12_does 88 (.if_icmp .ne 10) 3 91 := ⟨by decide +kernel, rfl⟩
theorem dX12_does_91 : dc cX12_does 91 (.aload_n 0) 1 92 := ⟨by decide +kernel, rfl⟩
theorem dX12_does_92 : dc cX12_does 92 (.invokevirtual 533) 3 95 := ⟨by decide +kernel, rfl⟩
theorem dX12_does_95 : dc cX12_does 95 (.goto 17) 3 98 := ⟨by decide +kernel, rfl⟩
theorem dX12_does_98 : dc cX12_does 98 (.aload_n 0) 1 99 := ⟨by decide +kernel, rfl⟩
theorem dX12_does_99 : dc cX12_does 99 (.iload_n 2) 1 100 := ⟨by decide +kernel, rfl⟩
theorem dX12_does_100 : dc cX12_does 100 (.iconst 4) 1 101 := ⟨by decide +kernel, rfl⟩
theorem dX12_does_101 : dc cX12_does 101 (.if_icmp .ne 7) 3 104 := ⟨by decide +kernel, rfl⟩
theorem dX12_does_104 : dc cX12_does 104 (.iconst 1) 1 105 := ⟨by decide +kernel, rfl⟩
theorem dX12_does_105 : dc cX12_does 105 (.goto 4) 3 108 := ⟨by decide +kernel, rfl⟩
theorem dX12_does_108 : dc cX12_does 108 (.iconst 0) 1 109 := ⟨by decide +kernel, rfl⟩
theorem dX12_does_109 : dc cX12_does 109 (.invokevirtual 433) 3 112 := ⟨by decide +kernel, rfl⟩
theorem dX12_does_112 : dc cX12_does 112 (.ireturn) 1 113 := ⟨by decide +kernel, rfl⟩
theorem nm_X12_does : (yX12_does).cls ≠ "java/lang/invoke/MethodHandle" ∧ (yX12_does).cls ≠ "java/lang/invoke/VarHandle" ∧ (parseMethodDescriptor (yX12_does).desc).map (fun d => d.parameters.length) = some 1 := ⟨by decide +kernel, by decide +kernel, by decide +kernel⟩
set_option maxRecDepth 100000 in
theorem z_X12_does (n : Nat) {a0 : Nat} {p1 : Int32} {M : KM} {y : (Int32 × KM)} (hf : f_X12_does n a0 p1 M = some y) : (y.1 = 0 ∨ y.1 = 1) := by
  unfold f_X12_does at hf
  obtain ⟨g1, hf⟩ := gd_e hf
  obtain ⟨v2, ev2⟩ : ∃ q, q = ((M.1 (a0 + 5) (p1).toNatClampNeg) : Int32) := ⟨_, rfl⟩
  replace hf := lt_e hf ev2
  by_cases h19 : v2 = 0
  · replace hf := (if_pos h19).symm.trans hf
    obtain ⟨g17, hf⟩ := gd_e hf
    obtain ⟨v18, hcv18, hf⟩ := bd_e hf
    obtain rfl := Option.some.inj hf
    exact (z_X12_waits n hcv18)
  · replace hf := (if_neg h19).symm.trans hf
    by_cases h16 : v2 = (1 : Int32)
    · replace hf := (if_pos h16).symm.trans hf
      obtain ⟨g13, hf⟩ := gd_e hf
      obtain ⟨g14, hf⟩ := gd_e hf
      obtain ⟨v15, hcv15, hf⟩ := bd_e hf
      obtain rfl := Option.some.inj hf
      exact (z_X12_goes n hcv15)
    · replace hf := (if_neg h16).symm.trans hf
      by_cases h12 : v2 = (2 : Int32)
      · replace hf := (if_pos h12).symm.trans hf
        obtain ⟨g8, hf⟩ := gd_e hf
        obtain ⟨g9, hf⟩ := gd_e hf
        obtain ⟨g10, hf⟩ := gd_e hf
        obtain ⟨v11, hcv11, hf⟩ := bd_e hf
        obtain rfl := Option.some.inj hf
        exact (z_X12_leads n hcv11)
      · replace hf := (if_neg h12).symm.trans hf
        by_cases h7 : v2 = (3 : Int32)
        · replace hf := (if_pos h7).symm.trans hf
          obtain ⟨v6, hcv6, hf⟩ := bd_e hf
          obtain rfl := Option.some.inj hf
          exact (z_X12_isAny n hcv6)
        · replace hf := (if_neg h7).symm.trans hf
          obtain ⟨j109, ej109, hf⟩ := lt_j hf
          have hj109 : ∀ (x3 : Int32), j109 x3 = some y → (y.1 = 0 ∨ y.1 = 1) := by
            intro x3 hf
            rw [ej109] at hf
            obtain ⟨v4, hcv4, hf⟩ := bd_e hf
            obtain rfl := Option.some.inj hf
            exact (z_X12_becomes n hcv4)
          by_cases h5 : v2 = (4 : Int32)
          · replace hf := (if_pos h5).symm.trans hf
            exact hj109 (1 : Int32) hf
          · replace hf := (if_neg h5).symm.trans hf
            exact hj109 (0 : Int32) hf
set_option maxRecDepth 100000 in
set_option maxHeartbeats 4000000 in
theorem c_X12_does {l : Launch} {ad : Nat → Nat} {cy : Nat → ClassId} {D : va_G} {z : Nat} (n : Nat) {a0 : Nat} {p1 : Int32} {M : KM} {y : (Int32 × KM)} (h0 : kty a0 = 12) (hf : f_X12_does n a0 p1 M = some y) : KC l ad cy D z yX12_does cX12_does 3 (some .boolean) 7 [.ref (ad a0), .int p1] M (some (.int y.1), y.2) := by
  refine kv_enter (by decide +kernel) (Nat.le_of_ble_eq_true rfl) ?_
  intro x hl hD hz G
  subst hl hD hz
  unfold f_X12_does at hf
  have G : KG ad cy x cX12_does "NoonGuidesModel" 3 (some (some .boolean)) 7 := G
  show KV ad cy x (some (.int y.1), y.2) 0 [(0, .ref (ad a0)), (1, .int p1)] [] M
  refine v_aload_n G dX12_does_0 0 rfl ?_
  refine gf_12_20 G h0 t_1511 (Or.inl rfl) dX12_does_1 ?_
  refine v_iload_n G dX12_does_4 1 rfl ?_
  obtain ⟨g1, hf⟩ := gd_e hf
  refine al_36 G (kf_12_5 h0) g1 dX12_does_5 ?_
  refine v_nmi (fun v2 ev2 => ?_)
  replace hf := lt_e hf ev2
  refine v_istore_n [(2, .int v2), (0, .ref (ad a0)), (1, .int p1)] G dX12_does_6 (by decide) rfl ?_
  refine v_iload_n G dX12_does_7 0 rfl ?_
  refine v_if_ne 24 G dX12_does_8 (by decide) (fun h19 => ?_) (fun h19 => ?_)
  · replace hf := (if_neg h19).symm.trans hf
    refine v_iload_n G dX12_does_24 0 rfl ?_
    refine v_iconst (1 : Int32) G dX12_does_25 (by decide) ?_
    refine v_icmp_ne 50 G dX12_does_26 (by decide) (fun h16 => ?_) (fun h16 => ?_)
    · replace hf := (if_neg h16).symm.trans hf
      refine v_iload_n G dX12_does_50 0 rfl ?_
      refine v_iconst (2 : Int32) G dX12_does_51 (by decide) ?_
      refine v_icmp_ne 86 G dX12_does_52 (by decide) (fun h12 => ?_) (fun h12 => ?_)
      · replace hf := (if_neg h12).symm.trans hf
        refine v_iload_n G dX12_does_86 0 rfl ?_
        refine v_iconst (3 : Int32) G dX12_does_87 (by decide) ?_
        refine v_icmp_ne 98 G dX12_does_88 (by decide) (fun h7 => ?_) (fun h7 => ?_)
        · replace hf := (if_neg h7).symm.trans hf
          refine v_aload_n G dX12_does_98 1 rfl ?_
          refine v_iload_n G dX12_does_99 0 rfl ?_
          refine v_iconst (4 : Int32) G dX12_does_100 (by decide) ?_
          obtain ⟨j109, ej109, hf⟩ := lt_j hf
          have hj109 : ∀ (x3 : Int32), j109 x3 = some y → KV ad cy x (some (.int y.1), y.2) 109 [] [.int x3, .ref (ad a0)] M := by
            intro x3 hf
            rw [ej109] at hf
            obtain ⟨v4, hcv4, hf⟩ := bd_e hf
            refine v_callV [.int x3] G (c_X12_becomes n h0 hcv4) h0 (by decide) rfl rfl rfl t_2070 t_2072 t_p132 t_17 t_2073 nm_X12_becomes (by decide) (by decide) rfl rfl (Nat.le_of_ble_eq_true rfl) dX12_does_109 (kv_ri ?_)
            obtain rfl := Option.some.inj hf
            exact v_zret G (z_X12_becomes n hcv4) dX12_does_112
          refine v_icmp_ne 108 G dX12_does_101 (by decide) (fun h5 => ?_) (fun h5 => ?_)
          · replace hf := (if_neg h5).symm.trans hf
            refine v_iconst (0 : Int32) G dX12_does_108 (by decide) ?_
            refine v_sub _ [] rfl ?_
            exact hj109 (0 : Int32) hf
          · replace hf := (if_pos h5).symm.trans hf
            refine v_iconst (1 : Int32) G dX12_does_104 (by decide) ?_
            refine v_goto 109 G dX12_does_105 (by decide) ?_
            refine v_sub _ [] rfl ?_
            exact hj109 (1 : Int32) hf
        · replace hf := (if_pos h7).symm.trans hf
          refine v_aload_n G dX12_does_91 1 rfl ?_
          obtain ⟨v6, hcv6, hf⟩ := bd_e hf
          refine v_callV [] G (c_X12_isAny n h0 hcv6) h0 (by decide) rfl rfl rfl t_2300 t_2302 t_p157 t_17 t_2303 nm_X12_isAny (by decide) (by decide) rfl rfl (Nat.le_of_ble_eq_true rfl) dX12_does_92 (kv_ri ?_)
          refine v_goto 112 G dX12_does_95 (by decide) ?_
          obtain rfl := Option.some.inj hf
          exact v_zret G (z_X12_isAny n hcv6) dX12_does_112
      · replace hf := (if_pos h12).symm.trans hf
        refine v_aload_n G dX12_does_55 1 rfl ?_
        refine v_aload_n G dX12_does_56 1 rfl ?_
        refine gf_12_20 G h0 t_1511 (Or.inl rfl) dX12_does_57 ?_
        refine v_iload_n G dX12_does_60 2 rfl ?_
        refine v_iconst (1 : Int32) G dX12_does_61 (by decide) ?_
        refine v_iadd G dX12_does_62 ?_
        obtain ⟨g8, hf⟩ := gd_e hf
        refine al_36 G (kf_12_5 h0) g8 dX12_does_63 ?_
        refine v_iconst (1 : Int32) G dX12_does_64 (by decide) ?_
        refine v_aload_n G dX12_does_65 1 rfl ?_
        refine gf_12_20 G h0 t_1511 (Or.inl rfl) dX12_does_66 ?_
        refine v_iload_n G dX12_does_69 2 rfl ?_
        refine v_iconst (3 : Int32) G dX12_does_70 (by decide) ?_
        refine v_iadd G dX12_does_71 ?_
        obtain ⟨g9, hf⟩ := gd_e hf
        refine al_36 G (kf_12_5 h0) g9 dX12_does_72 ?_
        refine v_ishl G dX12_does_73 ?_
        refine v_aload_n G dX12_does_74 1 rfl ?_
        refine gf_12_20 G h0 t_1511 (Or.inl rfl) dX12_does_75 ?_
        refine v_iload_n G dX12_does_78 2 rfl ?_
        refine v_iconst (2 : Int32) G dX12_does_79 (by decide) ?_
        refine v_iadd G dX12_does_80 ?_
        obtain ⟨g10, hf⟩ := gd_e hf
        refine al_36 G (kf_12_5 h0) g10 dX12_does_81 ?_
        obtain ⟨v11, hcv11, hf⟩ := bd_e hf
        refine v_callV [.int (M.1 (a0 + 5) ((p1 + (1 : Int32))).toNatClampNeg), .int ((1 : Int32) <<< ((M.1 (a0 + 5) ((p1 + (3 : Int32))).toNatClampNeg) &&& 31)), .int (M.1 (a0 + 5) ((p1 + (2 : Int32))).toNatClampNeg)] G (c_X12_leads n h0 hcv11) h0 (by decide) rfl rfl rfl t_2054 t_2056 t_p130 t_17 t_2057 nm_X12_leads (by decide) (by decide) rfl rfl (Nat.le_of_ble_eq_true rfl) dX12_does_82 (kv_ri ?_)
        obtain rfl := Option.some.inj hf
        exact v_zret G (z_X12_leads n hcv11) dX12_does_85
    · replace hf := (if_pos h16).symm.trans hf
      refine v_aload_n G dX12_does_29 1 rfl ?_
      refine v_aload_n G dX12_does_30 1 rfl ?_
      refine gf_12_20 G h0 t_1511 (Or.inl rfl) dX12_does_31 ?_
      refine v_iload_n G dX12_does_34 2 rfl ?_
      refine v_iconst (1 : Int32) G dX12_does_35 (by decide) ?_
      refine v_iadd G dX12_does_36 ?_
      obtain ⟨g13, hf⟩ := gd_e hf
      refine al_36 G (kf_12_5 h0) g13 dX12_does_37 ?_
      refine v_aload_n G dX12_does_38 1 rfl ?_
      refine gf_12_20 G h0 t_1511 (Or.inl rfl) dX12_does_39 ?_
      refine v_iload_n G dX12_does_42 2 rfl ?_
      refine v_iconst (2 : Int32) G dX12_does_43 (by decide) ?_
      refine v_iadd G dX12_does_44 ?_
      obtain ⟨g14, hf⟩ := gd_e hf
      refine al_36 G (kf_12_5 h0) g14 dX12_does_45 ?_
      obtain ⟨v15, hcv15, hf⟩ := bd_e hf
      refine v_callV [.int (M.1 (a0 + 5) ((p1 + (1 : Int32))).toNatClampNeg), .int (M.1 (a0 + 5) ((p1 + (2 : Int32))).toNatClampNeg)] G (c_X12_goes n h0 hcv15) h0 (by decide) rfl rfl rfl t_2031 t_2033 t_p126 t_17 t_2034 nm_X12_goes (by decide) (by decide) rfl rfl (Nat.le_of_ble_eq_true rfl) dX12_does_46 (kv_ri ?_)
      obtain rfl := Option.some.inj hf
      exact v_zret G (z_X12_goes n hcv15) dX12_does_49
  · replace hf := (if_pos h19).symm.trans hf
    refine v_aload_n G dX12_does_11 1 rfl ?_
    refine v_aload_n G dX12_does_12 1 rfl ?_
    refine gf_12_20 G h0 t_1511 (Or.inl rfl) dX12_does_13 ?_
    refine v_iload_n G dX12_does_16 2 rfl ?_
    refine v_iconst (1 : Int32) G dX12_does_17 (by decide) ?_
    refine v_iadd G dX12_does_18 ?_
    obtain ⟨g17, hf⟩ := gd_e hf
    refine al_36 G (kf_12_5 h0) g17 dX12_does_19 ?_
    obtain ⟨v18, hcv18, hf⟩ := bd_e hf
    refine v_callV [.int (M.1 (a0 + 5) ((p1 + (1 : Int32))).toNatClampNeg)] G (c_X12_waits n h0 hcv18) h0 (by decide) rfl rfl rfl t_2296 t_2298 t_p156 t_17 t_2299 nm_X12_waits (by decide) (by decide) rfl rfl (Nat.le_of_ble_eq_true rfl) dX12_does_20 (kv_ri ?_)
    obtain rfl := Option.some.inj hf
    exact v_zret G (z_X12_waits n hcv18) dX12_does_23
abbrev cX12_isSo : ByteArray := prog_14_method_165_code
def yX12_isSo : MethodName := ⟨RX12, "isSo", "(I)Z"⟩
theorem dX12_isSo_0 : dc cX12_isSo 0 (.aload_n 0) 1 1 := ⟨by decide +kernel, rfl⟩
theorem dX12_isSo_1 : dc cX12_isSo 1 (.getfield 35) 3 4 := ⟨by decide +kernel, rfl⟩
theorem dX12_isSo_4 : dc cX12_isSo 4 (.iload_n 1) 1 5 := ⟨by decide +kernel, rfl⟩
theorem dX12_isSo_5 : dc cX12_isSo 5 (.bipush 6) 2 7 := ⟨by decide +kernel, rfl⟩
theorem dX12_isSo_7 : dc cX12_isSo 7 (.iadd) 1 8 := ⟨by decide +kernel, rfl⟩
theorem dX12_isSo_8 : dc cX12_isSo 8 (.iaload) 1 9 := ⟨by decide +kernel, rfl⟩
theorem dX12_isSo_9 : dc cX12_isSo 9 (.istore_n 2) 1 10 := ⟨by decide +kernel, rfl⟩
theorem dX12_isSo_10 : dc cX12_isSo 10 (.aload_n 0) 1 11 := ⟨by decide +kernel, rfl⟩
theorem dX12_isSo_11 : dc cX12_isSo 11 (.getfield 35) 3 14 := ⟨by decide +kernel, rfl⟩
theorem dX12_isSo_14 : dc cX12_isSo 14 (.iload_n 1) 1 15 := ⟨by decide +kernel, rfl⟩
theorem dX12_isSo_15 : dc cX12_isSo 15 (.iconst 1) 1 16 := ⟨by decide +kernel, rfl⟩
theorem dX12_isSo_16 : dc cX12_isSo 16 (.iadd) 1 17 := ⟨by decide +kernel, rfl⟩
theorem dX12_isSo_17 : dc cX12_isSo 17 (.iaload) 1 18 := ⟨by decide +kernel, rfl⟩
theorem dX12_isSo_18 : dc cX12_isSo 18 (.istore_n 3) 1 19 := ⟨by decide +kernel, rfl⟩
theorem dX12_isSo_19 : dc cX12_isSo 19 (.iload_n 2) 1 20 := ⟨by decide +kernel, rfl⟩
theorem dX12_isSo_20 : dc cX12_isSo 20 (.ifCond .ne 37) 3 23 := ⟨by decide +kernel, rfl⟩
theorem dX12_isSo_23 : dc cX12_isSo 23 (.aload_n 0) 1 24 := ⟨by decide +kernel, rfl⟩
theorem dX12_isSo_24 : dc cX12_isSo 24 (.iload_n 3) 1 25 := ⟨by decide +kernel, rfl⟩
theorem dX12_isSo_25 : dc cX12_isSo 25 (.invokevirtual 350) 3 28 := ⟨by decide +kernel, rfl⟩
theorem dX12_isSo_28 : dc cX12_isSo 28 (.ifCond .ne 27) 3 31 := ⟨by decide +kernel, rfl⟩
theorem dX12_isSo_31 : dc cX12_isSo 31 (.aload_n 0) 1 32 := ⟨by decide +kernel, rfl⟩
theorem dX12_isSo_32 : dc cX12_isSo 32 (.getfield 35) 3 35 := ⟨by decide +kernel, rfl⟩
theorem dX12_isSo_35 : dc cX12_isSo 35 (.bipush 58) 2 37 := ⟨by decide +kernel, rfl⟩
theorem dX12_isSo_37 : dc cX12_isSo 37 (.iload_n 3) 1 38 := ⟨by decide +kernel, rfl⟩
theorem dX12_isSo_38 : dc cX12_isSo 38 (.iadd) 1 39 := ⟨by decide +kernel, rfl⟩
theorem dX12_isSo_39 : dc cX12_isSo 39 (.iaload) 1 40 := ⟨by decide +kernel, rfl⟩
theorem dX12_isSo_40 : dc cX12_isSo 40 (.aload_n 0) 1 41 := ⟨by decide +kernel, rfl⟩
theorem dX12_isSo_41 : dc cX12_isSo 41 (.getfield 35) 3 44 := ⟨by decide +kernel, rfl⟩
theorem dX12_isSo_44 : dc cX12_isSo 44 (.iload_n 1) 1 45 := ⟨by decide +kernel, rfl⟩
theorem dX12_isSo_45 : dc cX12_isSo 45 (.iconst 2) 1 46 := ⟨by decide +kernel, rfl⟩
theorem dX12_isSo_46 : dc cX12_isSo 46 (.iadd) 1 47 := ⟨by decide +kernel, rfl⟩
theorem dX12_isSo_47 : dc cX12_isSo 47 (.iaload) 1 48 := ⟨by decide +kernel, rfl⟩
theorem dX12_isSo_48 : dc cX12_isSo 48 (.if_icmp .ne 7) 3 51 := ⟨by decide +kernel, rfl⟩
theorem dX12_isSo_51 : dc cX12_isSo 51 (.iconst 1) 1 52 := ⟨by decide +kernel, rfl⟩
theorem dX12_isSo_52 : dc cX12_isSo 52 (.goto 4) 3 55 := ⟨by decide +kernel, rfl⟩
theorem dX12_isSo_55 : dc cX12_isSo 55 (.iconst 0) 1 56 := ⟨by decide +kernel, rfl⟩
theorem dX12_isSo_56 : dc cX12_isSo 56 (.ireturn) 1 57 := ⟨by decide +kernel, rfl⟩
theorem dX12_isSo_57 : dc cX12_isSo 57 (.iload_n 2) 1 58 := ⟨by decide +kernel, rfl⟩
theorem dX12_isSo_58 : dc cX12_isSo 58 (.iconst 1) 1 59 := ⟨by decide +kernel, rfl⟩
theorem dX12_isSo_59 : dc cX12_isSo 59 (.if_icmp .ne 14) 3 62 := ⟨by decide +kernel, rfl⟩
theorem dX12_isSo_62 : dc cX12_isSo 62 (.aload_n 0) 1 63 := ⟨by decide +kernel, rfl⟩
theorem dX12_isSo_63 : dc cX12_isSo 63 (.aload_n 0) 1 64 := ⟨by decide +kernel, rfl⟩
theorem dX12_isSo_64 : dc cX12_isSo 64 (.getfield 35) 3 67 := ⟨by decide +kernel, rfl⟩
theorem dX12_isSo_67 : dc cX12_isSo 67 (.iconst 5) 1 68 := ⟨by decide +kernel, rfl⟩
theorem dX12_isSo_68 : dc cX12_isSo 68 (.iaload) 1 69 := ⟨by decide +kernel, rfl⟩
theorem dX12_isSo_69 : dc cX12_isSo 69 (.invokevirtual 343) 3 72 := ⟨by decide +kernel, rfl⟩
theorem dX12_isSo_72 : dc cX12_isSo 72 (.ireturn) 1 73 := ⟨by decide +kernel, rfl⟩
theorem dX12_isSo_73 : dc cX12_isSo 73 (.aload_n 0) 1 74 := ⟨by decide +kernel, rfl⟩
theorem dX12_isSo_74 : dc cX12_isSo 74 (.getfield 35) 3 77 := ⟨by decide +kernel, rfl⟩
theorem dX12_isSo_77 : dc cX12_isSo 77 (.bipush 90) 2 79 := ⟨by decide +kernel, rfl⟩
theorem dX12_isSo_79 : dc cX12_isSo 79 (.iload_n 3) 1 80 := ⟨by decide +kernel, rfl⟩
theorem dX12_isSo_80 : dc cX12_isSo 80 (.iadd) 1 81 := ⟨by decide +kernel, rfl⟩
theorem dX12_isSo_81 : dc cX12_isSo 81 (.iaload) 1 82 := ⟨by decide +kernel, rfl⟩
theorem dX12_isSo_82 : dc cX12_isSo 82 (.istore 4) 2 84 := ⟨by decide +kernel, rfl⟩
theorem dX12_isSo_84 : dc cX12_isSo 84 (.aload_n 0) 1 85 := ⟨by decide +kernel, rfl⟩
theorem dX12_isSo_85 : dc cX12_isSo 85 (.getfield 35) 3 88 := ⟨by decide +kernel, rfl⟩
theorem dX12_isSo_88 : dc cX12_isSo 88 (.iload_n 1) 1 89 := ⟨by decide +kernel, rfl⟩
theorem dX12_isSo_89 : dc cX12_isSo 89 (.bipush 7) 2 91 := ⟨by decide +kernel, rfl⟩
theorem dX12_isSo_91 : dc cX12_isSo 91 (.iadd) 1 92 := ⟨by decide +kernel, rfl⟩
theorem dX12_isSo_92 : dc cX12_isSo 92 (.iaload) 1 93 := ⟨by decide +kernel, rfl⟩
theorem dX12_isSo_93 : dc cX12_isSo 93 (.bipush 60) 2 95 := ⟨by decide +kernel, rfl⟩
theorem dX12_isSo_95 : dc cX12_isSo 95 (.if_icmp .ne 24) 3 98 := ⟨by decide +kernel, rfl⟩
theorem dX12_isSo_98 : dc cX12_isSo 98 (.iload 4) 2 100 := ⟨by decide +kernel, rfl⟩
theorem dX12_isSo_100 : dc cX12_isSo 100 (.aload_n 0) 1 101 := ⟨by decide +kernel, rfl⟩
theorem dX12_isSo_101 : dc cX12_isSo 101 (.getfield 35) 3 104 := ⟨by decide +kernel, rfl⟩
theorem dX12_isSo_104 : dc cX12_isSo 104 (.iload_n 1) 1 105 := ⟨by decide +kernel, rfl⟩
theorem dX12_isSo_105 : dc cX12_isSo 105 (.iconst 2) 1 106 := ⟨by decide +kernel, rfl⟩
theorem dX12_isSo_106 : dc cX12_isSo 106 (.iadd) 1 107 := ⟨by decide +kernel, rfl⟩
theorem dX12_isSo_107 : dc cX12_isSo 107 (.iaload) 1 108 := ⟨by decide +kernel, rfl⟩
theorem dX12_isSo_108 : dc cX12_isSo 108 (.if_icmp .ge 7) 3 111 := ⟨by decide +kernel, rfl⟩
theorem dX12_isSo_111 : dc cX12_isSo 111 (.iconst 1) 1 112 := ⟨by decide +kernel, rfl⟩
theorem dX12_isSo_112 : dc cX12_isSo 112 (.goto 60) 3 115 := ⟨by decide +kernel, rfl⟩
theorem dX12_isSo_115 : dc cX12_isSo 115 (.iconst 0) 1 116 := ⟨by decide +kernel, rfl⟩
theorem dX12_isSo_116 : dc cX12_isSo 116 (.goto 56) 3 119 := ⟨by decide +kernel, rfl⟩
theorem dX12_isSo_119 : dc cX12_isSo 119 (.aload_n 0) 1 120 := ⟨by decide +kernel, rfl⟩
theorem dX12_isSo_120 : dc cX12_isSo 120 (.getfield 35) 3 123 := ⟨by decide +kernel, rfl⟩
theorem dX12_isSo_123 : dc cX12_isSo 123 (.iload_n 1) 1 124 := ⟨by decide +kernel, rfl⟩
theorem dX12_isSo_124 : dc cX12_isSo 124 (.bipush 7) 2 126 := ⟨by decide +kernel, rfl⟩
theorem dX12_isSo_126 : dc cX12_isSo 126 (.iadd) 1 127 := ⟨by decide +kernel, rfl⟩
theorem dX12_isSo_127 : dc cX12_isSo 127 (.iaload) 1 128 := ⟨by decide +kernel, rfl⟩
theorem dX12_isSo_128 : dc cX12_isSo 128 (.bipush 62) 2 130 := ⟨by decide +kernel, rfl⟩
theorem dX12_isSo_130 : dc cX12_isSo 130 (.if_icmp .ne 24) 3 133 := ⟨by decide +kernel, rfl⟩
theorem dX12_isSo_133 : dc cX12_isSo 133 (.iload 4) 2 135 := ⟨by decide +kernel, rfl⟩
theorem dX12_isSo_135 : dc cX12_isSo 135 (.aload_n 0) 1 136 := ⟨by decide +kernel, rfl⟩
theorem dX12_isSo_136 : dc cX12_isSo 136 (.getfield 35) 3 139 := ⟨by decide +kernel, rfl⟩
theorem dX12_isSo_139 : dc cX12_isSo 139 (.iload_n 1) 1 140 := ⟨by decide +kernel, rfl⟩
theorem dX12_isSo_140 : dc cX12_isSo 140 (.iconst 2) 1 141 := ⟨by decide +kernel, rfl⟩
theorem dX12_isSo_141 : dc cX12_isSo 141 (.iadd) 1 142 := ⟨by decide +kernel, rfl⟩
theorem dX12_isSo_142 : dc cX12_isSo 142 (.iaload) 1 143 := ⟨by decide +kernel, rfl⟩
theorem dX12_isSo_143 : dc cX12_isSo 143 (.if_icmp .le 7) 3 146 := ⟨by decide +kernel, rfl⟩
theorem dX12_isSo_146 : dc cX12_isSo 146 (.iconst 1) 1 147 := ⟨by decide +kernel, rfl⟩
theorem dX12_isSo_147 : dc cX12_isSo 147 (.goto 25) 3 150 := ⟨by decide +kernel, rfl⟩
theorem dX12_isSo_150 : dc cX12_isSo 150 (.iconst 0) 1 151 := ⟨by decide +kernel, rfl⟩
theorem dX12_isSo_151 : dc cX12_isSo 151 (.goto 21) 3 154 := ⟨by decide +kernel, rfl⟩
theorem dX12_isSo_154 : dc cX12_isSo 154 (.iload 4) 2 156 := ⟨by decide +kernel, rfl⟩
theorem dX12_isSo_156 : dc cX12_isSo 156 (.aload_n 0) 1 157 := ⟨by decide +kernel, rfl⟩
theorem dX12_isSo_157 : dc cX12_isSo 157 (.getfield 35) 3 160 := ⟨by decide +kernel, rfl⟩
theorem dX12_isSo_160 : dc cX12_isSo 160 (.iload_n 1) 1 161 := ⟨by decide +kernel, rfl⟩
theorem dX12_isSo_161 : dc cX12_isSo 161 (.iconst 2) 1 162 := ⟨by decide +kernel, rfl⟩
theorem dX12_isSo_162 : dc cX12_isSo 162 (.iadd) 1 163 := ⟨by decide +kernel, rfl⟩
theorem dX12_isSo_163 : dc cX12_isSo 163 (.iaload) 1 164 := ⟨by decide +kernel, rfl⟩
theorem dX12_isSo_164 : dc cX12_isSo 164 (.if_icmp .ne 7) 3 167 := ⟨by decide +kernel, rfl⟩
theorem dX12_isSo_167 : dc cX12_isSo 167 (.iconst 1) 1 168 := ⟨by decide +kernel, rfl⟩
theorem dX12_isSo_168 : dc cX12_isSo 168 (.goto 4) 3 171 := ⟨by decide +kernel, rfl⟩
theorem dX12_isSo_171 : dc cX12_isSo 171 (.iconst 0) 1 172 := ⟨by decide +kernel, rfl⟩
theorem dX12_isSo_172 : dc cX12_isSo 172 (.ireturn) 1 173 := ⟨by decide +kernel, rfl⟩
theorem nm_X12_isSo : (yX12_isSo).cls ≠ "java/lang/invoke/MethodHandle" ∧ (yX12_isSo).cls ≠ "java/lang/invoke/VarHandle" ∧ (parseMethodDescriptor (yX12_isSo).desc).map (fun d => d.parameters.length) = some 1 := ⟨by decide +kernel, by decide +kernel, by decide +kernel⟩
set_option maxRecDepth 100000 in
theorem z_X12_isSo (n : Nat) {a0 : Nat} {p1 : Int32} {M : KM} {y : Int32} (hf : f_X12_isSo n a0 p1 M = some y) : (y = 0 ∨ y = 1) := by
  unfold f_X12_isSo at hf
  obtain ⟨g1, hf⟩ := gd_e hf
  obtain ⟨v2, ev2⟩ : ∃ q, q = ((M.1 (a0 + 5) ((p1 + (6 : Int32))).toNatClampNeg) : Int32) := ⟨_, rfl⟩
  replace hf := lt_e hf ev2
  obtain ⟨g3, hf⟩ := gd_e hf
  obtain ⟨v4, ev4⟩ : ∃ q, q = ((M.1 (a0 + 5) ((p1 + (1 : Int32))).toNatClampNeg) : Int32) := ⟨_, rfl⟩
  replace hf := lt_e hf ev4
  by_cases h25 : v2 = 0
  · replace hf := (if_pos h25).symm.trans hf
    obtain ⟨v20, hcv20, hf⟩ := bd_e hf
    by_cases h24 : v20 = 0
    · replace hf := (if_pos h24).symm.trans hf
      obtain ⟨g21, hf⟩ := gd_e hf
      obtain ⟨g22, hf⟩ := gd_e hf
      by_cases h23 : (M.1 (a0 + 5) (((58 : Int32) + v4)).toNatClampNeg) = (M.1 (a0 + 5) ((p1 + (2 : Int32))).toNatClampNeg)
      · replace hf := (if_pos h23).symm.trans hf
        obtain rfl := Option.some.inj hf
        exact (Or.inr rfl)
      · replace hf := (if_neg h23).symm.trans hf
        obtain rfl := Option.some.inj hf
        exact (Or.inl rfl)
    · replace hf := (if_neg h24).symm.trans hf
      obtain rfl := Option.some.inj hf
      exact (Or.inl rfl)
  · replace hf := (if_neg h25).symm.trans hf
    by_cases h19 : v2 = (1 : Int32)
    · replace hf := (if_pos h19).symm.trans hf
      obtain ⟨g17, hf⟩ := gd_e hf
      obtain ⟨v18, hcv18, hf⟩ := bd_e hf
      obtain rfl := Option.some.inj hf
      exact (z_X12_glares n hcv18)
    · replace hf := (if_neg h19).symm.trans hf
      obtain ⟨g5, hf⟩ := gd_e hf
      obtain ⟨v6, ev6⟩ : ∃ q, q = ((M.1 (a0 + 5) (((90 : Int32) + v4)).toNatClampNeg) : Int32) := ⟨_, rfl⟩
      replace hf := lt_e hf ev6
      obtain ⟨g7, hf⟩ := gd_e hf
      by_cases h16 : (M.1 (a0 + 5) ((p1 + (7 : Int32))).toNatClampNeg) = (60 : Int32)
      · replace hf := (if_pos h16).symm.trans hf
        obtain ⟨g14, hf⟩ := gd_e hf
        by_cases h15 : (M.1 (a0 + 5) ((p1 + (2 : Int32))).toNatClampNeg) ≤ v6
        · replace hf := (if_pos h15).symm.trans hf
          obtain rfl := Option.some.inj hf
          exact (Or.inl rfl)
        · replace hf := (if_neg h15).symm.trans hf
          obtain rfl := Option.some.inj hf
          exact (Or.inr rfl)
      · replace hf := (if_neg h16).symm.trans hf
        obtain ⟨g8, hf⟩ := gd_e hf
        by_cases h13 : (M.1 (a0 + 5) ((p1 + (7 : Int32))).toNatClampNeg) = (62 : Int32)
        · replace hf := (if_pos h13).symm.trans hf
          obtain ⟨g11, hf⟩ := gd_e hf
          by_cases h12 : v6 ≤ (M.1 (a0 + 5) ((p1 + (2 : Int32))).toNatClampNeg)
          · replace hf := (if_pos h12).symm.trans hf
            obtain rfl := Option.some.inj hf
            exact (Or.inl rfl)
          · replace hf := (if_neg h12).symm.trans hf
            obtain rfl := Option.some.inj hf
            exact (Or.inr rfl)
        · replace hf := (if_neg h13).symm.trans hf
          obtain ⟨g9, hf⟩ := gd_e hf
          by_cases h10 : v6 = (M.1 (a0 + 5) ((p1 + (2 : Int32))).toNatClampNeg)
          · replace hf := (if_pos h10).symm.trans hf
            obtain rfl := Option.some.inj hf
            exact (Or.inr rfl)
          · replace hf := (if_neg h10).symm.trans hf
            obtain rfl := Option.some.inj hf
            exact (Or.inl rfl)
set_option maxRecDepth 100000 in
set_option maxHeartbeats 4000000 in
theorem c_X12_isSo {l : Launch} {ad : Nat → Nat} {cy : Nat → ClassId} {D : va_G} {z : Nat} (n : Nat) {a0 : Nat} {p1 : Int32} {M : KM} {y : Int32} (h0 : kty a0 = 12) (hf : f_X12_isSo n a0 p1 M = some y) : KC l ad cy D z yX12_isSo cX12_isSo 5 (some .boolean) 2 [.ref (ad a0), .int p1] M (some (.int y), M) := by
  refine kv_enter (by decide +kernel) (Nat.le_of_ble_eq_true rfl) ?_
  intro x hl hD hz G
  subst hl hD hz
  unfold f_X12_isSo at hf
  have G : KG ad cy x cX12_isSo "NoonGuidesModel" 5 (some (some .boolean)) 2 := G
  show KV ad cy x (some (.int y), M) 0 [(0, .ref (ad a0)), (1, .int p1)] [] M
  refine v_aload_n G dX12_isSo_0 0 rfl ?_
  refine gf_12_20 G h0 t_1511 (Or.inl rfl) dX12_isSo_1 ?_
  refine v_iload_n G dX12_isSo_4 1 rfl ?_
  refine v_bipush (6 : Int32) G dX12_isSo_5 (by decide) ?_
  refine v_iadd G dX12_isSo_7 ?_
  obtain ⟨g1, hf⟩ := gd_e hf
  refine al_36 G (kf_12_5 h0) g1 dX12_isSo_8 ?_
  refine v_nmi (fun v2 ev2 => ?_)
  replace hf := lt_e hf ev2
  refine v_istore_n [(2, .int v2), (0, .ref (ad a0)), (1, .int p1)] G dX12_isSo_9 (by decide) rfl ?_
  refine v_aload_n G dX12_isSo_10 1 rfl ?_
  refine gf_12_20 G h0 t_1511 (Or.inl rfl) dX12_isSo_11 ?_
  refine v_iload_n G dX12_isSo_14 2 rfl ?_
  refine v_iconst (1 : Int32) G dX12_isSo_15 (by decide) ?_
  refine v_iadd G dX12_isSo_16 ?_
  obtain ⟨g3, hf⟩ := gd_e hf
  refine al_36 G (kf_12_5 h0) g3 dX12_isSo_17 ?_
  refine v_nmi (fun v4 ev4 => ?_)
  replace hf := lt_e hf ev4
  refine v_istore_n [(3, .int v4), (2, .int v2), (0, .ref (ad a0)), (1, .int p1)] G dX12_isSo_18 (by decide) rfl ?_
  refine v_iload_n G dX12_isSo_19 1 rfl ?_
  refine v_if_ne 57 G dX12_isSo_20 (by decide) (fun h25 => ?_) (fun h25 => ?_)
  · replace hf := (if_neg h25).symm.trans hf
    refine v_iload_n G dX12_isSo_57 1 rfl ?_
    refine v_iconst (1 : Int32) G dX12_isSo_58 (by decide) ?_
    refine v_icmp_ne 73 G dX12_isSo_59 (by decide) (fun h19 => ?_) (fun h19 => ?_)
    · replace hf := (if_neg h19).symm.trans hf
      refine v_aload_n G dX12_isSo_73 2 rfl ?_
      refine gf_12_20 G h0 t_1511 (Or.inl rfl) dX12_isSo_74 ?_
      refine v_bipush (90 : Int32) G dX12_isSo_77 (by decide) ?_
      refine v_iload_n G dX12_isSo_79 0 rfl ?_
      refine v_iadd G dX12_isSo_80 ?_
      obtain ⟨g5, hf⟩ := gd_e hf
      refine al_36 G (kf_12_5 h0) g5 dX12_isSo_81 ?_
      refine v_nmi (fun v6 ev6 => ?_)
      replace hf := lt_e hf ev6
      refine v_istore [(4, .int v6), (3, .int v4), (2, .int v2), (0, .ref (ad a0)), (1, .int p1)] G dX12_isSo_82 (by decide) rfl ?_
      refine v_aload_n G dX12_isSo_84 3 rfl ?_
      refine gf_12_20 G h0 t_1511 (Or.inl rfl) dX12_isSo_85 ?_
      refine v_iload_n G dX12_isSo_88 4 rfl ?_
      refine v_bipush (7 : Int32) G dX12_isSo_89 (by decide) ?_
      refine v_iadd G dX12_isSo_91 ?_
      obtain ⟨g7, hf⟩ := gd_e hf
      refine al_36 G (kf_12_5 h0) g7 dX12_isSo_92 ?_
      refine v_bipush (60 : Int32) G dX12_isSo_93 (by decide) ?_
      refine v_icmp_ne 119 G dX12_isSo_95 (by decide) (fun h16 => ?_) (fun h16 => ?_)
      · replace hf := (if_neg h16).symm.trans hf
        refine v_aload_n G dX12_isSo_119 3 rfl ?_
        refine gf_12_20 G h0 t_1511 (Or.inl rfl) dX12_isSo_120 ?_
        refine v_iload_n G dX12_isSo_123 4 rfl ?_
        refine v_bipush (7 : Int32) G dX12_isSo_124 (by decide) ?_
        refine v_iadd G dX12_isSo_126 ?_
        obtain ⟨g8, hf⟩ := gd_e hf
        refine al_36 G (kf_12_5 h0) g8 dX12_isSo_127 ?_
        refine v_bipush (62 : Int32) G dX12_isSo_128 (by decide) ?_
        refine v_icmp_ne 154 G dX12_isSo_130 (by decide) (fun h13 => ?_) (fun h13 => ?_)
        · replace hf := (if_neg h13).symm.trans hf
          refine v_iload G dX12_isSo_154 0 rfl ?_
          refine v_aload_n G dX12_isSo_156 3 rfl ?_
          refine gf_12_20 G h0 t_1511 (Or.inl rfl) dX12_isSo_157 ?_
          refine v_iload_n G dX12_isSo_160 4 rfl ?_
          refine v_iconst (2 : Int32) G dX12_isSo_161 (by decide) ?_
          refine v_iadd G dX12_isSo_162 ?_
          obtain ⟨g9, hf⟩ := gd_e hf
          refine al_36 G (kf_12_5 h0) g9 dX12_isSo_163 ?_
          refine v_icmp_ne 171 G dX12_isSo_164 (by decide) (fun h10 => ?_) (fun h10 => ?_)
          · replace hf := (if_neg h10).symm.trans hf
            refine v_iconst (0 : Int32) G dX12_isSo_171 (by decide) ?_
            obtain rfl := Option.some.inj hf
            exact v_zret G (Or.inl rfl) dX12_isSo_172
          · replace hf := (if_pos h10).symm.trans hf
            refine v_iconst (1 : Int32) G dX12_isSo_167 (by decide) ?_
            refine v_goto 172 G dX12_isSo_168 (by decide) ?_
            obtain rfl := Option.some.inj hf
            exact v_zret G (Or.inr rfl) dX12_isSo_172
        · replace hf := (if_pos h13).symm.trans hf
          refine v_iload G dX12_isSo_133 0 rfl ?_
          refine v_aload_n G dX12_isSo_135 3 rfl ?_
          refine gf_12_20 G h0 t_1511 (Or.inl rfl) dX12_isSo_136 ?_
          refine v_iload_n G dX12_isSo_139 4 rfl ?_
          refine v_iconst (2 : Int32) G dX12_isSo_140 (by decide) ?_
          refine v_iadd G dX12_isSo_141 ?_
          obtain ⟨g11, hf⟩ := gd_e hf
          refine al_36 G (kf_12_5 h0) g11 dX12_isSo_142 ?_
          refine v_icmp_le 150 G dX12_isSo_143 (by decide) (fun h12 => ?_) (fun h12 => ?_)
          · replace hf := (if_pos h12).symm.trans hf
            refine v_iconst (0 : Int32) G dX12_isSo_150 (by decide) ?_
            refine v_goto 172 G dX12_isSo_151 (by decide) ?_
            obtain rfl := Option.some.inj hf
            exact v_zret G (Or.inl rfl) dX12_isSo_172
          · replace hf := (if_neg h12).symm.trans hf
            refine v_iconst (1 : Int32) G dX12_isSo_146 (by decide) ?_
            refine v_goto 172 G dX12_isSo_147 (by decide) ?_
            obtain rfl := Option.some.inj hf
            exact v_zret G (Or.inr rfl) dX12_isSo_172
      · replace hf := (if_pos h16).symm.trans hf
        refine v_iload G dX12_isSo_98 0 rfl ?_
        refine v_aload_n G dX12_isSo_100 3 rfl ?_
        refine gf_12_20 G h0 t_1511 (Or.inl rfl) dX12_isSo_101 ?_
        refine v_iload_n G dX12_isSo_104 4 rfl ?_
        refine v_iconst (2 : Int32) G dX12_isSo_105 (by decide) ?_
        refine v_iadd G dX12_isSo_106 ?_
        obtain ⟨g14, hf⟩ := gd_e hf
        refine al_36 G (kf_12_5 h0) g14 dX12_isSo_107 ?_
        refine v_icmp_ge 115 G dX12_isSo_108 (by decide) (fun h15 => ?_) (fun h15 => ?_)
        · replace hf := (if_pos h15).symm.trans hf
          refine v_iconst (0 : Int32) G dX12_isSo_115 (by decide) ?_
          refine v_goto 172 G dX12_isSo_116 (by decide) ?_
          obtain rfl := Option.some.inj hf
          exact v_zret G (Or.inl rfl) dX12_isSo_172
        · replace hf := (if_neg h15).symm.trans hf
          refine v_iconst (1 : Int32) G dX12_isSo_111 (by decide) ?_
          refine v_goto 172 G dX12_isSo_112 (by decide) ?_
          obtain rfl := Option.some.inj hf
          exact v_zret G (Or.inr rfl) dX12_isSo_172
    · replace hf := (if_pos h19).symm.trans hf
      refine v_aload_n G dX12_isSo_62 2 rfl ?_
      refine v_aload_n G dX12_isSo_63 2 rfl ?_
      refine gf_12_20 G h0 t_1511 (Or.inl rfl) dX12_isSo_64 ?_
      refine v_iconst (5 : Int32) G dX12_isSo_67 (by decide) ?_
      obtain ⟨g17, hf⟩ := gd_e hf
      refine al_36 G (kf_12_5 h0) g17 dX12_isSo_68 ?_
      obtain ⟨v18, hcv18, hf⟩ := bd_e hf
      refine v_callV [.int (M.1 (a0 + 5) ((5 : Int32)).toNatClampNeg)] G (c_X12_glares n h0 hcv18) h0 (by decide) rfl rfl rfl t_1930 t_1932 t_p111 t_17 t_1933 nm_X12_glares (by decide) (by decide) rfl rfl (Nat.le_of_ble_eq_true rfl) dX12_isSo_69 (kv_ri ?_)
      obtain rfl := Option.some.inj hf
      exact v_zret G (z_X12_glares n hcv18) dX12_isSo_72
  · replace hf := (if_pos h25).symm.trans hf
    refine v_aload_n G dX12_isSo_23 2 rfl ?_
    refine v_iload_n G dX12_isSo_24 0 rfl ?_
    obtain ⟨v20, hcv20, hf⟩ := bd_e hf
    refine v_callV [.int v4] G (c_X12_isGoing n h0 hcv20) h0 (by decide) rfl rfl rfl t_1942 t_1944 t_p114 t_17 t_1945 nm_X12_isGoing (by decide) (by decide) rfl rfl (Nat.le_of_ble_eq_true rfl) dX12_isSo_25 (kv_ri ?_)
    refine v_if_ne 55 G dX12_isSo_28 (by decide) (fun h24 => ?_) (fun h24 => ?_)
    · replace hf := (if_neg h24).symm.trans hf
      refine v_iconst (0 : Int32) G dX12_isSo_55 (by decide) ?_
      obtain rfl := Option.some.inj hf
      exact v_zret G (Or.inl rfl) dX12_isSo_56
    · replace hf := (if_pos h24).symm.trans hf
      refine v_aload_n G dX12_isSo_31 2 rfl ?_
      refine gf_12_20 G h0 t_1511 (Or.inl rfl) dX12_isSo_32 ?_
      refine v_bipush (58 : Int32) G dX12_isSo_35 (by decide) ?_
      refine v_iload_n G dX12_isSo_37 0 rfl ?_
      refine v_iadd G dX12_isSo_38 ?_
      obtain ⟨g21, hf⟩ := gd_e hf
      refine al_36 G (kf_12_5 h0) g21 dX12_isSo_39 ?_
      refine v_aload_n G dX12_isSo_40 2 rfl ?_
      refine gf_12_20 G h0 t_1511 (Or.inl rfl) dX12_isSo_41 ?_
      refine v_iload_n G dX12_isSo_44 3 rfl ?_
      refine v_iconst (2 : Int32) G dX12_isSo_45 (by decide) ?_
      refine v_iadd G dX12_isSo_46 ?_
      obtain ⟨g22, hf⟩ := gd_e hf
      refine al_36 G (kf_12_5 h0) g22 dX12_isSo_47 ?_
      refine v_icmp_ne 55 G dX12_isSo_48 (by decide) (fun h23 => ?_) (fun h23 => ?_)
      · replace hf := (if_neg h23).symm.trans hf
        refine v_iconst (0 : Int32) G dX12_isSo_55 (by decide) ?_
        obtain rfl := Option.some.inj hf
        exact v_zret G (Or.inl rfl) dX12_isSo_56
      · replace hf := (if_pos h23).symm.trans hf
        refine v_iconst (1 : Int32) G dX12_isSo_51 (by decide) ?_
        refine v_goto 56 G dX12_isSo_52 (by decide) ?_
        obtain rfl := Option.some.inj hf
        exact v_zret G (Or.inr rfl) dX12_isSo_56
abbrev cX12_doOne : ByteArray := prog_14_method_166_code
def yX12_doOne : MethodName := ⟨RX12, "doOne", "(I)V"⟩
theorem nm_X12_doOne : (yX12_doOne).cls ≠ "java/lang/invoke/MethodHandle" ∧ (yX12_doOne).cls ≠ "java/lang/invoke/VarHandle" ∧ (parseMethodDescriptor (yX12_doOne).desc).map (fun d => d.parameters.length) = some 1 := ⟨by decide +kernel, by decide +kernel, by decide +kernel⟩
abbrev cX12_doAll : ByteArray := prog_14_method_167_code
def yX12_doAll : MethodName := ⟨RX12, "doAll", "(II)V"⟩
theorem dX12_doAll_0 : dc cX12_doAll 0 (.iload_n 1) 1 1 := ⟨by decide +kernel, rfl⟩
theorem dX12_doAll_1 : dc cX12_doAll 1 (.istore_n 3) 1 2 := ⟨by decide +kernel, rfl⟩
theorem dX12_doAll_2 : dc cX12_doAll 2 (.iload_n 3) 1 3 := ⟨by decide +kernel, rfl⟩
theorem dX12_doAll_3 : dc cX12_doAll 3 (.iload_n 2) 1 4 := ⟨by decide +kernel, rfl⟩
theorem dX12_doAll_4 : dc cX12_doAll 4 (.if_icmp .ge 35) 3 7 := ⟨by decide +kernel, rfl⟩
theorem dX12_doAll_7 : dc cX12_doAll 7 (.aload_n 0) 1 8 := ⟨by decide +kernel, rfl⟩
theorem dX12_doAll_8 : dc cX12_doAll 8 (.getfield 539) 3 11 := ⟨by decide +kernel, rfl⟩
theorem dX12_doAll_11 : dc cX12_doAll 11 (.ifCond .ne 28) 3 14 := ⟨by decide +kernel, rfl⟩
theorem dX12_doAll_14 : dc cX12_doAll 14 (.aload_n 0) 1 15 := ⟨by decide +kernel, rfl⟩
theorem dX12_doAll_15 : dc cX12_doAll 15 (.iload_n 3) 1 16 := ⟨by decide +kernel, rfl⟩
theorem dX12_doAll_16 : dc cX12_doAll 16 (.invokevirtual 557) 3 19 := ⟨by decide +kernel, rfl⟩
theorem dX12_doAll_19 : dc cX12_doAll 19 (.aload_n 0) 1 20 := ⟨by decide +kernel, rfl⟩
theorem dX12_doAll_20 : dc cX12_doAll 20 (.getfield 35) 3 23 := ⟨by decide +kernel, rfl⟩
theorem dX12_doAll_23 : dc cX12_doAll 23 (.sipush 292) 3 26 := ⟨by decide +kernel, rfl⟩
theorem dX12_doAll_26 : dc cX12_doAll 26 (.bipush 9) 2 28 := ⟨by decide +kernel, rfl⟩
theorem dX12_doAll_28 : dc cX12_doAll 28 (.iload_n 3) 1 29 := ⟨by decide +kernel, rfl⟩
theorem dX12_doAll_29 : dc cX12_doAll 29 (.imul) 1 30 := ⟨by decide +kernel, rfl⟩
theorem dX12_doAll_30 : dc cX12_doAll 30 (.iadd) 1 31 := ⟨by decide +kernel, rfl⟩
theorem dX12_doAll_31 : dc cX12_doAll 31 (.bipush 8) 2 33 := ⟨by decide +kernel, rfl⟩
theorem dX12_doAll_33 : dc cX12_doAll 33 (.iadd) 1 34 := ⟨by decide +kernel, rfl⟩
theorem dX12_doAll_34 : dc cX12_doAll 34 (.iaload) 1 35 := ⟨by decide +kernel, rfl⟩
theorem dX12_doAll_35 : dc cX12_doAll 35 (.istore_n 3) 1 36 := ⟨by decide +kernel, rfl⟩
theorem dX12_doAll_36 : dc cX12_doAll 36 (.goto (-34)) 3 39 := ⟨by decide +kernel, rfl⟩
theorem dX12_doAll_39 : dc cX12_doAll 39 (.return_) 1 40 := ⟨by decide +kernel, rfl⟩
theorem nm_X12_doAll : (yX12_doAll).cls ≠ "java/lang/invoke/MethodHandle" ∧ (yX12_doAll).cls ≠ "java/lang/invoke/VarHandle" ∧ (parseMethodDescriptor (yX12_doAll).desc).map (fun d => d.parameters.length) = some 2 := ⟨by decide +kernel, by decide +kernel, by decide +kernel⟩
set_option maxRecDepth 100000 in
set_option maxHeartbeats 4000000 in
theorem s_X12_doAll_2 {ad : Nat → Nat} {cy : Nat → ClassId} {x : KX} {d d2 : Nat} (G : KG ad cy x cX12_doAll "NoonGuidesModel" 4 (some none) d) (r_X12_doOne : Int32 → KM → Option KM) {a0 : Nat} {c2 : Int32} (hdd : 1 ≤ d) (hd2 : d2 < d) (hr_X12_doOne : ∀ {q0 : Int32} {M y : KM}, r_X12_doOne q0 M = some y → KC (KXl x) ad cy (KXD x) (KXz x) yX12_doOne cX12_doOne 5 none d2 [.ref (ad a0), .int q0] M (none, y)) (h0 : kty a0 = 12) {y : KM} : ∀ (n : Nat) (w3 : Int32) (M : KM), lp_X12_doAll_2 n r_X12_doOne a0 c2 w3 M = some y → KV ad cy x (none, y) 2 [(0, .ref (ad a0)), (2, .int c2), (3, .int w3)] [] M := by
  intro n
  induction n with
  | zero =>
    intro w3 M hf
    cases hf
  | succ n ih =>
    intro w3 M hf
    rw [lp_X12_doAll_2] at hf
    refine v_iload_n G dX12_doAll_2 2 rfl ?_
    refine v_iload_n G dX12_doAll_3 1 rfl ?_
    refine v_icmp_ge 39 G dX12_doAll_4 (by decide) (fun h5 => ?_) (fun h5 => ?_)
    · replace hf := (if_pos h5).symm.trans hf
      obtain rfl := Option.some.inj hf
      exact v_vret G dX12_doAll_39
    · replace hf := (if_neg h5).symm.trans hf
      refine v_aload_n G dX12_doAll_7 0 rfl ?_
      refine gf_12_39 G h0 t_1530 (Or.inl rfl) dX12_doAll_8 ?_
      refine v_if_ne 39 G dX12_doAll_11 (by decide) (fun h4 => ?_) (fun h4 => ?_)
      · replace hf := (if_neg h4).symm.trans hf
        obtain rfl := Option.some.inj hf
        exact v_vret G dX12_doAll_39
      · replace hf := (if_pos h4).symm.trans hf
        refine v_aload_n G dX12_doAll_14 0 rfl ?_
        refine v_iload_n G dX12_doAll_15 2 rfl ?_
        obtain ⟨v1, hcv1, hf⟩ := bd_e hf
        refine v_callV [.int w3] G (hr_X12_doOne hcv1) h0 (by decide) rfl rfl rfl t_2288 t_2290 t_p154 t_17 t_2291 nm_X12_doOne hd2 (by decide) rfl rfl (Nat.le_of_ble_eq_true rfl) dX12_doAll_16 (kv_rv ?_)
        refine v_aload_n G dX12_doAll_19 0 rfl ?_
        refine gf_12_20 G h0 t_1511 (Or.inl rfl) dX12_doAll_20 ?_
        refine v_sipush (292 : Int32) G dX12_doAll_23 (by decide) ?_
        refine v_bipush (9 : Int32) G dX12_doAll_26 (by decide) ?_
        refine v_iload_n G dX12_doAll_28 2 rfl ?_
        refine v_imul G dX12_doAll_29 ?_
        refine v_iadd G dX12_doAll_30 ?_
        refine v_bipush (8 : Int32) G dX12_doAll_31 (by decide) ?_
        refine v_iadd G dX12_doAll_33 ?_
        obtain ⟨g2, hf⟩ := gd_e hf
        refine al_36 G (kf_12_5 h0) g2 dX12_doAll_34 ?_
        refine v_nmi (fun v3 ev3 => ?_)
        replace hf := lt_e hf ev3
        refine v_istore_n [(3, .int v3), (0, .ref (ad a0)), (2, .int c2)] G dX12_doAll_35 (by decide) rfl ?_
        refine v_goto 2 G dX12_doAll_36 (by decide) ?_
        refine v_sub _ [1, 2, 0] rfl ?_
        exact ih v3 v1 hf
set_option maxRecDepth 100000 in
set_option maxHeartbeats 4000000 in
theorem c_X12_doAll_G {l : Launch} {ad : Nat → Nat} {cy : Nat → ClassId} {D : va_G} {z : Nat} (r_X12_doOne : Int32 → KM → Option KM) (n : Nat) {a0 : Nat} {p1 : Int32} {p2 : Int32} {d d2 : Nat} (hdd : 1 ≤ d) (hd2 : d2 < d) (hr_X12_doOne : ∀ {q0 : Int32} {M y : KM}, r_X12_doOne q0 M = some y → KC l ad cy D z yX12_doOne cX12_doOne 5 none d2 [.ref (ad a0), .int q0] M (none, y)) {M : KM} {y : KM} (h0 : kty a0 = 12) (hf : f_X12_doAll_G r_X12_doOne n a0 p1 p2 M = some y) : KC l ad cy D z yX12_doAll cX12_doAll 4 none d [.ref (ad a0), .int p1, .int p2] M (none, y) := by
  refine kv_enter (by decide +kernel) (Nat.le_of_ble_eq_true rfl) ?_
  intro x hl hD hz G
  subst hl hD hz
  unfold f_X12_doAll_G at hf
  have G : KG ad cy x cX12_doAll "NoonGuidesModel" 4 (some none) d := G
  show KV ad cy x (none, y) 0 [(0, .ref (ad a0)), (1, .int p1), (2, .int p2)] [] M
  refine v_iload_n G dX12_doAll_0 1 rfl ?_
  refine v_istore_n [(3, .int p1), (0, .ref (ad a0)), (1, .int p1), (2, .int p2)] G dX12_doAll_1 (by decide) rfl ?_
  refine v_sub _ [1, 3, 0] rfl ?_
  refine s_X12_doAll_2 G r_X12_doOne hdd hd2 hr_X12_doOne h0 n p1 M hf
theorem dX12_doOne_0 : dc cX12_doOne 0 (.aload_n 0) 1 1 := ⟨by decide +kernel, rfl⟩
theorem dX12_doOne_1 : dc cX12_doOne 1 (.getfield 536) 3 4 := ⟨by decide +kernel, rfl⟩
theorem dX12_doOne_4 : dc cX12_doOne 4 (.sipush 300) 3 7 := ⟨by decide +kernel, rfl⟩
theorem dX12_doOne_7 : dc cX12_doOne 7 (.if_icmp .ne 14) 3 10 := ⟨by decide +kernel, rfl⟩
theorem dX12_doOne_10 : dc cX12_doOne 10 (.aload_n 0) 1 11 := ⟨by decide +kernel, rfl⟩
theorem dX12_doOne_11 : dc cX12_doOne 11 (.iconst 1) 1 12 := ⟨by decide +kernel, rfl⟩
theorem dX12_doOne_12 : dc cX12_doOne 12 (.putfield 539) 3 15 := ⟨by decide +kernel, rfl⟩
theorem dX12_doOne_15 : dc cX12_doOne 15 (.aload_n 0) 1 16 := ⟨by decide +kernel, rfl⟩
theorem dX12_doOne_16 : dc cX12_doOne 16 (.iconst 1) 1 17 := ⟨by decide +kernel, rfl⟩
theorem dX12_doOne_17 : dc cX12_doOne 17 (.putfield 542) 3 20 := ⟨by decide +kernel, rfl⟩
theorem dX12_doOne_20 : dc cX12_doOne 20 (.return_) 1 21 := ⟨by decide +kernel, rfl⟩
theorem dX12_doOne_21 : dc cX12_doOne 21 (.aload_n 0) 1 22 := ⟨by decide +kernel, rfl⟩
theorem dX12_doOne_22 : dc cX12_doOne 22 (.dup) 1 23 := ⟨by decide +kernel, rfl⟩
theorem dX12_doOne_23 : dc cX12_doOne 23 (.getfield 536) 3 26 := ⟨by decide +kernel, rfl⟩
theorem dX12_doOne_26 : dc cX12_doOne 26 (.iconst 1) 1 27 := ⟨by decide +kernel, rfl⟩
theorem dX12_doOne_27 : dc cX12_doOne 27 (.iadd) 1 28 := ⟨by decide +kernel, rfl⟩
theorem dX12_doOne_28 : dc cX12_doOne 28 (.putfield 536) 3 31 := ⟨by decide +kernel, rfl⟩
theorem dX12_doOne_31 : dc cX12_doOne 31 (.sipush 292) 3 34 := ⟨by decide +kernel, rfl⟩
theorem dX12_doOne_34 : dc cX12_doOne 34 (.bipush 9) 2 36 := ⟨by decide +kernel, rfl⟩
theorem dX12_doOne_36 : dc cX12_doOne 36 (.iload_n 1) 1 37 := ⟨by decide +kernel, rfl⟩
theorem dX12_doOne_37 : dc cX12_doOne 37 (.imul) 1 38 := ⟨by decide +kernel, rfl⟩
theorem dX12_doOne_38 : dc cX12_doOne 38 (.iadd) 1 39 := ⟨by decide +kernel, rfl⟩
theorem dX12_doOne_39 : dc cX12_doOne 39 (.istore_n 2) 1 40 := ⟨by decide +kernel, rfl⟩
theorem dX12_doOne_40 : dc cX12_doOne 40 (.aload_n 0) 1 41 := ⟨by decide +kernel, rfl⟩
theorem dX12_doOne_41 : dc cX12_doOne 41 (.getfield 35) 3 44 := ⟨by decide +kernel, rfl⟩
theorem dX12_doOne_44 : dc cX12_doOne 44 (.iload_n 2) 1 45 := ⟨by decide +kernel, rfl⟩
theorem dX12_doOne_45 : dc cX12_doOne 45 (.iaload) 1 46 := ⟨by decide +kernel, rfl⟩
theorem dX12_doOne_46 : dc cX12_doOne 46 (.istore_n 3) 1 47 := ⟨by decide +kernel, rfl⟩
theorem dX12_doOne_47 : dc cX12_doOne 47 (.iload_n 3) 1 48 := ⟨by decide +kernel, rfl⟩
theorem dX12_doOne_48 : dc cX12_doOne 48 (.bipush 6) 2 50 := ⟨by decide +kernel, rfl⟩
theorem dX12_doOne_50 : dc cX12_doOne 50 (.if_icmp .ge 28) 3 53 := ⟨by decide +kernel, rfl⟩
theorem dX12_doOne_53 : dc cX12_doOne 53 (.aload_n 0) 1 54 := ⟨by decide +kernel, rfl⟩
theorem dX12_doOne_54 : dc cX12_doOne 54 (.dup) 1 55 := ⟨by decide +kernel, rfl⟩
theorem dX12_doOne_55 : dc cX12_doOne 55 (.getfield 545) 3 58 := ⟨by decide +kernel, rfl⟩
theorem dX12_doOne_58 : dc cX12_doOne 58 (.aload_n 0) 1 59 := ⟨by decide +kernel, rfl⟩
theorem dX12_doOne_59 : dc cX12_doOne 59 (.iload_n 2) 1 60 := ⟨by decide +kernel, rfl⟩
theorem dX12_doOne_60 : dc cX12_doOne 60 (.invokevirtual 548) 3 63 := ⟨by decide +kernel, rfl⟩
theorem dX12_doOne_63 : dc cX12_doOne 63 (.ifCond .eq 7) 3 66 := ⟨by decide +kernel, rfl⟩
theorem dX12_doOne_66 : dc cX12_doOne 66 (.iconst 0) 1 67 := ⟨by decide +kernel, rfl⟩
theorem dX12_doOne_67 : dc cX12_doOne 67 (.goto 4) 3 70 := ⟨by decide +kernel, rfl⟩
theorem dX12_doOne_70 : dc cX12_doOne 70 (.iconst 1) 1 71 := ⟨by decide +kernel, rfl⟩
theorem dX12_doOne_71 : dc cX12_doOne 71 (.iadd) 1 72 := ⟨by decide +kernel, rfl⟩
theorem dX12_doOne_72 : dc cX12_doOne 72 (.putfield 545) 3 75 := ⟨by decide +kernel, rfl⟩
theorem dX12_doOne_75 : dc cX12_doOne 75 (.goto 101) 3 78 := ⟨by decide +kernel, rfl⟩
theorem dX12_doOne_78 : dc cX12_doOne 78 (.iload_n 3) 1 79 := ⟨by decide +kernel, rfl⟩
theorem dX12_doOne_79 : dc cX12_doOne 79 (.bipush 6) 2 81 := ⟨by decide +kernel, rfl⟩
theorem dX12_doOne_81 : dc cX12_doOne 81 (.if_icmp .ne 30) 3 84 := ⟨by decide +kernel, rfl⟩
theorem dX12_doOne_84 : dc cX12_doOne 84 (.aload_n 0) 1 85 := ⟨by decide +kernel, rfl⟩
theorem dX12_doOne_85 : dc cX12_doOne 85 (.iload_n 2) 1 86 := ⟨by decide +kernel, rfl⟩
theorem dX12_doOne_86 : dc cX12_doOne 86 (.invokevirtual 551) 3 89 := ⟨by decide +kernel, rfl⟩
theorem dX12_doOne_89 : dc cX12_doOne 89 (.ifCond .eq 22) 3 92 := ⟨by decide +kernel, rfl⟩
theorem dX12_doOne_92 : dc cX12_doOne 92 (.aload_n 0) 1 93 := ⟨by decide +kernel, rfl⟩
theorem dX12_doOne_93 : dc cX12_doOne 93 (.iload_n 1) 1 94 := ⟨by decide +kernel, rfl⟩
theorem dX12_doOne_94 : dc cX12_doOne 94 (.iconst 1) 1 95 := ⟨by decide +kernel, rfl⟩
theorem dX12_doOne_95 : dc cX12_doOne 95 (.iadd) 1 96 := ⟨by decide +kernel, rfl⟩
theorem dX12_doOne_96 : dc cX12_doOne 96 (.aload_n 0) 1 97 := ⟨by decide +kernel, rfl⟩
theorem dX12_doOne_97 : dc cX12_doOne 97 (.getfield 35) 3 100 := ⟨by decide +kernel, rfl⟩
theorem dX12_doOne_100 : dc cX12_doOne 100 (.iload_n 2) 1 101 := ⟨by decide +kernel, rfl⟩
theorem dX12_doOne_101 : dc cX12_doOne 101 (.bipush 8) 2 103 := ⟨by decide +kernel, rfl⟩
theorem dX12_doOne_103 : dc cX12_doOne 103 (.iadd) 1 104 := ⟨by decide +kernel, rfl⟩
theorem dX12_doOne_104 : dc cX12_doOne 104 (.iaload) 1 105 := ⟨by decide +kernel, rfl⟩
theorem dX12_doOne_105 : dc cX12_doOne 105 (.invokevirtual 554) 3 108 := ⟨by decide +kernel, rfl⟩
theorem dX12_doOne_108 : dc cX12_doOne 108 (.goto 68) 3 111 := ⟨by decide +kernel, rfl⟩
theorem dX12_doOne_111 : dc cX12_doOne 111 (.iload_n 3) 1 112 := ⟨by decide +kernel, rfl⟩
theorem dX12_doOne_112 : dc cX12_doOne 112 (.bipush 7) 2 114 := ⟨by decide +kernel, rfl⟩
theorem dX12_doOne_114 : dc cX12_doOne 114 (.if_icmp .ne 51) 3 117 := ⟨by decide +kernel, rfl⟩
theorem dX12_doOne_117 : dc cX12_doOne 117 (.iconst 0) 1 118 := ⟨by decide +kernel, rfl⟩
theorem dX12_doOne_118 : dc cX12_doOne 118 (.istore 4) 2 120 := ⟨by decide +kernel, rfl⟩
theorem dX12_doOne_120 : dc cX12_doOne 120 (.iload 4) 2 122 := ⟨by decide +kernel, rfl⟩
theorem dX12_doOne_122 : dc cX12_doOne 122 (.aload_n 0) 1 123 := ⟨by decide +kernel, rfl⟩
theorem dX12_doOne_123 : dc cX12_doOne 123 (.getfield 35) 3 126 := ⟨by decide +kernel, rfl⟩
theorem dX12_doOne_126 : dc cX12_doOne 126 (.iload_n 2) 1 127 := ⟨by decide +kernel, rfl⟩
theorem dX12_doOne_127 : dc cX12_doOne 127 (.iconst 1) 1 128 := ⟨by decide +kernel, rfl⟩
theorem dX12_doOne_128 : dc cX12_doOne 128 (.iadd) 1 129 := ⟨by decide +kernel, rfl⟩
theorem dX12_doOne_129 : dc cX12_doOne 129 (.iaload) 1 130 := ⟨by decide +kernel, rfl⟩
theorem dX12_doOne_130 : dc cX12_doOne 130 (.if_icmp .ge 32) 3 133 := ⟨by decide +kernel, rfl⟩
theorem dX12_doOne_133 : dc cX12_doOne 133 (.aload_n 0) 1 134 := ⟨by decide +kernel, rfl⟩
theorem dX12_doOne_134 : dc cX12_doOne 134 (.getfield 539) 3 137 := ⟨by decide +kernel, rfl⟩
theorem dX12_doOne_137 : dc cX12_doOne 137 (.ifCond .ne 25) 3 140 := ⟨by decide +kernel, rfl⟩
theorem dX12_doOne_140 : dc cX12_doOne 140 (.aload_n 0) 1 141 := ⟨by decide +kernel, rfl⟩
theorem dX12_doOne_141 : dc cX12_doOne 141 (.iload_n 1) 1 142 := ⟨by decide +kernel, rfl⟩
theorem dX12_doOne_142 : dc cX12_doOne 142 (.iconst 1) 1 143 := ⟨by decide +kernel, rfl⟩
theorem dX12_doOne_143 : dc cX12_doOne 143 (.iadd) 1 144 := ⟨by decide +kernel, rfl⟩
theorem dX12_doOne_144 : dc cX12_doOne 144 (.aload_n 0) 1 145 := ⟨by decide +kernel, rfl⟩
theorem dX12_doOne_145 : dc cX12_doOne 145 (.getfield 35) 3 148 := ⟨by decide +kernel, rfl⟩
theorem dX12_doOne_148 : dc cX12_doOne 148 (.iload_n 2) 1 149 := ⟨by decide +kernel, rfl⟩
theorem dX12_doOne_149 : dc cX12_doOne 149 (.bipush 8) 2 151 := ⟨by decide +kernel, rfl⟩
theorem dX12_doOne_151 : dc cX12_doOne 151 (.iadd) 1 152 := ⟨by decide +kernel, rfl⟩
theorem dX12_doOne_152 : dc cX12_doOne 152 (.iaload) 1 153 := ⟨by decide +kernel, rfl⟩
theorem dX12_doOne_153 : dc cX12_doOne 153 (.invokevirtual 554) 3 156 := ⟨by decide +kernel, rfl⟩
theorem dX12_doOne_156 : dc cX12_doOne 156 (.iinc 4 1) 3 159 := ⟨by decide +kernel, rfl⟩
theorem dX12_doOne_159 : dc cX12_doOne 159 (.goto (-39)) 3 162 := ⟨by decide +kernel, rfl⟩
theorem dX12_doOne_162 : dc cX12_doOne 162 (.goto 14) 3 165 := ⟨by decide +kernel, rfl⟩
theorem dX12_doOne_165 : dc cX12_doOne 165 (.iload_n 3) 1 166 := ⟨by decide +kernel, rfl⟩
theorem dX12_doOne_166 : dc cX12_doOne 166 (.bipush 7) 2 168 := ⟨by decide +kernel, rfl⟩
theorem dX12_doOne_168 : dc cX12_doOne 168 (.if_icmp .le 8) 3 171 := ⟨by decide +kernel, rfl⟩
theorem dX12_doOne_171 : dc cX12_doOne 171 (.aload_n 0) 1 172 := ⟨by decide +kernel, rfl⟩
theorem dX12_doOne_172 : dc cX12_doOne 172 (.iconst 1) 1 173 := ⟨by decide +kernel, rfl⟩
theorem dX12_doOne_173 : dc cX12_doOne 173 (.putfield 539) 3 176 := ⟨by decide +kernel, rfl⟩
theorem dX12_doOne_176 : dc cX12_doOne 176 (.return_) 1 177 := ⟨by decide +kernel, rfl⟩
set_option maxRecDepth 100000 in
set_option maxHeartbeats 4000000 in
theorem s_X12_doOne_120 {ad : Nat → Nat} {cy : Nat → ClassId} {x : KX} {d d2 : Nat} (G : KG ad cy x cX12_doOne "NoonGuidesModel" 5 (some none) d) (r_X12_doAll : Int32 → Int32 → KM → Option KM) {a0 : Nat} {c1 : Int32} {c2 : Int32} (hdd : 8 ≤ d) (hd2 : d2 < d) (hr_X12_doAll : ∀ {q0 : Int32} {q1 : Int32} {M y : KM}, r_X12_doAll q0 q1 M = some y → KC (KXl x) ad cy (KXD x) (KXz x) yX12_doAll cX12_doAll 4 none d2 [.ref (ad a0), .int q0, .int q1] M (none, y)) (h0 : kty a0 = 12) {k162 : KM → Option KM} {y : KM} (hk162 : ∀ (M : KM), k162 M = some y → KV ad cy x (none, y) 162 [] [] M) : ∀ (n : Nat) (w4 : Int32) (M : KM), lp_X12_doOne_120 n r_X12_doAll a0 c1 c2 w4 M k162 = some y → KV ad cy x (none, y) 120 [(0, .ref (ad a0)), (1, .int c1), (2, .int c2), (4, .int w4)] [] M := by
  intro n
  induction n with
  | zero =>
    intro w4 M hf
    cases hf
  | succ n ih =>
    intro w4 M hf
    rw [lp_X12_doOne_120] at hf
    refine v_iload G dX12_doOne_120 3 rfl ?_
    refine v_aload_n G dX12_doOne_122 0 rfl ?_
    refine gf_12_20 G h0 t_1511 (Or.inl rfl) dX12_doOne_123 ?_
    refine v_iload_n G dX12_doOne_126 2 rfl ?_
    refine v_iconst (1 : Int32) G dX12_doOne_127 (by decide) ?_
    refine v_iadd G dX12_doOne_128 ?_
    obtain ⟨g7, hf⟩ := gd_e hf
    refine al_36 G (kf_12_5 h0) g7 dX12_doOne_129 ?_
    refine v_icmp_ge 162 G dX12_doOne_130 (by decide) (fun h12 => ?_) (fun h12 => ?_)
    · replace hf := (if_pos h12).symm.trans hf
      refine v_sub _ [] rfl ?_
      exact hk162 M hf
    · replace hf := (if_neg h12).symm.trans hf
      refine v_aload_n G dX12_doOne_133 0 rfl ?_
      refine gf_12_39 G h0 t_1530 (Or.inl rfl) dX12_doOne_134 ?_
      refine v_if_ne 162 G dX12_doOne_137 (by decide) (fun h11 => ?_) (fun h11 => ?_)
      · replace hf := (if_neg h11).symm.trans hf
        refine v_sub _ [] rfl ?_
        exact hk162 M hf
      · replace hf := (if_pos h11).symm.trans hf
        refine v_aload_n G dX12_doOne_140 0 rfl ?_
        refine v_iload_n G dX12_doOne_141 1 rfl ?_
        refine v_iconst (1 : Int32) G dX12_doOne_142 (by decide) ?_
        refine v_iadd G dX12_doOne_143 ?_
        refine v_aload_n G dX12_doOne_144 0 rfl ?_
        refine gf_12_20 G h0 t_1511 (Or.inl rfl) dX12_doOne_145 ?_
        refine v_iload_n G dX12_doOne_148 2 rfl ?_
        refine v_bipush (8 : Int32) G dX12_doOne_149 (by decide) ?_
        refine v_iadd G dX12_doOne_151 ?_
        obtain ⟨g8, hf⟩ := gd_e hf
        refine al_36 G (kf_12_5 h0) g8 dX12_doOne_152 ?_
        obtain ⟨v9, hcv9, hf⟩ := bd_e hf
        refine v_callV [.int (c1 + (1 : Int32)), .int (M.1 (a0 + 5) ((c2 + (8 : Int32))).toNatClampNeg)] G (hr_X12_doAll hcv9) h0 (by decide) rfl rfl rfl t_2284 t_2286 t_p153 t_17 t_2287 nm_X12_doAll hd2 (by decide) rfl rfl (Nat.le_of_ble_eq_true rfl) dX12_doOne_153 (kv_rv ?_)
        obtain ⟨v10, ev10⟩ : ∃ q : Int32, q = w4 + (1 : Int32) := ⟨_, rfl⟩
        replace hf := lt_e hf ev10
        refine v_iinc v10 [(4, .int v10), (0, .ref (ad a0)), (1, .int c1), (2, .int c2)] G dX12_doOne_156 3 rfl (by rw [ev10]; rfl) (by decide) rfl ?_
        refine v_goto 120 G dX12_doOne_159 (by decide) ?_
        refine v_sub _ [1, 2, 3, 0] rfl ?_
        exact ih v10 v9 hf
set_option maxRecDepth 100000 in
set_option maxHeartbeats 4000000 in
theorem c_X12_doOne_G {l : Launch} {ad : Nat → Nat} {cy : Nat → ClassId} {D : va_G} {z : Nat} (r_X12_doAll : Int32 → Int32 → KM → Option KM) (n : Nat) {a0 : Nat} {p1 : Int32} {d d2 : Nat} (hdd : 8 ≤ d) (hd2 : d2 < d) (hr_X12_doAll : ∀ {q0 : Int32} {q1 : Int32} {M y : KM}, r_X12_doAll q0 q1 M = some y → KC l ad cy D z yX12_doAll cX12_doAll 4 none d2 [.ref (ad a0), .int q0, .int q1] M (none, y)) {M : KM} {y : KM} (h0 : kty a0 = 12) (hf : f_X12_doOne_G r_X12_doAll n a0 p1 M = some y) : KC l ad cy D z yX12_doOne cX12_doOne 5 none d [.ref (ad a0), .int p1] M (none, y) := by
  refine kv_enter (by decide +kernel) (Nat.le_of_ble_eq_true rfl) ?_
  intro x hl hD hz G
  subst hl hD hz
  unfold f_X12_doOne_G at hf
  have G : KG ad cy x cX12_doOne "NoonGuidesModel" 5 (some none) d := G
  show KV ad cy x (none, y) 0 [(0, .ref (ad a0)), (1, .int p1)] [] M
  refine v_aload_n G dX12_doOne_0 0 rfl ?_
  refine gf_12_41 G h0 t_1532 (Or.inl rfl) dX12_doOne_1 ?_
  refine v_sipush (300 : Int32) G dX12_doOne_4 (by decide) ?_
  refine v_icmp_ne 21 G dX12_doOne_7 (by decide) (fun h27 => ?_) (fun h27 => ?_)
  · replace hf := (if_neg h27).symm.trans hf
    refine v_aload_n G dX12_doOne_21 0 rfl ?_
    refine v_dup G dX12_doOne_22 rfl ?_
    refine gf_12_41 G h0 t_1532 (Or.inl rfl) dX12_doOne_23 ?_
    refine v_iconst (1 : Int32) G dX12_doOne_26 (by decide) ?_
    refine v_iadd G dX12_doOne_27 ?_
    refine pf_12_41 G h0 t_1532 (Or.inl rfl) dX12_doOne_28 ?_
    refine v_nmM (fun M1 eM1 => ?_)
    replace hf := lt_e hf eM1
    refine v_sipush (292 : Int32) G dX12_doOne_31 (by decide) ?_
    refine v_bipush (9 : Int32) G dX12_doOne_34 (by decide) ?_
    refine v_iload_n G dX12_doOne_36 1 rfl ?_
    refine v_imul G dX12_doOne_37 ?_
    refine v_iadd G dX12_doOne_38 ?_
    refine v_nmi (fun v2 ev2 => ?_)
    replace hf := lt_e hf ev2
    refine v_istore_n [(2, .int v2), (0, .ref (ad a0)), (1, .int p1)] G dX12_doOne_39 (by decide) rfl ?_
    refine v_aload_n G dX12_doOne_40 1 rfl ?_
    refine gf_12_20 G h0 t_1511 (Or.inl rfl) dX12_doOne_41 ?_
    refine v_iload_n G dX12_doOne_44 0 rfl ?_
    obtain ⟨g3, hf⟩ := gd_e hf
    refine al_36 G (kf_12_5 h0) g3 dX12_doOne_45 ?_
    refine v_nmi (fun v4 ev4 => ?_)
    replace hf := lt_e hf ev4
    refine v_istore_n [(3, .int v4), (2, .int v2), (0, .ref (ad a0)), (1, .int p1)] G dX12_doOne_46 (by decide) rfl ?_
    refine v_iload_n G dX12_doOne_47 0 rfl ?_
    refine v_bipush (6 : Int32) G dX12_doOne_48 (by decide) ?_
    refine v_icmp_ge 78 G dX12_doOne_50 (by decide) (fun h24 => ?_) (fun h24 => ?_)
    · replace hf := (if_pos h24).symm.trans hf
      refine v_iload_n G dX12_doOne_78 0 rfl ?_
      refine v_bipush (6 : Int32) G dX12_doOne_79 (by decide) ?_
      obtain ⟨j111, ej111, hf⟩ := lt_j hf
      have hj111 : j111 = some y → KV ad cy x (none, y) 111 [(0, .ref (ad a0)), (1, .int p1), (2, .int v2), (3, .int v4)] [] M1 := by
        intro hf
        rw [ej111] at hf
        refine v_iload_n G dX12_doOne_111 3 rfl ?_
        refine v_bipush (7 : Int32) G dX12_doOne_112 (by decide) ?_
        refine v_icmp_ne 165 G dX12_doOne_114 (by decide) (fun h14 => ?_) (fun h14 => ?_)
        · replace hf := (if_neg h14).symm.trans hf
          refine v_iload_n G dX12_doOne_165 3 rfl ?_
          refine v_bipush (7 : Int32) G dX12_doOne_166 (by decide) ?_
          refine v_icmp_le 176 G dX12_doOne_168 (by decide) (fun h6 => ?_) (fun h6 => ?_)
          · replace hf := (if_pos h6).symm.trans hf
            obtain rfl := Option.some.inj hf
            exact v_vret G dX12_doOne_176
          · replace hf := (if_neg h6).symm.trans hf
            refine v_aload_n G dX12_doOne_171 0 rfl ?_
            refine v_iconst (1 : Int32) G dX12_doOne_172 (by decide) ?_
            refine pf_12_39 G h0 (Or.inr rfl) t_1530 (Or.inl rfl) dX12_doOne_173 ?_
            refine v_nmM (fun M5 eM5 => ?_)
            replace hf := lt_e hf eM5
            obtain rfl := Option.some.inj hf
            exact v_vret G dX12_doOne_176
        · replace hf := (if_pos h14).symm.trans hf
          refine v_iconst (0 : Int32) G dX12_doOne_117 (by decide) ?_
          refine v_istore [(4, .int (0 : Int32)), (0, .ref (ad a0)), (1, .int p1), (2, .int v2), (3, .int v4)] G dX12_doOne_118 (by decide) rfl ?_
          refine v_sub _ [1, 2, 3, 0] rfl ?_
          refine s_X12_doOne_120 G r_X12_doAll hdd hd2 hr_X12_doAll h0 (fun M13 hf => ?_) n (0 : Int32) M1 hf
          · refine v_goto 176 G dX12_doOne_162 (by decide) ?_
            obtain rfl := Option.some.inj hf
            exact v_vret G dX12_doOne_176
      refine v_icmp_ne 111 G dX12_doOne_81 (by decide) (fun h19 => ?_) (fun h19 => ?_)
      · replace hf := (if_neg h19).symm.trans hf
        refine v_sub _ [2, 3, 1, 0] rfl ?_
        exact hj111 hf
      · replace hf := (if_pos h19).symm.trans hf
        refine v_aload_n G dX12_doOne_84 2 rfl ?_
        refine v_iload_n G dX12_doOne_85 1 rfl ?_
        obtain ⟨v15, hcv15, hf⟩ := bd_e hf
        refine v_callV [.int v2] G (c_X12_isSo n h0 hcv15) h0 (by decide) rfl rfl rfl t_2309 t_2311 t_p159 t_17 t_2312 nm_X12_isSo (Nat.lt_of_lt_of_le (by decide) hdd) (by decide) rfl rfl (Nat.le_of_ble_eq_true rfl) dX12_doOne_86 (kv_ri ?_)
        refine v_if_eq 111 G dX12_doOne_89 (by decide) (fun h18 => ?_) (fun h18 => ?_)
        · replace hf := (if_pos h18).symm.trans hf
          refine v_sub _ [2, 3, 1, 0] rfl ?_
          exact hj111 hf
        · replace hf := (if_neg h18).symm.trans hf
          refine v_aload_n G dX12_doOne_92 2 rfl ?_
          refine v_iload_n G dX12_doOne_93 3 rfl ?_
          refine v_iconst (1 : Int32) G dX12_doOne_94 (by decide) ?_
          refine v_iadd G dX12_doOne_95 ?_
          refine v_aload_n G dX12_doOne_96 2 rfl ?_
          refine gf_12_20 G h0 t_1511 (Or.inl rfl) dX12_doOne_97 ?_
          refine v_iload_n G dX12_doOne_100 1 rfl ?_
          refine v_bipush (8 : Int32) G dX12_doOne_101 (by decide) ?_
          refine v_iadd G dX12_doOne_103 ?_
          obtain ⟨g16, hf⟩ := gd_e hf
          refine al_36 G (kf_12_5 h0) g16 dX12_doOne_104 ?_
          obtain ⟨v17, hcv17, hf⟩ := bd_e hf
          refine v_callV [.int (p1 + (1 : Int32)), .int (M1.1 (a0 + 5) ((v2 + (8 : Int32))).toNatClampNeg)] G (hr_X12_doAll hcv17) h0 (by decide) rfl rfl rfl t_2284 t_2286 t_p153 t_17 t_2287 nm_X12_doAll hd2 (by decide) rfl rfl (Nat.le_of_ble_eq_true rfl) dX12_doOne_105 (kv_rv ?_)
          refine v_goto 176 G dX12_doOne_108 (by decide) ?_
          obtain rfl := Option.some.inj hf
          exact v_vret G dX12_doOne_176
    · replace hf := (if_neg h24).symm.trans hf
      refine v_aload_n G dX12_doOne_53 2 rfl ?_
      refine v_dup G dX12_doOne_54 rfl ?_
      refine gf_12_42 G h0 t_1533 (Or.inl rfl) dX12_doOne_55 ?_
      refine v_aload_n G dX12_doOne_58 2 rfl ?_
      refine v_iload_n G dX12_doOne_59 1 rfl ?_
      obtain ⟨v20, hcv20, hf⟩ := bd_e hf
      refine v_callV [.int v2] G (c_X12_does n h0 hcv20) h0 (by decide) rfl rfl rfl t_2292 t_2294 t_p155 t_17 t_2295 nm_X12_does (Nat.lt_of_lt_of_le (by decide) hdd) (by decide) rfl rfl (Nat.le_of_ble_eq_true rfl) dX12_doOne_60 (kv_ri ?_)
      obtain ⟨j71, ej71, hf⟩ := lt_j hf
      have hj71 : ∀ (x21 : Int32), j71 x21 = some y → KV ad cy x (none, y) 71 [] [.int x21, .int (M1.1 a0 42), .ref (ad a0)] v20.2 := by
        intro x21 hf
        rw [ej71] at hf
        refine v_iadd G dX12_doOne_71 ?_
        refine pf_12_42 G h0 t_1533 (Or.inl rfl) dX12_doOne_72 ?_
        refine v_nmM (fun M22 eM22 => ?_)
        replace hf := lt_e hf eM22
        refine v_goto 176 G dX12_doOne_75 (by decide) ?_
        obtain rfl := Option.some.inj hf
        exact v_vret G dX12_doOne_176
      refine v_if_eq 70 G dX12_doOne_63 (by decide) (fun h23 => ?_) (fun h23 => ?_)
      · replace hf := (if_pos h23).symm.trans hf
        refine v_iconst (1 : Int32) G dX12_doOne_70 (by decide) ?_
        refine v_sub _ [] rfl ?_
        exact hj71 (1 : Int32) hf
      · replace hf := (if_neg h23).symm.trans hf
        refine v_iconst (0 : Int32) G dX12_doOne_66 (by decide) ?_
        refine v_goto 71 G dX12_doOne_67 (by decide) ?_
        refine v_sub _ [] rfl ?_
        exact hj71 (0 : Int32) hf
  · replace hf := (if_pos h27).symm.trans hf
    refine v_aload_n G dX12_doOne_10 0 rfl ?_
    refine v_iconst (1 : Int32) G dX12_doOne_11 (by decide) ?_
    refine pf_12_39 G h0 (Or.inr rfl) t_1530 (Or.inl rfl) dX12_doOne_12 ?_
    refine v_nmM (fun M25 eM25 => ?_)
    replace hf := lt_e hf eM25
    refine v_aload_n G dX12_doOne_15 0 rfl ?_
    refine v_iconst (1 : Int32) G dX12_doOne_16 (by decide) ?_
    refine pf_12_46 G h0 t_1537 (Or.inl rfl) dX12_doOne_17 ?_
    refine v_nmM (fun M26 eM26 => ?_)
    replace hf := lt_e hf eM26
    obtain rfl := Option.some.inj hf
    exact v_vret G dX12_doOne_20
theorem cda_X12 {l : Launch} {ad : Nat → Nat} {cy : Nat → ClassId} {D : va_G} {z : Nat} (n : Nat) {a0 : Nat} (h0 : kty a0 = 12) : ∀ (e : Nat) {p1 p2 : Int32} {M y : KM}, da_X12 e n a0 p1 p2 M = some y → KC l ad cy D z yX12_doAll cX12_doAll 4 none (40 + 2 * e) [.ref (ad a0), .int p1, .int p2] M (none, y) := by
  intro e
  induction e with
  | zero => intro p1 p2 M y hf; cases hf
  | succ e ih => intro p1 p2 M y hf; exact c_X12_doAll_G _ n (d := 40 + 2 * (e + 1)) (d2 := 40 + 2 * e + 1) (by omega) (by omega) (fun hf => c_X12_doOne_G _ n (d := 40 + 2 * e + 1) (d2 := 40 + 2 * e) (by omega) (by omega) (fun hf => ih hf) h0 hf) h0 hf
theorem c_X12_doAll {l : Launch} {ad : Nat → Nat} {cy : Nat → ClassId} {D : va_G} {z : Nat} (n : Nat) {a0 : Nat} {p1 p2 : Int32} {M y : KM} (h0 : kty a0 = 12) (hf : f_X12_doAll n a0 p1 p2 M = some y) : KC l ad cy D z yX12_doAll cX12_doAll 4 none 60 [.ref (ad a0), .int p1, .int p2] M (none, y) := cda_X12 n h0 10 hf
abbrev cX12_runsDays : ByteArray := prog_14_method_168_code
def yX12_runsDays : MethodName := ⟨RX12, "runsDays", "(I)V"⟩
theorem dX12_runsDays_0 : dc cX12_runsDays 0 (.aload_n 0) 1 1 := ⟨by decide +kernel, rfl⟩
theorem dX12_runsDays_1 : dc cX12_runsDays 1 (.iload_n 1) 1 2 := ⟨by decide +kernel, rfl⟩
theorem dX12_runsDays_2 : dc cX12_runsDays 2 (.putfield 514) 3 5 := ⟨by decide +kernel, rfl⟩
theorem dX12_runsDays_5 : dc cX12_runsDays 5 (.aload_n 0) 1 6 := ⟨by decide +kernel, rfl⟩
theorem dX12_runsDays_6 : dc cX12_runsDays 6 (.iconst 0) 1 7 := ⟨by decide +kernel, rfl⟩
theorem dX12_runsDays_7 : dc cX12_runsDays 7 (.putfield 536) 3 10 := ⟨by decide +kernel, rfl⟩
theorem dX12_runsDays_10 : dc cX12_runsDays 10 (.aload_n 0) 1 11 := ⟨by decide +kernel, rfl⟩
theorem dX12_runsDays_11 : dc cX12_runsDays 11 (.iconst 0) 1 12 := ⟨by decide +kernel, rfl⟩
theorem dX12_runsDays_12 : dc cX12_runsDays 12 (.putfield 545) 3 15 := ⟨by decide +kernel, rfl⟩
theorem dX12_runsDays_15 : dc cX12_runsDays 15 (.aload_n 0) 1 16 := ⟨by decide +kernel, rfl⟩
theorem dX12_runsDays_16 : dc cX12_runsDays 16 (.iconst 0) 1 17 := ⟨by decide +kernel, rfl⟩
theorem dX12_runsDays_17 : dc cX12_runsDays 17 (.putfield 524) 3 20 := ⟨by decide +kernel, rfl⟩
theorem dX12_runsDays_20 : dc cX12_runsDays 20 (.aload_n 0) 1 21 := ⟨by decide +kernel, rfl⟩
theorem dX12_runsDays_21 : dc cX12_runsDays 21 (.iconst 0) 1 22 := ⟨by decide +kernel, rfl⟩
theorem dX12_runsDays_22 : dc cX12_runsDays 22 (.putfield 518) 3 25 := ⟨by decide +kernel, rfl⟩
theorem dX12_runsDays_25 : dc cX12_runsDays 25 (.aload_n 0) 1 26 := ⟨by decide +kernel, rfl⟩
theorem dX12_runsDays_26 : dc cX12_runsDays 26 (.iconst 0) 1 27 := ⟨by decide +kernel, rfl⟩
theorem dX12_runsDays_27 : dc cX12_runsDays 27 (.putfield 521) 3 30 := ⟨by decide +kernel, rfl⟩
theorem dX12_runsDays_30 : dc cX12_runsDays 30 (.aload_n 0) 1 31 := ⟨by decide +kernel, rfl⟩
theorem dX12_runsDays_31 : dc cX12_runsDays 31 (.iconst 0) 1 32 := ⟨by decide +kernel, rfl⟩
theorem dX12_runsDays_32 : dc cX12_runsDays 32 (.putfield 542) 3 35 := ⟨by decide +kernel, rfl⟩
theorem dX12_runsDays_35 : dc cX12_runsDays 35 (.aload_n 0) 1 36 := ⟨by decide +kernel, rfl⟩
theorem dX12_runsDays_36 : dc cX12_runsDays 36 (.iconst 0) 1 37 := ⟨by decide +kernel, rfl⟩
theorem dX12_runsDays_37 : dc cX12_runsDays 37 (.putfield 539) 3 40 := ⟨by decide +kernel, rfl⟩
theorem dX12_runsDays_40 : dc cX12_runsDays 40 (.aload_n 0) 1 41 := ⟨by decide +kernel, rfl⟩
theorem dX12_runsDays_41 : dc cX12_runsDays 41 (.iconst 0) 1 42 := ⟨by decide +kernel, rfl⟩
theorem dX12_runsDays_42 : dc cX12_runsDays 42 (.aload_n 0) 1 43 := ⟨by decide +kernel, rfl⟩
theorem dX12_runsDays_43 : dc cX12_runsDays 43 (.getfield 35) 3 46 := ⟨by decide +kernel, rfl⟩
theorem dX12_runsDays_46 : dc cX12_runsDays 46 (.sipush 291) 3 49 := ⟨by decide +kernel, rfl⟩
theorem dX12_runsDays_49 : dc cX12_runsDays 49 (.iaload) 1 50 := ⟨by decide +kernel, rfl⟩
theorem dX12_runsDays_50 : dc cX12_runsDays 50 (.invokevirtual 554) 3 53 := ⟨by decide +kernel, rfl⟩
theorem dX12_runsDays_53 : dc cX12_runsDays 53 (.return_) 1 54 := ⟨by decide +kernel, rfl⟩
theorem nm_X12_runsDays : (yX12_runsDays).cls ≠ "java/lang/invoke/MethodHandle" ∧ (yX12_runsDays).cls ≠ "java/lang/invoke/VarHandle" ∧ (parseMethodDescriptor (yX12_runsDays).desc).map (fun d => d.parameters.length) = some 1 := ⟨by decide +kernel, by decide +kernel, by decide +kernel⟩
set_option maxRecDepth 100000 in
set_option maxHeartbeats 4000000 in
theorem c_X12_runsDays {l : Launch} {ad : Nat → Nat} {cy : Nat → ClassId} {D : va_G} {z : Nat} (n : Nat) {a0 : Nat} {p1 : Int32} {M : KM} {y : KM} (h0 : kty a0 = 12) (hf : f_X12_runsDays n a0 p1 M = some y) : KC l ad cy D z yX12_runsDays cX12_runsDays 2 none 61 [.ref (ad a0), .int p1] M (none, y) := by
  refine kv_enter (by decide +kernel) (Nat.le_of_ble_eq_true rfl) ?_
  intro x hl hD hz G
  subst hl hD hz
  unfold f_X12_runsDays at hf
  have G : KG ad cy x cX12_runsDays "NoonGuidesModel" 2 (some none) 61 := G
  show KV ad cy x (none, y) 0 [(0, .ref (ad a0)), (1, .int p1)] [] M
  refine v_aload_n G dX12_runsDays_0 0 rfl ?_
  refine v_iload_n G dX12_runsDays_1 1 rfl ?_
  refine pf_12_40 G h0 t_1531 (Or.inl rfl) dX12_runsDays_2 ?_
  refine v_nmM (fun M1 eM1 => ?_)
  replace hf := lt_e hf eM1
  refine v_aload_n G dX12_runsDays_5 0 rfl ?_
  refine v_iconst (0 : Int32) G dX12_runsDays_6 (by decide) ?_
  refine pf_12_41 G h0 t_1532 (Or.inl rfl) dX12_runsDays_7 ?_
  refine v_nmM (fun M2 eM2 => ?_)
  replace hf := lt_e hf eM2
  refine v_aload_n G dX12_runsDays_10 0 rfl ?_
  refine v_iconst (0 : Int32) G dX12_runsDays_11 (by decide) ?_
  refine pf_12_42 G h0 t_1533 (Or.inl rfl) dX12_runsDays_12 ?_
  refine v_nmM (fun M3 eM3 => ?_)
  replace hf := lt_e hf eM3
  refine v_aload_n G dX12_runsDays_15 0 rfl ?_
  refine v_iconst (0 : Int32) G dX12_runsDays_16 (by decide) ?_
  refine pf_12_43 G h0 t_1534 (Or.inl rfl) dX12_runsDays_17 ?_
  refine v_nmM (fun M4 eM4 => ?_)
  replace hf := lt_e hf eM4
  refine v_aload_n G dX12_runsDays_20 0 rfl ?_
  refine v_iconst (0 : Int32) G dX12_runsDays_21 (by decide) ?_
  refine pf_12_44 G h0 t_1535 (Or.inl rfl) dX12_runsDays_22 ?_
  refine v_nmM (fun M5 eM5 => ?_)
  replace hf := lt_e hf eM5
  refine v_aload_n G dX12_runsDays_25 0 rfl ?_
  refine v_iconst (0 : Int32) G dX12_runsDays_26 (by decide) ?_
  refine pf_12_45 G h0 t_1536 (Or.inl rfl) dX12_runsDays_27 ?_
  refine v_nmM (fun M6 eM6 => ?_)
  replace hf := lt_e hf eM6
  refine v_aload_n G dX12_runsDays_30 0 rfl ?_
  refine v_iconst (0 : Int32) G dX12_runsDays_31 (by decide) ?_
  refine pf_12_46 G h0 t_1537 (Or.inl rfl) dX12_runsDays_32 ?_
  refine v_nmM (fun M7 eM7 => ?_)
  replace hf := lt_e hf eM7
  refine v_aload_n G dX12_runsDays_35 0 rfl ?_
  refine v_iconst (0 : Int32) G dX12_runsDays_36 (by decide) ?_
  refine pf_12_39 G h0 (Or.inl rfl) t_1530 (Or.inl rfl) dX12_runsDays_37 ?_
  refine v_nmM (fun M8 eM8 => ?_)
  replace hf := lt_e hf eM8
  refine v_aload_n G dX12_runsDays_40 0 rfl ?_
  refine v_iconst (0 : Int32) G dX12_runsDays_41 (by decide) ?_
  refine v_aload_n G dX12_runsDays_42 0 rfl ?_
  refine gf_12_20 G h0 t_1511 (Or.inl rfl) dX12_runsDays_43 ?_
  refine v_sipush (291 : Int32) G dX12_runsDays_46 (by decide) ?_
  obtain ⟨g9, hf⟩ := gd_e hf
  refine al_36 G (kf_12_5 h0) g9 dX12_runsDays_49 ?_
  obtain ⟨v10, hcv10, hf⟩ := bd_e hf
  refine v_callV [.int (0 : Int32), .int (M8.1 (a0 + 5) ((291 : Int32)).toNatClampNeg)] G (c_X12_doAll n h0 hcv10) h0 (by decide) rfl rfl rfl t_2284 t_2286 t_p153 t_17 t_2287 nm_X12_doAll (by decide) (by decide) rfl rfl (Nat.le_of_ble_eq_true rfl) dX12_runsDays_50 (kv_rv ?_)
  obtain rfl := Option.some.inj hf
  exact v_vret G dX12_runsDays_53
abbrev cX12_live : ByteArray := prog_14_method_169_code
def yX12_live : MethodName := ⟨RX12, "live", "(I)I"⟩
theorem dX12_live_0 : dc cX12_live 0 (.aload_n 0) 1 1 := ⟨by decide +kernel, rfl⟩
theorem dX12_live_1 : dc cX12_live 1 (.iconst 0) 1 2 := ⟨by decide +kernel, rfl⟩
theorem dX12_live_2 : dc cX12_live 2 (.putfield 75) 3 5 := ⟨by decide +kernel, rfl⟩
theorem dX12_live_5 : dc cX12_live 5 (.aload_n 0) 1 6 := ⟨by decide +kernel, rfl⟩
theorem dX12_live_6 : dc cX12_live 6 (.iconst 0) 1 7 := ⟨by decide +kernel, rfl⟩
theorem dX12_live_7 : dc cX12_live 7 (.putfield 78) 3 10 := ⟨by decide +kernel, rfl⟩
theorem dX12_live_10 : dc cX12_live 10 (.iload_n 1) 1 11 := ⟨by decide +kernel, rfl⟩
theorem dX12_live_11 : dc cX12_live 11 (.i2l) 1 12 := ⟨by decide +kernel, rfl⟩
theorem dX12_live_12 : dc cX12_live 12 (.lconst 0) 1 13 := ⟨by decide +kernel, rfl⟩
theorem dX12_live_13 : dc cX12_live 13 (.ldc2_w 560) 3 16 := ⟨by decide +kernel, rfl⟩
theorem dX12_live_16 : dc cX12_live 16 (.invokestatic 110) 3 19 := ⟨by decide +kernel, rfl⟩
theorem dX12_live_19 : dc cX12_live 19 (.ifCond .ne 9) 3 22 := ⟨by decide +kernel, rfl⟩
theorem dX12_live_22 : dc cX12_live 22 (.aload_n 0) 1 23 := ⟨by decide +kernel, rfl⟩
theorem dX12_live_23 : dc cX12_live 23 (.iconst 5) 1 24 := ⟨by decide +kernel, rfl⟩
theorem dX12_live_24 : dc cX12_live 24 (.invokevirtual 355) 3 27 := ⟨by decide +kernel, rfl⟩
theorem dX12_live_27 : dc cX12_live 27 (.ireturn) 1 28 := ⟨by decide +kernel, rfl⟩
theorem dX12_live_28 : dc cX12_live 28 (.aload_n 0) 1 29 := ⟨by decide +kernel, rfl⟩
theorem dX12_live_29 : dc cX12_live 29 (.getfield 35) 3 32 := ⟨by decide +kernel, rfl⟩
theorem dX12_live_32 : dc cX12_live 32 (.sipush 290) 3 35 := ⟨by decide +kernel, rfl⟩
theorem dX12_live_35 : dc cX12_live 35 (.iaload) 1 36 := ⟨by decide +kernel, rfl⟩
theorem dX12_live_36 : dc cX12_live 36 (.ifCond .ne 10) 3 39 := ⟨by decide +kernel, rfl⟩
theorem dX12_live_39 : dc cX12_live 39 (.aload_n 0) 1 40 := ⟨by decide +kernel, rfl⟩
theorem dX12_live_40 : dc cX12_live 40 (.bipush 8) 2 42 := ⟨by decide +kernel, rfl⟩
theorem dX12_live_42 : dc cX12_live 42 (.invokevirtual 355) 3 45 := ⟨by decide +kernel, rfl⟩
theorem dX12_live_45 : dc cX12_live 45 (.ireturn) 1 46 := ⟨by decide +kernel, rfl⟩
theorem dX12_live_46 : dc cX12_live 46 (.aload_n 0) 1 47 := ⟨by decide +kernel, rfl⟩
theorem dX12_live_47 : dc cX12_live 47 (.iload_n 1) 1 48 := ⟨by decide +kernel, rfl⟩
theorem dX12_live_48 : dc cX12_live 48 (.invokevirtual 562) 3 51 := ⟨by decide +kernel, rfl⟩
theorem dX12_live_51 : dc cX12_live 51 (.aload_n 0) 1 52 := ⟨by decide +kernel, rfl⟩
theorem dX12_live_52 : dc cX12_live 52 (.getfield 68) 3 55 := ⟨by decide +kernel, rfl⟩
theorem dX12_live_55 : dc cX12_live 55 (.iconst 0) 1 56 := ⟨by decide +kernel, rfl⟩
theorem dX12_live_56 : dc cX12_live 56 (.aload_n 0) 1 57 := ⟨by decide +kernel, rfl⟩
theorem dX12_live_57 : dc cX12_live 57 (.getfield 545) 3 60 := ⟨by decide +kernel, rfl⟩
theorem dX12_live_60 : dc cX12_live 60 (.iastore) 1 61 := ⟨by decide +kernel, rfl⟩
theorem dX12_live_61 : dc cX12_live 61 (.aload_n 0) 1 62 := ⟨by decide +kernel, rfl⟩
theorem dX12_live_62 : dc cX12_live 62 (.getfield 68) 3 65 := ⟨by decide +kernel, rfl⟩
theorem dX12_live_65 : dc cX12_live 65 (.iconst 1) 1 66 := ⟨by decide +kernel, rfl⟩
theorem dX12_live_66 : dc cX12_live 66 (.aload_n 0) 1 67 := ⟨by decide +kernel, rfl⟩
theorem dX12_live_67 : dc cX12_live 67 (.getfield 524) 3 70 := ⟨by decide +kernel, rfl⟩
theorem dX12_live_70 : dc cX12_live 70 (.iastore) 1 71 := ⟨by decide +kernel, rfl⟩
theorem dX12_live_71 : dc cX12_live 71 (.aload_n 0) 1 72 := ⟨by decide +kernel, rfl⟩
theorem dX12_live_72 : dc cX12_live 72 (.getfield 68) 3 75 := ⟨by decide +kernel, rfl⟩
theorem dX12_live_75 : dc cX12_live 75 (.iconst 2) 1 76 := ⟨by decide +kernel, rfl⟩
theorem dX12_live_76 : dc cX12_live 76 (.aload_n 0) 1 77 := ⟨by decide +kernel, rfl⟩
theorem dX12_live_77 : dc cX12_live 77 (.getfield 518) 3 80 := ⟨by decide +kernel, rfl⟩
theorem dX12_live_80 : dc cX12_live 80 (.iastore) 1 81 := ⟨by decide +kernel, rfl⟩
theorem dX12_live_81 : dc cX12_live 81 (.aload_n 0) 1 82 := ⟨by decide +kernel, rfl⟩
theorem dX12_live_82 : dc cX12_live 82 (.getfield 68) 3 85 := ⟨by decide +kernel, rfl⟩
theorem dX12_live_85 : dc cX12_live 85 (.iconst 3) 1 86 := ⟨by decide +kernel, rfl⟩
theorem dX12_live_86 : dc cX12_live 86 (.aload_n 0) 1 87 := ⟨by decide +kernel, rfl⟩
theorem dX12_live_87 : dc cX12_live 87 (.getfield 521) 3 90 := ⟨by decide +kernel, rfl⟩
theorem dX12_live_90 : dc cX12_live 90 (.iastore) 1 91 := ⟨by decide +kernel, rfl⟩
theorem dX12_live_91 : dc cX12_live 91 (.aload_n 0) 1 92 := ⟨by decide +kernel, rfl⟩
theorem dX12_live_92 : dc cX12_live 92 (.getfield 68) 3 95 := ⟨by decide +kernel, rfl⟩
theorem dX12_live_95 : dc cX12_live 95 (.iconst 4) 1 96 := ⟨by decide +kernel, rfl⟩
theorem dX12_live_96 : dc cX12_live 96 (.aload_n 0) 1 97 := ⟨by decide +kernel, rfl⟩
theorem dX12_live_97 : dc cX12_live 97 (.getfield 542) 3 100 := ⟨by decide +kernel, rfl⟩
theorem dX12_live_100 : dc cX12_live 100 (.iastore) 1 101 := ⟨by decide +kernel, rfl⟩
theorem dX12_live_101 : dc cX12_live 101 (.aload_n 0) 1 102 := ⟨by decide +kernel, rfl⟩
theorem dX12_live_102 : dc cX12_live 102 (.iconst 1) 1 103 := ⟨by decide +kernel, rfl⟩
theorem dX12_live_103 : dc cX12_live 103 (.putfield 565) 3 106 := ⟨by decide +kernel, rfl⟩
theorem dX12_live_106 : dc cX12_live 106 (.aload_n 0) 1 107 := ⟨by decide +kernel, rfl⟩
theorem dX12_live_107 : dc cX12_live 107 (.getfield 536) 3 110 := ⟨by decide +kernel, rfl⟩
theorem dX12_live_110 : dc cX12_live 110 (.ireturn) 1 111 := ⟨by decide +kernel, rfl⟩
theorem nm_X12_live : (yX12_live).cls ≠ "java/lang/invoke/MethodHandle" ∧ (yX12_live).cls ≠ "java/lang/invoke/VarHandle" ∧ (parseMethodDescriptor (yX12_live).desc).map (fun d => d.parameters.length) = some 1 := ⟨by decide +kernel, by decide +kernel, by decide +kernel⟩
set_option maxRecDepth 100000 in
set_option maxHeartbeats 4000000 in
theorem c_X12_live {l : Launch} {ad : Nat → Nat} {cy : Nat → ClassId} {D : va_G} {z : Nat} (n : Nat) {a0 : Nat} {p1 : Int32} {M : KM} {y : (Int32 × KM)} (h0 : kty a0 = 12) (hf : f_X12_live n a0 p1 M = some y) : KC l ad cy D z yX12_live cX12_live 2 (some .int) 62 [.ref (ad a0), .int p1] M (some (.int y.1), y.2) := by
  refine kv_enter (by decide +kernel) (Nat.le_of_ble_eq_true rfl) ?_
  intro x hl hD hz G
  subst hl hD hz
  unfold f_X12_live at hf
  have G : KG ad cy x cX12_live "NoonGuidesModel" 2 (some (some .int)) 62 := G
  show KV ad cy x (some (.int y.1), y.2) 0 [(0, .ref (ad a0)), (1, .int p1)] [] M
  refine v_aload_n G dX12_live_0 0 rfl ?_
  refine v_iconst (0 : Int32) G dX12_live_1 (by decide) ?_
  refine pf_12_1 G h0 t_1492 (Or.inl rfl) dX12_live_2 ?_
  refine v_nmM (fun M1 eM1 => ?_)
  replace hf := lt_e hf eM1
  refine v_aload_n G dX12_live_5 0 rfl ?_
  refine v_iconst (0 : Int32) G dX12_live_6 (by decide) ?_
  refine pf_12_0 G h0 t_1491 (Or.inl rfl) dX12_live_7 ?_
  refine v_nmM (fun M2 eM2 => ?_)
  replace hf := lt_e hf eM2
  refine v_iload_n G dX12_live_10 1 rfl ?_
  refine v_i2l G dX12_live_11 ?_
  refine v_lconst (0 : Int64) G dX12_live_12 (by decide) ?_
  refine v_ldc2 G dX12_live_13 t_2279 ?_
  obtain ⟨v3, hcv3⟩ : ∃ q, f_X12_isIn (p1).toInt64 (0 : Int64) (9999 : Int64) M2 = q := ⟨_, rfl⟩
  replace hf := lt_e hf hcv3.symm
  refine v_callS [.long (p1).toInt64, .long (0 : Int64), .long (9999 : Int64)] G (c_X12_isIn hcv3) t_1755 t_1756 t_17 t_1757 nm_X12_isIn (by decide) (by decide) rfl rfl (Nat.le_of_ble_eq_true rfl) dX12_live_16 (kv_ri ?_)
  refine v_if_ne 28 G dX12_live_19 (by decide) (fun h20 => ?_) (fun h20 => ?_)
  · replace hf := (if_neg h20).symm.trans hf
    refine v_aload_n G dX12_live_28 0 rfl ?_
    refine gf_12_20 G h0 t_1511 (Or.inl rfl) dX12_live_29 ?_
    refine v_sipush (290 : Int32) G dX12_live_32 (by decide) ?_
    obtain ⟨g4, hf⟩ := gd_e hf
    refine al_36 G (kf_12_5 h0) g4 dX12_live_35 ?_
    refine v_if_ne 46 G dX12_live_36 (by decide) (fun h18 => ?_) (fun h18 => ?_)
    · replace hf := (if_neg h18).symm.trans hf
      refine v_aload_n G dX12_live_46 0 rfl ?_
      refine v_iload_n G dX12_live_47 1 rfl ?_
      obtain ⟨v5, hcv5, hf⟩ := bd_e hf
      refine v_callV [.int p1] G (c_X12_runsDays n h0 hcv5) h0 (by decide) rfl rfl rfl t_2280 t_2282 t_p152 t_17 t_2283 nm_X12_runsDays (by decide) (by decide) rfl rfl (Nat.le_of_ble_eq_true rfl) dX12_live_48 (kv_rv ?_)
      refine v_aload_n G dX12_live_51 0 rfl ?_
      refine gf_12_37 G h0 t_1528 (Or.inl rfl) dX12_live_52 ?_
      refine v_iconst (0 : Int32) G dX12_live_55 (by decide) ?_
      refine v_aload_n G dX12_live_56 0 rfl ?_
      refine gf_12_42 G h0 t_1533 (Or.inl rfl) dX12_live_57 ?_
      obtain ⟨g6, hf⟩ := gd_e hf
      refine as_23 G (kf_12_16 h0) g6 dX12_live_60 ?_
      refine v_nmM (fun M7 eM7 => ?_)
      replace hf := lt_e hf eM7
      refine v_aload_n G dX12_live_61 0 rfl ?_
      refine gf_12_37 G h0 t_1528 (Or.inl rfl) dX12_live_62 ?_
      refine v_iconst (1 : Int32) G dX12_live_65 (by decide) ?_
      refine v_aload_n G dX12_live_66 0 rfl ?_
      refine gf_12_43 G h0 t_1534 (Or.inl rfl) dX12_live_67 ?_
      obtain ⟨g8, hf⟩ := gd_e hf
      refine as_23 G (kf_12_16 h0) g8 dX12_live_70 ?_
      refine v_nmM (fun M9 eM9 => ?_)
      replace hf := lt_e hf eM9
      refine v_aload_n G dX12_live_71 0 rfl ?_
      refine gf_12_37 G h0 t_1528 (Or.inl rfl) dX12_live_72 ?_
      refine v_iconst (2 : Int32) G dX12_live_75 (by decide) ?_
      refine v_aload_n G dX12_live_76 0 rfl ?_
      refine gf_12_44 G h0 t_1535 (Or.inl rfl) dX12_live_77 ?_
      obtain ⟨g10, hf⟩ := gd_e hf
      refine as_23 G (kf_12_16 h0) g10 dX12_live_80 ?_
      refine v_nmM (fun M11 eM11 => ?_)
      replace hf := lt_e hf eM11
      refine v_aload_n G dX12_live_81 0 rfl ?_
      refine gf_12_37 G h0 t_1528 (Or.inl rfl) dX12_live_82 ?_
      refine v_iconst (3 : Int32) G dX12_live_85 (by decide) ?_
      refine v_aload_n G dX12_live_86 0 rfl ?_
      refine gf_12_45 G h0 t_1536 (Or.inl rfl) dX12_live_87 ?_
      obtain ⟨g12, hf⟩ := gd_e hf
      refine as_23 G (kf_12_16 h0) g12 dX12_live_90 ?_
      refine v_nmM (fun M13 eM13 => ?_)
      replace hf := lt_e hf eM13
      refine v_aload_n G dX12_live_91 0 rfl ?_
      refine gf_12_37 G h0 t_1528 (Or.inl rfl) dX12_live_92 ?_
      refine v_iconst (4 : Int32) G dX12_live_95 (by decide) ?_
      refine v_aload_n G dX12_live_96 0 rfl ?_
      refine gf_12_46 G h0 t_1537 (Or.inl rfl) dX12_live_97 ?_
      obtain ⟨g14, hf⟩ := gd_e hf
      refine as_23 G (kf_12_16 h0) g14 dX12_live_100 ?_
      refine v_nmM (fun M15 eM15 => ?_)
      replace hf := lt_e hf eM15
      refine v_aload_n G dX12_live_101 0 rfl ?_
      refine v_iconst (1 : Int32) G dX12_live_102 (by decide) ?_
      refine pf_12_38 G h0 (Or.inr rfl) t_1529 (Or.inl rfl) dX12_live_103 ?_
      refine v_nmM (fun M16 eM16 => ?_)
      replace hf := lt_e hf eM16
      refine v_aload_n G dX12_live_106 0 rfl ?_
      refine gf_12_41 G h0 t_1532 (Or.inl rfl) dX12_live_107 ?_
      obtain rfl := Option.some.inj hf
      exact v_iret G dX12_live_110
    · replace hf := (if_pos h18).symm.trans hf
      refine v_aload_n G dX12_live_39 0 rfl ?_
      refine v_bipush (8 : Int32) G dX12_live_40 (by decide) ?_
      obtain ⟨v17, hcv17⟩ : ∃ q, f_X12_refuse a0 (8 : Int32) M2 = q := ⟨_, rfl⟩
      replace hf := lt_e hf hcv17.symm
      refine v_callV [.int (8 : Int32)] G (c_X12_refuse h0 hcv17) h0 (by decide) rfl rfl rfl t_1926 t_1928 t_p110 t_17 t_1929 nm_X12_refuse (by decide) (by decide) rfl rfl (Nat.le_of_ble_eq_true rfl) dX12_live_42 (kv_ri ?_)
      obtain rfl := Option.some.inj hf
      exact v_iret G dX12_live_45
  · replace hf := (if_pos h20).symm.trans hf
    refine v_aload_n G dX12_live_22 0 rfl ?_
    refine v_iconst (5 : Int32) G dX12_live_23 (by decide) ?_
    obtain ⟨v19, hcv19⟩ : ∃ q, f_X12_refuse a0 (5 : Int32) M2 = q := ⟨_, rfl⟩
    replace hf := lt_e hf hcv19.symm
    refine v_callV [.int (5 : Int32)] G (c_X12_refuse h0 hcv19) h0 (by decide) rfl rfl rfl t_1926 t_1928 t_p110 t_17 t_1929 nm_X12_refuse (by decide) (by decide) rfl rfl (Nat.le_of_ble_eq_true rfl) dX12_live_24 (kv_ri ?_)
    obtain rfl := Option.some.inj hf
    exact v_iret G dX12_live_27
abbrev cX12_lived : ByteArray := prog_14_method_170_code
def yX12_lived : MethodName := ⟨RX12, "lived", "(I)I"⟩
theorem dX12_lived_0 : dc cX12_lived 0 (.aload_n 0) 1 1 := ⟨by decide +kernel, rfl⟩
theorem dX12_lived_1 : dc cX12_lived 1 (.iconst 0) 1 2 := ⟨by decide +kernel, rfl⟩
theorem dX12_lived_2 : dc cX12_lived 2 (.putfield 75) 3 5 := ⟨by decide +kernel, rfl⟩
theorem dX12_lived_5 : dc cX12_lived 5 (.aload_n 0) 1 6 := ⟨by decide +kernel, rfl⟩
theorem dX12_lived_6 : dc cX12_lived 6 (.iconst 0) 1 7 := ⟨by decide +kernel, rfl⟩
theorem dX12_lived_7 : dc cX12_lived 7 (.putfield 78) 3 10 := ⟨by decide +kernel, rfl⟩
theorem dX12_lived_10 : dc cX12_lived 10 (.iload_n 1) 1 11 := ⟨by decide +kernel, rfl⟩
theorem dX12_lived_11 : dc cX12_lived 11 (.i2l) 1 12 := ⟨by decide +kernel, rfl⟩
theorem dX12_lived_12 : dc cX12_lived 12 (.lconst 0) 1 13 := ⟨by decide +kernel, rfl⟩
theorem dX12_lived_13 : dc cX12_lived 13 (.ldc2_w 165) 3 16 := ⟨by decide +kernel, rfl⟩
theorem dX12_lived_16 : dc cX12_lived 16 (.invokestatic 110) 3 19 := ⟨by decide +kernel, rfl⟩
theorem dX12_lived_19 : dc cX12_lived 19 (.ifCond .ne 9) 3 22 := ⟨by decide +kernel, rfl⟩
theorem dX12_lived_22 : dc cX12_lived 22 (.aload_n 0) 1 23 := ⟨by decide +kernel, rfl⟩
theorem dX12_lived_23 : dc cX12_lived 23 (.iconst 5) 1 24 := ⟨by decide +kernel, rfl⟩
theorem dX12_lived_24 : dc cX12_lived 24 (.invokevirtual 355) 3 27 := ⟨by decide +kernel, rfl⟩
theorem dX12_lived_27 : dc cX12_lived 27 (.ireturn) 1 28 := ⟨by decide +kernel, rfl⟩
theorem dX12_lived_28 : dc cX12_lived 28 (.aload_n 0) 1 29 := ⟨by decide +kernel, rfl⟩
theorem dX12_lived_29 : dc cX12_lived 29 (.getfield 565) 3 32 := ⟨by decide +kernel, rfl⟩
theorem dX12_lived_32 : dc cX12_lived 32 (.ifCond .eq 12) 3 35 := ⟨by decide +kernel, rfl⟩
theorem dX12_lived_35 : dc cX12_lived 35 (.aload_n 0) 1 36 := ⟨by decide +kernel, rfl⟩
theorem dX12_lived_36 : dc cX12_lived 36 (.getfield 68) 3 39 := ⟨by decide +kernel, rfl⟩
theorem dX12_lived_39 : dc cX12_lived 39 (.iload_n 1) 1 40 := ⟨by decide +kernel, rfl⟩
theorem dX12_lived_40 : dc cX12_lived 40 (.iaload) 1 41 := ⟨by decide +kernel, rfl⟩
theorem dX12_lived_41 : dc cX12_lived 41 (.goto 9) 3 44 := ⟨by decide +kernel, rfl⟩
theorem dX12_lived_44 : dc cX12_lived 44 (.aload_n 0) 1 45 := ⟨by decide +kernel, rfl⟩
theorem dX12_lived_45 : dc cX12_lived 45 (.bipush 8) 2 47 := ⟨by decide +kernel, rfl⟩
theorem dX12_lived_47 : dc cX12_lived 47 (.invokevirtual 355) 3 50 := ⟨by decide +kernel, rfl⟩
theorem dX12_lived_50 : dc cX12_lived 50 (.ireturn) 1 51 := ⟨by decide +kernel, rfl⟩
theorem nm_X12_lived : (yX12_lived).cls ≠ "java/lang/invoke/MethodHandle" ∧ (yX12_lived).cls ≠ "java/lang/invoke/VarHandle" ∧ (parseMethodDescriptor (yX12_lived).desc).map (fun d => d.parameters.length) = some 1 := ⟨by decide +kernel, by decide +kernel, by decide +kernel⟩
set_option maxRecDepth 100000 in
set_option maxHeartbeats 4000000 in
theorem c_X12_lived {l : Launch} {ad : Nat → Nat} {cy : Nat → ClassId} {D : va_G} {z : Nat} (n : Nat) {a0 : Nat} {p1 : Int32} {M : KM} {y : (Int32 × KM)} (h0 : kty a0 = 12) (hf : f_X12_lived n a0 p1 M = some y) : KC l ad cy D z yX12_lived cX12_lived 2 (some .int) 2 [.ref (ad a0), .int p1] M (some (.int y.1), y.2) := by
  refine kv_enter (by decide +kernel) (Nat.le_of_ble_eq_true rfl) ?_
  intro x hl hD hz G
  subst hl hD hz
  unfold f_X12_lived at hf
  have G : KG ad cy x cX12_lived "NoonGuidesModel" 2 (some (some .int)) 2 := G
  show KV ad cy x (some (.int y.1), y.2) 0 [(0, .ref (ad a0)), (1, .int p1)] [] M
  refine v_aload_n G dX12_lived_0 0 rfl ?_
  refine v_iconst (0 : Int32) G dX12_lived_1 (by decide) ?_
  refine pf_12_1 G h0 t_1492 (Or.inl rfl) dX12_lived_2 ?_
  refine v_nmM (fun M1 eM1 => ?_)
  replace hf := lt_e hf eM1
  refine v_aload_n G dX12_lived_5 0 rfl ?_
  refine v_iconst (0 : Int32) G dX12_lived_6 (by decide) ?_
  refine pf_12_0 G h0 t_1491 (Or.inl rfl) dX12_lived_7 ?_
  refine v_nmM (fun M2 eM2 => ?_)
  replace hf := lt_e hf eM2
  refine v_iload_n G dX12_lived_10 1 rfl ?_
  refine v_i2l G dX12_lived_11 ?_
  refine v_lconst (0 : Int64) G dX12_lived_12 (by decide) ?_
  refine v_ldc2 G dX12_lived_13 t_1831 ?_
  obtain ⟨v3, hcv3⟩ : ∃ q, f_X12_isIn (p1).toInt64 (0 : Int64) (4 : Int64) M2 = q := ⟨_, rfl⟩
  replace hf := lt_e hf hcv3.symm
  refine v_callS [.long (p1).toInt64, .long (0 : Int64), .long (4 : Int64)] G (c_X12_isIn hcv3) t_1755 t_1756 t_17 t_1757 nm_X12_isIn (by decide) (by decide) rfl rfl (Nat.le_of_ble_eq_true rfl) dX12_lived_16 (kv_ri ?_)
  refine v_if_ne 28 G dX12_lived_19 (by decide) (fun h8 => ?_) (fun h8 => ?_)
  · replace hf := (if_neg h8).symm.trans hf
    refine v_aload_n G dX12_lived_28 0 rfl ?_
    refine gf_12_38 G h0 t_1529 (Or.inl rfl) dX12_lived_29 ?_
    refine v_if_eq 44 G dX12_lived_32 (by decide) (fun h6 => ?_) (fun h6 => ?_)
    · replace hf := (if_pos h6).symm.trans hf
      refine v_aload_n G dX12_lived_44 0 rfl ?_
      refine v_bipush (8 : Int32) G dX12_lived_45 (by decide) ?_
      obtain ⟨v4, hcv4⟩ : ∃ q, f_X12_refuse a0 (8 : Int32) M2 = q := ⟨_, rfl⟩
      replace hf := lt_e hf hcv4.symm
      refine v_callV [.int (8 : Int32)] G (c_X12_refuse h0 hcv4) h0 (by decide) rfl rfl rfl t_1926 t_1928 t_p110 t_17 t_1929 nm_X12_refuse (by decide) (by decide) rfl rfl (Nat.le_of_ble_eq_true rfl) dX12_lived_47 (kv_ri ?_)
      obtain rfl := Option.some.inj hf
      exact v_iret G dX12_lived_50
    · replace hf := (if_neg h6).symm.trans hf
      refine v_aload_n G dX12_lived_35 0 rfl ?_
      refine gf_12_37 G h0 t_1528 (Or.inl rfl) dX12_lived_36 ?_
      refine v_iload_n G dX12_lived_39 1 rfl ?_
      obtain ⟨g5, hf⟩ := gd_e hf
      refine al_23 G (kf_12_16 h0) g5 dX12_lived_40 ?_
      refine v_goto 50 G dX12_lived_41 (by decide) ?_
      obtain rfl := Option.some.inj hf
      exact v_iret G dX12_lived_50
  · replace hf := (if_pos h8).symm.trans hf
    refine v_aload_n G dX12_lived_22 0 rfl ?_
    refine v_iconst (5 : Int32) G dX12_lived_23 (by decide) ?_
    obtain ⟨v7, hcv7⟩ : ∃ q, f_X12_refuse a0 (5 : Int32) M2 = q := ⟨_, rfl⟩
    replace hf := lt_e hf hcv7.symm
    refine v_callV [.int (5 : Int32)] G (c_X12_refuse h0 hcv7) h0 (by decide) rfl rfl rfl t_1926 t_1928 t_p110 t_17 t_1929 nm_X12_refuse (by decide) (by decide) rfl rfl (Nat.le_of_ble_eq_true rfl) dX12_lived_24 (kv_ri ?_)
    obtain rfl := Option.some.inj hf
    exact v_iret G dX12_lived_27
abbrev cX12_mean : ByteArray := prog_14_method_171_code
def yX12_mean : MethodName := ⟨RX12, "mean", "(II)Z"⟩
theorem dX12_mean_0 : dc cX12_mean 0 (.aload_n 0) 1 1 := ⟨by decide +kernel, rfl⟩
theorem dX12_mean_1 : dc cX12_mean 1 (.iconst 0) 1 2 := ⟨by decide +kernel, rfl⟩
theorem dX12_mean_2 : dc cX12_mean 2 (.putfield 75) 3 5 := ⟨by decide +kernel, rfl⟩
theorem dX12_mean_5 : dc cX12_mean 5 (.aload_n 0) 1 6 := ⟨by decide +kernel, rfl⟩
theorem dX12_mean_6 : dc cX12_mean 6 (.iconst 0) 1 7 := ⟨by decide +kernel, rfl⟩
theorem dX12_mean_7 : dc cX12_mean 7 (.putfield 78) 3 10 := ⟨by decide +kernel, rfl⟩
theorem dX12_mean_10 : dc cX12_mean 10 (.iload_n 2) 1 11 := ⟨by decide +kernel, rfl⟩
theorem dX12_mean_11 : dc cX12_mean 11 (.i2l) 1 12 := ⟨by decide +kernel, rfl⟩
theorem dX12_mean_12 : dc cX12_mean 12 (.lconst 1) 1 13 := ⟨by decide +kernel, rfl⟩
theorem dX12_mean_13 : dc cX12_mean 13 (.ldc2_w 568) 3 16 := ⟨by decide +kernel, rfl⟩
theorem dX12_mean_16 : dc cX12_mean 16 (.invokestatic 110) 3 19 := ⟨by decide +kernel, rfl⟩
theorem dX12_mean_19 : dc cX12_mean 19 (.ifCond .eq 18) 3 22 := ⟨by decide +kernel, rfl⟩
theorem dX12_mean_22 : dc cX12_mean 22 (.iload_n 1) 1 23 := ⟨by decide +kernel, rfl⟩
theorem dX12_mean_23 : dc cX12_mean 23 (.i2l) 1 24 := ⟨by decide +kernel, rfl⟩
theorem dX12_mean_24 : dc cX12_mean 24 (.lconst 0) 1 25 := ⟨by decide +kernel, rfl⟩
theorem dX12_mean_25 : dc cX12_mean 25 (.sipush 10000) 3 28 := ⟨by decide +kernel, rfl⟩
theorem dX12_mean_28 : dc cX12_mean 28 (.iload_n 2) 1 29 := ⟨by decide +kernel, rfl⟩
theorem dX12_mean_29 : dc cX12_mean 29 (.isub) 1 30 := ⟨by decide +kernel, rfl⟩
theorem dX12_mean_30 : dc cX12_mean 30 (.i2l) 1 31 := ⟨by decide +kernel, rfl⟩
theorem dX12_mean_31 : dc cX12_mean 31 (.invokestatic 110) 3 34 := ⟨by decide +kernel, rfl⟩
theorem dX12_mean_34 : dc cX12_mean 34 (.ifCond .ne 9) 3 37 := ⟨by decide +kernel, rfl⟩
theorem dX12_mean_37 : dc cX12_mean 37 (.aload_n 0) 1 38 := ⟨by decide +kernel, rfl⟩
theorem dX12_mean_38 : dc cX12_mean 38 (.iconst 5) 1 39 := ⟨by decide +kernel, rfl⟩
theorem dX12_mean_39 : dc cX12_mean 39 (.invokevirtual 90) 3 42 := ⟨by decide +kernel, rfl⟩
theorem dX12_mean_42 : dc cX12_mean 42 (.ireturn) 1 43 := ⟨by decide +kernel, rfl⟩
theorem dX12_mean_43 : dc cX12_mean 43 (.aload_n 0) 1 44 := ⟨by decide +kernel, rfl⟩
theorem dX12_mean_44 : dc cX12_mean 44 (.getfield 35) 3 47 := ⟨by decide +kernel, rfl⟩
theorem dX12_mean_47 : dc cX12_mean 47 (.sipush 290) 3 50 := ⟨by decide +kernel, rfl⟩
theorem dX12_mean_50 : dc cX12_mean 50 (.iaload) 1 51 := ⟨by decide +kernel, rfl⟩
theorem dX12_mean_51 : dc cX12_mean 51 (.ifCond .ne 10) 3 54 := ⟨by decide +kernel, rfl⟩
theorem dX12_mean_54 : dc cX12_mean 54 (.aload_n 0) 1 55 := ⟨by decide +kernel, rfl⟩
theorem dX12_mean_55 : dc cX12_mean 55 (.bipush 8) 2 57 := ⟨by decide +kernel, rfl⟩
theorem dX12_mean_57 : dc cX12_mean 57 (.invokevirtual 90) 3 60 := ⟨by decide +kernel, rfl⟩
theorem dX12_mean_60 : dc cX12_mean 60 (.ireturn) 1 61 := ⟨by decide +kernel, rfl⟩
theorem dX12_mean_61 : dc cX12_mean 61 (.iconst 0) 1 62 := ⟨by decide +kernel, rfl⟩
theorem dX12_mean_62 : dc cX12_mean 62 (.istore_n 3) 1 63 := ⟨by decide +kernel, rfl⟩
theorem dX12_mean_63 : dc cX12_mean 63 (.iload_n 3) 1 64 := ⟨by decide +kernel, rfl⟩
theorem dX12_mean_64 : dc cX12_mean 64 (.sipush 290) 3 67 := ⟨by decide +kernel, rfl⟩
theorem dX12_mean_67 : dc cX12_mean 67 (.if_icmp .ge 21) 3 70 := ⟨by decide +kernel, rfl⟩
theorem dX12_mean_70 : dc cX12_mean 70 (.aload_n 0) 1 71 := ⟨by decide +kernel, rfl⟩
theorem dX12_mean_71 : dc cX12_mean 71 (.getfield 41) 3 74 := ⟨by decide +kernel, rfl⟩
theorem dX12_mean_74 : dc cX12_mean 74 (.iload_n 3) 1 75 := ⟨by decide +kernel, rfl⟩
theorem dX12_mean_75 : dc cX12_mean 75 (.aload_n 0) 1 76 := ⟨by decide +kernel, rfl⟩
theorem dX12_mean_76 : dc cX12_mean 76 (.getfield 35) 3 79 := ⟨by decide +kernel, rfl⟩
theorem dX12_mean_79 : dc cX12_mean 79 (.iload_n 3) 1 80 := ⟨by decide +kernel, rfl⟩
theorem dX12_mean_80 : dc cX12_mean 80 (.iaload) 1 81 := ⟨by decide +kernel, rfl⟩
theorem dX12_mean_81 : dc cX12_mean 81 (.iastore) 1 82 := ⟨by decide +kernel, rfl⟩
theorem dX12_mean_82 : dc cX12_mean 82 (.iinc 3 1) 3 85 := ⟨by decide +kernel, rfl⟩
theorem dX12_mean_85 : dc cX12_mean 85 (.goto (-22)) 3 88 := ⟨by decide +kernel, rfl⟩
theorem dX12_mean_88 : dc cX12_mean 88 (.lconst 0) 1 89 := ⟨by decide +kernel, rfl⟩
theorem dX12_mean_89 : dc cX12_mean 89 (.lstore_n 3) 1 90 := ⟨by decide +kernel, rfl⟩
theorem dX12_mean_90 : dc cX12_mean 90 (.iconst 0) 1 91 := ⟨by decide +kernel, rfl⟩
theorem dX12_mean_91 : dc cX12_mean 91 (.istore 5) 2 93 := ⟨by decide +kernel, rfl⟩
theorem dX12_mean_93 : dc cX12_mean 93 (.iload 5) 2 95 := ⟨by decide +kernel, rfl⟩
theorem dX12_mean_95 : dc cX12_mean 95 (.iload_n 2) 1 96 := ⟨by decide +kernel, rfl⟩
theorem dX12_mean_96 : dc cX12_mean 96 (.if_icmp .ge 56) 3 99 := ⟨by decide +kernel, rfl⟩
theorem dX12_mean_99 : dc cX12_mean 99 (.aload_n 0) 1 100 := ⟨by decide +kernel, rfl⟩
theorem dX12_mean_100 : dc cX12_mean 100 (.iload_n 1) 1 101 := ⟨by decide +kernel, rfl⟩
theorem dX12_mean_101 : dc cX12_mean 101 (.iload 5) 2 103 := ⟨by decide +kernel, rfl⟩
theorem dX12_mean_103 : dc cX12_mean 103 (.iadd) 1 104 := ⟨by decide +kernel, rfl⟩
theorem dX12_mean_104 : dc cX12_mean 104 (.invokevirtual 562) 3 107 := ⟨by decide +kernel, rfl⟩
theorem dX12_mean_107 : dc cX12_mean 107 (.lload_n 3) 1 108 := ⟨by decide +kernel, rfl⟩
theorem dX12_mean_108 : dc cX12_mean 108 (.aload_n 0) 1 109 := ⟨by decide +kernel, rfl⟩
theorem dX12_mean_109 : dc cX12_mean 109 (.invokevirtual 358) 3 112 := ⟨by decide +kernel, rfl⟩
theorem dX12_mean_112 : dc cX12_mean 112 (.i2l) 1 113 := ⟨by decide +kernel, rfl⟩
theorem dX12_mean_113 : dc cX12_mean 113 (.ladd) 1 114 := ⟨by decide +kernel, rfl⟩
theorem dX12_mean_114 : dc cX12_mean 114 (.lstore_n 3) 1 115 := ⟨by decide +kernel, rfl⟩
theorem dX12_mean_115 : dc cX12_mean 115 (.iconst 0) 1 116 := ⟨by decide +kernel, rfl⟩
theorem dX12_mean_116 : dc cX12_mean 116 (.istore 6) 2 118 := ⟨by decide +kernel, rfl⟩
theorem dX12_mean_118 : dc cX12_mean 118 (.iload 6) 2 120 := ⟨by decide +kernel, rfl⟩
theorem dX12_mean_120 : dc cX12_mean 120 (.sipush 290) 3 123 := ⟨by decide +kernel, rfl⟩
theorem dX12_mean_123 : dc cX12_mean 123 (.if_icmp .ge 23) 3 126 := ⟨by decide +kernel, rfl⟩
theorem dX12_mean_126 : dc cX12_mean 126 (.aload_n 0) 1 127 := ⟨by decide +kernel, rfl⟩
theorem dX12_mean_127 : dc cX12_mean 127 (.getfield 35) 3 130 := ⟨by decide +kernel, rfl⟩
theorem dX12_mean_130 : dc cX12_mean 130 (.iload 6) 2 132 := ⟨by decide +kernel, rfl⟩
theorem dX12_mean_132 : dc cX12_mean 132 (.aload_n 0) 1 133 := ⟨by decide +kernel, rfl⟩
theorem dX12_mean_133 : dc cX12_mean 133 (.getfield 41) 3 136 := ⟨by decide +kernel, rfl⟩
theorem dX12_mean_136 : dc cX12_mean 136 (.iload 6) 2 138 := ⟨by decide +kernel, rfl⟩
theorem dX12_mean_138 : dc cX12_mean 138 (.iaload) 1 139 := ⟨by decide +kernel, rfl⟩
theorem dX12_mean_139 : dc cX12_mean 139 (.iastore) 1 140 := ⟨by decide +kernel, rfl⟩
theorem dX12_mean_140 : dc cX12_mean 140 (.iinc 6 1) 3 143 := ⟨by decide +kernel, rfl⟩
theorem dX12_mean_143 : dc cX12_mean 143 (.goto (-25)) 3 146 := ⟨by decide +kernel, rfl⟩
theorem dX12_mean_146 : dc cX12_mean 146 (.iinc 5 1) 3 149 := ⟨by decide +kernel, rfl⟩
theorem dX12_mean_149 : dc cX12_mean 149 (.goto (-56)) 3 152 := ⟨by decide +kernel, rfl⟩
theorem dX12_mean_152 : dc cX12_mean 152 (.aload_n 0) 1 153 := ⟨by decide +kernel, rfl⟩
theorem dX12_mean_153 : dc cX12_mean 153 (.lload_n 3) 1 154 := ⟨by decide +kernel, rfl⟩
theorem dX12_mean_154 : dc cX12_mean 154 (.iload_n 2) 1 155 := ⟨by decide +kernel, rfl⟩
theorem dX12_mean_155 : dc cX12_mean 155 (.i2l) 1 156 := ⟨by decide +kernel, rfl⟩
theorem dX12_mean_156 : dc cX12_mean 156 (.invokevirtual 501) 3 159 := ⟨by decide +kernel, rfl⟩
theorem dX12_mean_159 : dc cX12_mean 159 (.ireturn) 1 160 := ⟨by decide +kernel, rfl⟩
theorem nm_X12_mean : (yX12_mean).cls ≠ "java/lang/invoke/MethodHandle" ∧ (yX12_mean).cls ≠ "java/lang/invoke/VarHandle" ∧ (parseMethodDescriptor (yX12_mean).desc).map (fun d => d.parameters.length) = some 2 := ⟨by decide +kernel, by decide +kernel, by decide +kernel⟩
theorem zs_X12_mean_63 {a0 : Nat} {c1 : Int32} {c2 : Int32} {k88 : KM → Option (Int32 × KM)} {y : (Int32 × KM)} (hk88 : ∀ (M : KM), k88 M = some y → (y.1 = 0 ∨ y.1 = 1)) : ∀ (n : Nat) (w3 : Int32) (M : KM), lp_X12_mean_63 n a0 c1 c2 w3 M k88 = some y → (y.1 = 0 ∨ y.1 = 1) := by
  intro n
  induction n with
  | zero =>
    intro w3 M hf
    cases hf
  | succ n ih =>
    intro w3 M hf
    rw [lp_X12_mean_63] at hf
    by_cases h11 : (290 : Int32) ≤ w3
    · replace hf := (if_pos h11).symm.trans hf
      exact hk88 M hf
    · replace hf := (if_neg h11).symm.trans hf
      obtain ⟨g7, hf⟩ := gd_e hf
      obtain ⟨g8, hf⟩ := gd_e hf
      obtain ⟨M9, eM9⟩ : ∃ q : KM, q = (uI M (a0 + 7) (w3).toNatClampNeg (M.1 (a0 + 5) (w3).toNatClampNeg)) := ⟨_, rfl⟩
      replace hf := lt_e hf eM9
      obtain ⟨v10, ev10⟩ : ∃ q : Int32, q = w3 + (1 : Int32) := ⟨_, rfl⟩
      replace hf := lt_e hf ev10
      exact ih v10 M9 hf
theorem zs_X12_mean_118 {a0 : Nat} {c1 : Int32} {c2 : Int32} {c3 : Int64} {c5 : Int32} {k146 : KM → Option (Int32 × KM)} {y : (Int32 × KM)} (hk146 : ∀ (M : KM), k146 M = some y → (y.1 = 0 ∨ y.1 = 1)) : ∀ (n : Nat) (w6 : Int32) (M : KM), lp_X12_mean_118 n a0 c1 c2 c3 c5 w6 M k146 = some y → (y.1 = 0 ∨ y.1 = 1) := by
  intro n
  induction n with
  | zero =>
    intro w6 M hf
    cases hf
  | succ n ih =>
    intro w6 M hf
    rw [lp_X12_mean_118] at hf
    by_cases h20 : (290 : Int32) ≤ w6
    · replace hf := (if_pos h20).symm.trans hf
      exact hk146 M hf
    · replace hf := (if_neg h20).symm.trans hf
      obtain ⟨g16, hf⟩ := gd_e hf
      obtain ⟨g17, hf⟩ := gd_e hf
      obtain ⟨M18, eM18⟩ : ∃ q : KM, q = (uI M (a0 + 5) (w6).toNatClampNeg (M.1 (a0 + 7) (w6).toNatClampNeg)) := ⟨_, rfl⟩
      replace hf := lt_e hf eM18
      obtain ⟨v19, ev19⟩ : ∃ q : Int32, q = w6 + (1 : Int32) := ⟨_, rfl⟩
      replace hf := lt_e hf ev19
      exact ih v19 M18 hf
theorem zs_X12_mean_93 {a0 : Nat} {c1 : Int32} {c2 : Int32} {k152 : Int64 → KM → Option (Int32 × KM)} {y : (Int32 × KM)} (hk152 : ∀ (u3 : Int64) (M : KM), k152 u3 M = some y → (y.1 = 0 ∨ y.1 = 1)) : ∀ (n : Nat) (w3 : Int64) (w5 : Int32) (M : KM), lp_X12_mean_93 n a0 c1 c2 w3 w5 M k152 = some y → (y.1 = 0 ∨ y.1 = 1) := by
  intro n
  induction n with
  | zero =>
    intro w3 w5 M hf
    cases hf
  | succ n ih =>
    intro w3 w5 M hf
    rw [lp_X12_mean_93] at hf
    by_cases h23 : c2 ≤ w5
    · replace hf := (if_pos h23).symm.trans hf
      exact hk152 w3 M hf
    · replace hf := (if_neg h23).symm.trans hf
      obtain ⟨v13, hcv13, hf⟩ := bd_e hf
      obtain ⟨v14, hcv14, hf⟩ := bd_e hf
      obtain ⟨v15, ev15⟩ : ∃ q, q = ((w3 + (v14).toInt64) : Int64) := ⟨_, rfl⟩
      replace hf := lt_e hf ev15
      refine zs_X12_mean_118 (fun M21 hf => ?_) n (0 : Int32) v13 hf
      · obtain ⟨v22, ev22⟩ : ∃ q : Int32, q = w5 + (1 : Int32) := ⟨_, rfl⟩
        replace hf := lt_e hf ev22
        exact ih v15 v22 M21 hf
set_option maxRecDepth 100000 in
theorem z_X12_mean (n : Nat) {a0 : Nat} {p1 : Int32} {p2 : Int32} {M : KM} {y : (Int32 × KM)} (hf : f_X12_mean n a0 p1 p2 M = some y) : (y.1 = 0 ∨ y.1 = 1) := by
  unfold f_X12_mean at hf
  obtain ⟨M1, eM1⟩ : ∃ q : KM, q = (uI M a0 1 (0 : Int32)) := ⟨_, rfl⟩
  replace hf := lt_e hf eM1
  obtain ⟨M2, eM2⟩ : ∃ q : KM, q = (uI M1 a0 0 (0 : Int32)) := ⟨_, rfl⟩
  replace hf := lt_e hf eM2
  obtain ⟨v3, hcv3⟩ : ∃ q, f_X12_isIn (p2).toInt64 (1 : Int64) (20 : Int64) M2 = q := ⟨_, rfl⟩
  replace hf := lt_e hf hcv3.symm
  obtain ⟨j37, ej37, hf⟩ := lt_j hf
  have hj37 : j37 = some y → (y.1 = 0 ∨ y.1 = 1) := by
    intro hf
    rw [ej37] at hf
    obtain ⟨v4, hcv4⟩ : ∃ q, f_X12_no a0 (5 : Int32) M2 = q := ⟨_, rfl⟩
    replace hf := lt_e hf hcv4.symm
    obtain rfl := Option.some.inj hf
    exact (z_X12_no hcv4)
  by_cases h30 : v3 = 0
  · replace hf := (if_pos h30).symm.trans hf
    exact hj37 hf
  · replace hf := (if_neg h30).symm.trans hf
    obtain ⟨v5, hcv5⟩ : ∃ q, f_X12_isIn (p1).toInt64 (0 : Int64) (((10000 : Int32) - p2)).toInt64 M2 = q := ⟨_, rfl⟩
    replace hf := lt_e hf hcv5.symm
    by_cases h29 : v5 = 0
    · replace hf := (if_pos h29).symm.trans hf
      exact hj37 hf
    · replace hf := (if_neg h29).symm.trans hf
      obtain ⟨g6, hf⟩ := gd_e hf
      by_cases h28 : (M2.1 (a0 + 5) ((290 : Int32)).toNatClampNeg) = 0
      · replace hf := (if_pos h28).symm.trans hf
        obtain ⟨v27, hcv27⟩ : ∃ q, f_X12_no a0 (8 : Int32) M2 = q := ⟨_, rfl⟩
        replace hf := lt_e hf hcv27.symm
        obtain rfl := Option.some.inj hf
        exact (z_X12_no hcv27)
      · replace hf := (if_neg h28).symm.trans hf
        refine zs_X12_mean_63 (fun M12 hf => ?_) n (0 : Int32) M2 hf
        · refine zs_X12_mean_93 (fun u24 M25 hf => ?_) n (0 : Int64) (0 : Int32) M12 hf
          · obtain ⟨v26, hcv26, hf⟩ := bd_e hf
            obtain rfl := Option.some.inj hf
            exact (z_X12_fraction n hcv26)
set_option maxRecDepth 100000 in
set_option maxHeartbeats 4000000 in
theorem s_X12_mean_63 {ad : Nat → Nat} {cy : Nat → ClassId} {x : KX} (G : KG ad cy x cX12_mean "NoonGuidesModel" 7 (some (some .boolean)) 62) {a0 : Nat} {c1 : Int32} {c2 : Int32} (h0 : kty a0 = 12) {k88 : KM → Option (Int32 × KM)} {y : (Int32 × KM)} (hk88 : ∀ (M : KM), k88 M = some y → KV ad cy x (some (.int y.1), y.2) 88 [(0, .ref (ad a0)), (1, .int c1), (2, .int c2)] [] M) : ∀ (n : Nat) (w3 : Int32) (M : KM), lp_X12_mean_63 n a0 c1 c2 w3 M k88 = some y → KV ad cy x (some (.int y.1), y.2) 63 [(0, .ref (ad a0)), (1, .int c1), (2, .int c2), (3, .int w3)] [] M := by
  intro n
  induction n with
  | zero =>
    intro w3 M hf
    cases hf
  | succ n ih =>
    intro w3 M hf
    rw [lp_X12_mean_63] at hf
    refine v_iload_n G dX12_mean_63 3 rfl ?_
    refine v_sipush (290 : Int32) G dX12_mean_64 (by decide) ?_
    refine v_icmp_ge 88 G dX12_mean_67 (by decide) (fun h11 => ?_) (fun h11 => ?_)
    · replace hf := (if_pos h11).symm.trans hf
      refine v_sub _ [0, 1, 2] rfl ?_
      exact hk88 M hf
    · replace hf := (if_neg h11).symm.trans hf
      refine v_aload_n G dX12_mean_70 0 rfl ?_
      refine gf_12_22 G h0 t_1513 (Or.inl rfl) dX12_mean_71 ?_
      refine v_iload_n G dX12_mean_74 3 rfl ?_
      refine v_aload_n G dX12_mean_75 0 rfl ?_
      refine gf_12_20 G h0 t_1511 (Or.inl rfl) dX12_mean_76 ?_
      refine v_iload_n G dX12_mean_79 3 rfl ?_
      obtain ⟨g7, hf⟩ := gd_e hf
      refine al_36 G (kf_12_5 h0) g7 dX12_mean_80 ?_
      obtain ⟨g8, hf⟩ := gd_e hf
      refine as_37 G (kf_12_7 h0) g8 dX12_mean_81 ?_
      refine v_nmM (fun M9 eM9 => ?_)
      replace hf := lt_e hf eM9
      obtain ⟨v10, ev10⟩ : ∃ q : Int32, q = w3 + (1 : Int32) := ⟨_, rfl⟩
      replace hf := lt_e hf ev10
      refine v_iinc v10 [(3, .int v10), (0, .ref (ad a0)), (1, .int c1), (2, .int c2)] G dX12_mean_82 3 rfl (by rw [ev10]; rfl) (by decide) rfl ?_
      refine v_goto 63 G dX12_mean_85 (by decide) ?_
      refine v_sub _ [1, 2, 3, 0] rfl ?_
      exact ih v10 M9 hf
set_option maxRecDepth 100000 in
set_option maxHeartbeats 4000000 in
theorem s_X12_mean_118 {ad : Nat → Nat} {cy : Nat → ClassId} {x : KX} (G : KG ad cy x cX12_mean "NoonGuidesModel" 7 (some (some .boolean)) 62) {a0 : Nat} {c1 : Int32} {c2 : Int32} {c3 : Int64} {c5 : Int32} (h0 : kty a0 = 12) {k146 : KM → Option (Int32 × KM)} {y : (Int32 × KM)} (hk146 : ∀ (M : KM), k146 M = some y → KV ad cy x (some (.int y.1), y.2) 146 [(0, .ref (ad a0)), (1, .int c1), (2, .int c2), (3, .long c3), (5, .int c5)] [] M) : ∀ (n : Nat) (w6 : Int32) (M : KM), lp_X12_mean_118 n a0 c1 c2 c3 c5 w6 M k146 = some y → KV ad cy x (some (.int y.1), y.2) 118 [(0, .ref (ad a0)), (1, .int c1), (2, .int c2), (3, .long c3), (5, .int c5), (6, .int w6)] [] M := by
  intro n
  induction n with
  | zero =>
    intro w6 M hf
    cases hf
  | succ n ih =>
    intro w6 M hf
    rw [lp_X12_mean_118] at hf
    refine v_iload G dX12_mean_118 5 rfl ?_
    refine v_sipush (290 : Int32) G dX12_mean_120 (by decide) ?_
    refine v_icmp_ge 146 G dX12_mean_123 (by decide) (fun h20 => ?_) (fun h20 => ?_)
    · replace hf := (if_pos h20).symm.trans hf
      refine v_sub _ [0, 1, 2, 3, 4] rfl ?_
      exact hk146 M hf
    · replace hf := (if_neg h20).symm.trans hf
      refine v_aload_n G dX12_mean_126 0 rfl ?_
      refine gf_12_20 G h0 t_1511 (Or.inl rfl) dX12_mean_127 ?_
      refine v_iload G dX12_mean_130 5 rfl ?_
      refine v_aload_n G dX12_mean_132 0 rfl ?_
      refine gf_12_22 G h0 t_1513 (Or.inl rfl) dX12_mean_133 ?_
      refine v_iload G dX12_mean_136 5 rfl ?_
      obtain ⟨g16, hf⟩ := gd_e hf
      refine al_37 G (kf_12_7 h0) g16 dX12_mean_138 ?_
      obtain ⟨g17, hf⟩ := gd_e hf
      refine as_36 G (kf_12_5 h0) g17 dX12_mean_139 ?_
      refine v_nmM (fun M18 eM18 => ?_)
      replace hf := lt_e hf eM18
      obtain ⟨v19, ev19⟩ : ∃ q : Int32, q = w6 + (1 : Int32) := ⟨_, rfl⟩
      replace hf := lt_e hf ev19
      refine v_iinc v19 [(6, .int v19), (0, .ref (ad a0)), (1, .int c1), (2, .int c2), (3, .long c3), (5, .int c5)] G dX12_mean_140 5 rfl (by rw [ev19]; rfl) (by decide) rfl ?_
      refine v_goto 118 G dX12_mean_143 (by decide) ?_
      refine v_sub _ [1, 2, 3, 4, 5, 0] rfl ?_
      exact ih v19 M18 hf
set_option maxRecDepth 100000 in
set_option maxHeartbeats 4000000 in
theorem s_X12_mean_93 {ad : Nat → Nat} {cy : Nat → ClassId} {x : KX} (G : KG ad cy x cX12_mean "NoonGuidesModel" 7 (some (some .boolean)) 62) {a0 : Nat} {c1 : Int32} {c2 : Int32} (h0 : kty a0 = 12) {k152 : Int64 → KM → Option (Int32 × KM)} {y : (Int32 × KM)} (hk152 : ∀ (u3 : Int64) (M : KM), k152 u3 M = some y → KV ad cy x (some (.int y.1), y.2) 152 [(0, .ref (ad a0)), (2, .int c2), (3, .long u3)] [] M) : ∀ (n : Nat) (w3 : Int64) (w5 : Int32) (M : KM), lp_X12_mean_93 n a0 c1 c2 w3 w5 M k152 = some y → KV ad cy x (some (.int y.1), y.2) 93 [(0, .ref (ad a0)), (1, .int c1), (2, .int c2), (3, .long w3), (5, .int w5)] [] M := by
  intro n
  induction n with
  | zero =>
    intro w3 w5 M hf
    cases hf
  | succ n ih =>
    intro w3 w5 M hf
    rw [lp_X12_mean_93] at hf
    refine v_iload G dX12_mean_93 4 rfl ?_
    refine v_iload_n G dX12_mean_95 2 rfl ?_
    refine v_icmp_ge 152 G dX12_mean_96 (by decide) (fun h23 => ?_) (fun h23 => ?_)
    · replace hf := (if_pos h23).symm.trans hf
      refine v_sub _ [0, 2, 3] rfl ?_
      exact hk152 w3 M hf
    · replace hf := (if_neg h23).symm.trans hf
      refine v_aload_n G dX12_mean_99 0 rfl ?_
      refine v_iload_n G dX12_mean_100 1 rfl ?_
      refine v_iload G dX12_mean_101 4 rfl ?_
      refine v_iadd G dX12_mean_103 ?_
      obtain ⟨v13, hcv13, hf⟩ := bd_e hf
      refine v_callV [.int (c1 + w5)] G (c_X12_runsDays n h0 hcv13) h0 (by decide) rfl rfl rfl t_2280 t_2282 t_p152 t_17 t_2283 nm_X12_runsDays (by decide) (by decide) rfl rfl (Nat.le_of_ble_eq_true rfl) dX12_mean_104 (kv_rv ?_)
      refine v_lload_n G dX12_mean_107 3 rfl ?_
      refine v_aload_n G dX12_mean_108 0 rfl ?_
      obtain ⟨v14, hcv14, hf⟩ := bd_e hf
      refine v_callV [] G (c_X12_allLost n h0 hcv14) h0 (by decide) rfl rfl rfl t_1934 t_1936 t_p112 t_17 t_1937 nm_X12_allLost (by decide) (by decide) rfl rfl (Nat.le_of_ble_eq_true rfl) dX12_mean_109 (kv_ri ?_)
      refine v_i2l G dX12_mean_112 ?_
      refine v_ladd G dX12_mean_113 ?_
      refine v_nml (fun v15 ev15 => ?_)
      replace hf := lt_e hf ev15
      refine v_lstore_n [(3, .long v15), (0, .ref (ad a0)), (1, .int c1), (2, .int c2), (5, .int w5)] G dX12_mean_114 (by decide) rfl ?_
      refine v_iconst (0 : Int32) G dX12_mean_115 (by decide) ?_
      refine v_istore [(6, .int (0 : Int32)), (3, .long v15), (0, .ref (ad a0)), (1, .int c1), (2, .int c2), (5, .int w5)] G dX12_mean_116 (by decide) rfl ?_
      refine v_sub _ [2, 3, 4, 1, 5, 0] rfl ?_
      refine s_X12_mean_118 G h0 (fun M21 hf => ?_) n (0 : Int32) v13 hf
      · obtain ⟨v22, ev22⟩ : ∃ q : Int32, q = w5 + (1 : Int32) := ⟨_, rfl⟩
        replace hf := lt_e hf ev22
        refine v_iinc v22 [(5, .int v22), (0, .ref (ad a0)), (1, .int c1), (2, .int c2), (3, .long v15)] G dX12_mean_146 4 rfl (by rw [ev22]; rfl) (by decide) rfl ?_
        refine v_goto 93 G dX12_mean_149 (by decide) ?_
        refine v_sub _ [1, 2, 3, 4, 0] rfl ?_
        exact ih v15 v22 M21 hf
set_option maxRecDepth 100000 in
set_option maxHeartbeats 4000000 in
theorem c_X12_mean {l : Launch} {ad : Nat → Nat} {cy : Nat → ClassId} {D : va_G} {z : Nat} (n : Nat) {a0 : Nat} {p1 : Int32} {p2 : Int32} {M : KM} {y : (Int32 × KM)} (h0 : kty a0 = 12) (hf : f_X12_mean n a0 p1 p2 M = some y) : KC l ad cy D z yX12_mean cX12_mean 7 (some .boolean) 62 [.ref (ad a0), .int p1, .int p2] M (some (.int y.1), y.2) := by
  refine kv_enter (by decide +kernel) (Nat.le_of_ble_eq_true rfl) ?_
  intro x hl hD hz G
  subst hl hD hz
  unfold f_X12_mean at hf
  have G : KG ad cy x cX12_mean "NoonGuidesModel" 7 (some (some .boolean)) 62 := G
  show KV ad cy x (some (.int y.1), y.2) 0 [(0, .ref (ad a0)), (1, .int p1), (2, .int p2)] [] M
  refine v_aload_n G dX12_mean_0 0 rfl ?_
  refine v_iconst (0 : Int32) G dX12_mean_1 (by decide) ?_
  refine pf_12_1 G h0 t_1492 (Or.inl rfl) dX12_mean_2 ?_
  refine v_nmM (fun M1 eM1 => ?_)
  replace hf := lt_e hf eM1
  refine v_aload_n G dX12_mean_5 0 rfl ?_
  refine v_iconst (0 : Int32) G dX12_mean_6 (by decide) ?_
  refine pf_12_0 G h0 t_1491 (Or.inl rfl) dX12_mean_7 ?_
  refine v_nmM (fun M2 eM2 => ?_)
  replace hf := lt_e hf eM2
  refine v_iload_n G dX12_mean_10 2 rfl ?_
  refine v_i2l G dX12_mean_11 ?_
  refine v_lconst (1 : Int64) G dX12_mean_12 (by decide) ?_
  refine v_ldc2 G dX12_mean_13 t_2321 ?_
  obtain ⟨v3, hcv3⟩ : ∃ q, f_X12_isIn (p2).toInt64 (1 : Int64) (20 : Int64) M2 = q := ⟨_, rfl⟩
  replace hf := lt_e hf hcv3.symm
  refine v_callS [.long (p2).toInt64, .long (1 : Int64), .long (20 : Int64)] G (c_X12_isIn hcv3) t_1755 t_1756 t_17 t_1757 nm_X12_isIn (by decide) (by decide) rfl rfl (Nat.le_of_ble_eq_true rfl) dX12_mean_16 (kv_ri ?_)
  obtain ⟨j37, ej37, hf⟩ := lt_j hf
  have hj37 : j37 = some y → KV ad cy x (some (.int y.1), y.2) 37 [(0, .ref (ad a0))] [] M2 := by
    intro hf
    rw [ej37] at hf
    refine v_aload_n G dX12_mean_37 0 rfl ?_
    refine v_iconst (5 : Int32) G dX12_mean_38 (by decide) ?_
    obtain ⟨v4, hcv4⟩ : ∃ q, f_X12_no a0 (5 : Int32) M2 = q := ⟨_, rfl⟩
    replace hf := lt_e hf hcv4.symm
    refine v_callV [.int (5 : Int32)] G (c_X12_no h0 hcv4) h0 (by decide) rfl rfl rfl t_1649 t_1651 t_p55 t_17 t_1652 nm_X12_no (by decide) (by decide) rfl rfl (Nat.le_of_ble_eq_true rfl) dX12_mean_39 (kv_ri ?_)
    obtain rfl := Option.some.inj hf
    exact v_zret G (z_X12_no hcv4) dX12_mean_42
  refine v_if_eq 37 G dX12_mean_19 (by decide) (fun h30 => ?_) (fun h30 => ?_)
  · replace hf := (if_pos h30).symm.trans hf
    refine v_sub _ [0] rfl ?_
    exact hj37 hf
  · replace hf := (if_neg h30).symm.trans hf
    refine v_iload_n G dX12_mean_22 1 rfl ?_
    refine v_i2l G dX12_mean_23 ?_
    refine v_lconst (0 : Int64) G dX12_mean_24 (by decide) ?_
    refine v_sipush (10000 : Int32) G dX12_mean_25 (by decide) ?_
    refine v_iload_n G dX12_mean_28 2 rfl ?_
    refine v_isub G dX12_mean_29 ?_
    refine v_i2l G dX12_mean_30 ?_
    obtain ⟨v5, hcv5⟩ : ∃ q, f_X12_isIn (p1).toInt64 (0 : Int64) (((10000 : Int32) - p2)).toInt64 M2 = q := ⟨_, rfl⟩
    replace hf := lt_e hf hcv5.symm
    refine v_callS [.long (p1).toInt64, .long (0 : Int64), .long (((10000 : Int32) - p2)).toInt64] G (c_X12_isIn hcv5) t_1755 t_1756 t_17 t_1757 nm_X12_isIn (by decide) (by decide) rfl rfl (Nat.le_of_ble_eq_true rfl) dX12_mean_31 (kv_ri ?_)
    refine v_if_ne 43 G dX12_mean_34 (by decide) (fun h29 => ?_) (fun h29 => ?_)
    · replace hf := (if_neg h29).symm.trans hf
      refine v_aload_n G dX12_mean_43 0 rfl ?_
      refine gf_12_20 G h0 t_1511 (Or.inl rfl) dX12_mean_44 ?_
      refine v_sipush (290 : Int32) G dX12_mean_47 (by decide) ?_
      obtain ⟨g6, hf⟩ := gd_e hf
      refine al_36 G (kf_12_5 h0) g6 dX12_mean_50 ?_
      refine v_if_ne 61 G dX12_mean_51 (by decide) (fun h28 => ?_) (fun h28 => ?_)
      · replace hf := (if_neg h28).symm.trans hf
        refine v_iconst (0 : Int32) G dX12_mean_61 (by decide) ?_
        refine v_istore_n [(3, .int (0 : Int32)), (0, .ref (ad a0)), (1, .int p1), (2, .int p2)] G dX12_mean_62 (by decide) rfl ?_
        refine v_sub _ [1, 2, 3, 0] rfl ?_
        refine s_X12_mean_63 G h0 (fun M12 hf => ?_) n (0 : Int32) M2 hf
        · refine v_lconst (0 : Int64) G dX12_mean_88 (by decide) ?_
          refine v_lstore_n [(3, .long (0 : Int64)), (0, .ref (ad a0)), (1, .int p1), (2, .int p2)] G dX12_mean_89 (by decide) rfl ?_
          refine v_iconst (0 : Int32) G dX12_mean_90 (by decide) ?_
          refine v_istore [(5, .int (0 : Int32)), (3, .long (0 : Int64)), (0, .ref (ad a0)), (1, .int p1), (2, .int p2)] G dX12_mean_91 (by decide) rfl ?_
          refine v_sub _ [2, 3, 4, 1, 0] rfl ?_
          refine s_X12_mean_93 G h0 (fun u24 M25 hf => ?_) n (0 : Int64) (0 : Int32) M12 hf
          · refine v_aload_n G dX12_mean_152 0 rfl ?_
            refine v_lload_n G dX12_mean_153 2 rfl ?_
            refine v_iload_n G dX12_mean_154 1 rfl ?_
            refine v_i2l G dX12_mean_155 ?_
            obtain ⟨v26, hcv26, hf⟩ := bd_e hf
            refine v_callV [.long u24, .long (p2).toInt64] G (c_X12_fraction n h0 hcv26) h0 (by decide) rfl rfl rfl t_2240 t_2242 t_p148 t_17 t_2243 nm_X12_fraction (by decide) (by decide) rfl rfl (Nat.le_of_ble_eq_true rfl) dX12_mean_156 (kv_ri ?_)
            obtain rfl := Option.some.inj hf
            exact v_zret G (z_X12_fraction n hcv26) dX12_mean_159
      · replace hf := (if_pos h28).symm.trans hf
        refine v_aload_n G dX12_mean_54 0 rfl ?_
        refine v_bipush (8 : Int32) G dX12_mean_55 (by decide) ?_
        obtain ⟨v27, hcv27⟩ : ∃ q, f_X12_no a0 (8 : Int32) M2 = q := ⟨_, rfl⟩
        replace hf := lt_e hf hcv27.symm
        refine v_callV [.int (8 : Int32)] G (c_X12_no h0 hcv27) h0 (by decide) rfl rfl rfl t_1649 t_1651 t_p55 t_17 t_1652 nm_X12_no (by decide) (by decide) rfl rfl (Nat.le_of_ble_eq_true rfl) dX12_mean_57 (kv_ri ?_)
        obtain rfl := Option.some.inj hf
        exact v_zret G (z_X12_no hcv27) dX12_mean_60
    · replace hf := (if_pos h29).symm.trans hf
      refine v_sub _ [0] rfl ?_
      exact hj37 hf
abbrev cX12_mark : ByteArray := prog_14_method_173_code
def yX12_mark : MethodName := ⟨RX12, "mark", "()I"⟩
theorem dX12_mark_0 : dc cX12_mark 0 (.aload_n 0) 1 1 := ⟨by decide +kernel, rfl⟩
theorem dX12_mark_1 : dc cX12_mark 1 (.iconst 0) 1 2 := ⟨by decide +kernel, rfl⟩
theorem dX12_mark_2 : dc cX12_mark 2 (.putfield 75) 3 5 := ⟨by decide +kernel, rfl⟩
theorem dX12_mark_5 : dc cX12_mark 5 (.aload_n 0) 1 6 := ⟨by decide +kernel, rfl⟩
theorem dX12_mark_6 : dc cX12_mark 6 (.iconst 0) 1 7 := ⟨by decide +kernel, rfl⟩
theorem dX12_mark_7 : dc cX12_mark 7 (.putfield 78) 3 10 := ⟨by decide +kernel, rfl⟩
theorem dX12_mark_10 : dc cX12_mark 10 (.aload_n 0) 1 11 := ⟨by decide +kernel, rfl⟩
theorem dX12_mark_11 : dc cX12_mark 11 (.getfield 570) 3 14 := ⟨by decide +kernel, rfl⟩
theorem dX12_mark_14 : dc cX12_mark 14 (.iconst 3) 1 15 := ⟨by decide +kernel, rfl⟩
theorem dX12_mark_15 : dc cX12_mark 15 (.if_icmp .ne 10) 3 18 := ⟨by decide +kernel, rfl⟩
theorem dX12_mark_18 : dc cX12_mark 18 (.aload_n 0) 1 19 := ⟨by decide +kernel, rfl⟩
theorem dX12_mark_19 : dc cX12_mark 19 (.bipush 7) 2 21 := ⟨by decide +kernel, rfl⟩
theorem dX12_mark_21 : dc cX12_mark 21 (.invokevirtual 355) 3 24 := ⟨by decide +kernel, rfl⟩
theorem dX12_mark_24 : dc cX12_mark 24 (.ireturn) 1 25 := ⟨by decide +kernel, rfl⟩
theorem dX12_mark_25 : dc cX12_mark 25 (.aload_n 0) 1 26 := ⟨by decide +kernel, rfl⟩
theorem dX12_mark_26 : dc cX12_mark 26 (.dup) 1 27 := ⟨by decide +kernel, rfl⟩
theorem dX12_mark_27 : dc cX12_mark 27 (.getfield 570) 3 30 := ⟨by decide +kernel, rfl⟩
theorem dX12_mark_30 : dc cX12_mark 30 (.iconst 1) 1 31 := ⟨by decide +kernel, rfl⟩
theorem dX12_mark_31 : dc cX12_mark 31 (.iadd) 1 32 := ⟨by decide +kernel, rfl⟩
theorem dX12_mark_32 : dc cX12_mark 32 (.putfield 570) 3 35 := ⟨by decide +kernel, rfl⟩
theorem dX12_mark_35 : dc cX12_mark 35 (.aload_n 0) 1 36 := ⟨by decide +kernel, rfl⟩
theorem dX12_mark_36 : dc cX12_mark 36 (.iconst 0) 1 37 := ⟨by decide +kernel, rfl⟩
theorem dX12_mark_37 : dc cX12_mark 37 (.aload_n 0) 1 38 := ⟨by decide +kernel, rfl⟩
theorem dX12_mark_38 : dc cX12_mark 38 (.getfield 570) 3 41 := ⟨by decide +kernel, rfl⟩
theorem dX12_mark_41 : dc cX12_mark 41 (.invokevirtual 322) 3 44 := ⟨by decide +kernel, rfl⟩
theorem dX12_mark_44 : dc cX12_mark 44 (.aload_n 0) 1 45 := ⟨by decide +kernel, rfl⟩
theorem dX12_mark_45 : dc cX12_mark 45 (.getfield 570) 3 48 := ⟨by decide +kernel, rfl⟩
theorem dX12_mark_48 : dc cX12_mark 48 (.ireturn) 1 49 := ⟨by decide +kernel, rfl⟩
theorem nm_X12_mark : (yX12_mark).cls ≠ "java/lang/invoke/MethodHandle" ∧ (yX12_mark).cls ≠ "java/lang/invoke/VarHandle" ∧ (parseMethodDescriptor (yX12_mark).desc).map (fun d => d.parameters.length) = some 0 := ⟨by decide +kernel, by decide +kernel, by decide +kernel⟩
set_option maxRecDepth 100000 in
set_option maxHeartbeats 4000000 in
theorem c_X12_mark {l : Launch} {ad : Nat → Nat} {cy : Nat → ClassId} {D : va_G} {z : Nat} (n : Nat) {a0 : Nat} {M : KM} {y : (Int32 × KM)} (h0 : kty a0 = 12) (hf : f_X12_mark n a0 M = some y) : KC l ad cy D z yX12_mark cX12_mark 1 (some .int) 2 [.ref (ad a0)] M (some (.int y.1), y.2) := by
  refine kv_enter (by decide +kernel) (Nat.le_of_ble_eq_true rfl) ?_
  intro x hl hD hz G
  subst hl hD hz
  unfold f_X12_mark at hf
  have G : KG ad cy x cX12_mark "NoonGuidesModel" 1 (some (some .int)) 2 := G
  show KV ad cy x (some (.int y.1), y.2) 0 [(0, .ref (ad a0))] [] M
  refine v_aload_n G dX12_mark_0 0 rfl ?_
  refine v_iconst (0 : Int32) G dX12_mark_1 (by decide) ?_
  refine pf_12_1 G h0 t_1492 (Or.inl rfl) dX12_mark_2 ?_
  refine v_nmM (fun M1 eM1 => ?_)
  replace hf := lt_e hf eM1
  refine v_aload_n G dX12_mark_5 0 rfl ?_
  refine v_iconst (0 : Int32) G dX12_mark_6 (by decide) ?_
  refine pf_12_0 G h0 t_1491 (Or.inl rfl) dX12_mark_7 ?_
  refine v_nmM (fun M2 eM2 => ?_)
  replace hf := lt_e hf eM2
  refine v_aload_n G dX12_mark_10 0 rfl ?_
  refine gf_12_24 G h0 t_1515 (Or.inl rfl) dX12_mark_11 ?_
  refine v_iconst (3 : Int32) G dX12_mark_14 (by decide) ?_
  refine v_icmp_ne 25 G dX12_mark_15 (by decide) (fun h6 => ?_) (fun h6 => ?_)
  · replace hf := (if_neg h6).symm.trans hf
    refine v_aload_n G dX12_mark_25 0 rfl ?_
    refine v_dup G dX12_mark_26 rfl ?_
    refine gf_12_24 G h0 t_1515 (Or.inl rfl) dX12_mark_27 ?_
    refine v_iconst (1 : Int32) G dX12_mark_30 (by decide) ?_
    refine v_iadd G dX12_mark_31 ?_
    refine pf_12_24 G h0 t_1515 (Or.inl rfl) dX12_mark_32 ?_
    refine v_nmM (fun M3 eM3 => ?_)
    replace hf := lt_e hf eM3
    refine v_aload_n G dX12_mark_35 0 rfl ?_
    refine v_iconst (0 : Int32) G dX12_mark_36 (by decide) ?_
    refine v_aload_n G dX12_mark_37 0 rfl ?_
    refine gf_12_24 G h0 t_1515 (Or.inl rfl) dX12_mark_38 ?_
    obtain ⟨v4, hcv4, hf⟩ := bd_e hf
    refine v_callV [.int (0 : Int32), .int (M3.1 a0 24)] G (c_X12_copy n h0 hcv4) h0 (by decide) rfl rfl rfl t_1893 t_1895 t_p104 t_17 t_1896 nm_X12_copy (by decide) (by decide) rfl rfl (Nat.le_of_ble_eq_true rfl) dX12_mark_41 (kv_rv ?_)
    refine v_aload_n G dX12_mark_44 0 rfl ?_
    refine gf_12_24 G h0 t_1515 (Or.inl rfl) dX12_mark_45 ?_
    obtain rfl := Option.some.inj hf
    exact v_iret G dX12_mark_48
  · replace hf := (if_pos h6).symm.trans hf
    refine v_aload_n G dX12_mark_18 0 rfl ?_
    refine v_bipush (7 : Int32) G dX12_mark_19 (by decide) ?_
    obtain ⟨v5, hcv5⟩ : ∃ q, f_X12_refuse a0 (7 : Int32) M2 = q := ⟨_, rfl⟩
    replace hf := lt_e hf hcv5.symm
    refine v_callV [.int (7 : Int32)] G (c_X12_refuse h0 hcv5) h0 (by decide) rfl rfl rfl t_1926 t_1928 t_p110 t_17 t_1929 nm_X12_refuse (by decide) (by decide) rfl rfl (Nat.le_of_ble_eq_true rfl) dX12_mark_21 (kv_ri ?_)
    obtain rfl := Option.some.inj hf
    exact v_iret G dX12_mark_24
abbrev cX12_back : ByteArray := prog_14_method_174_code
def yX12_back : MethodName := ⟨RX12, "back", "()I"⟩
theorem dX12_back_0 : dc cX12_back 0 (.aload_n 0) 1 1 := ⟨by decide +kernel, rfl⟩
theorem dX12_back_1 : dc cX12_back 1 (.iconst 0) 1 2 := ⟨by decide +kernel, rfl⟩
theorem dX12_back_2 : dc cX12_back 2 (.putfield 75) 3 5 := ⟨by decide +kernel, rfl⟩
theorem dX12_back_5 : dc cX12_back 5 (.aload_n 0) 1 6 := ⟨by decide +kernel, rfl⟩
theorem dX12_back_6 : dc cX12_back 6 (.iconst 0) 1 7 := ⟨by decide +kernel, rfl⟩
theorem dX12_back_7 : dc cX12_back 7 (.putfield 78) 3 10 := ⟨by decide +kernel, rfl⟩
theorem dX12_back_10 : dc cX12_back 10 (.aload_n 0) 1 11 := ⟨by decide +kernel, rfl⟩
theorem dX12_back_11 : dc cX12_back 11 (.getfield 570) 3 14 := ⟨by decide +kernel, rfl⟩
theorem dX12_back_14 : dc cX12_back 14 (.ifCond .ne 10) 3 17 := ⟨by decide +kernel, rfl⟩
theorem dX12_back_17 : dc cX12_back 17 (.aload_n 0) 1 18 := ⟨by decide +kernel, rfl⟩
theorem dX12_back_18 : dc cX12_back 18 (.bipush 8) 2 20 := ⟨by decide +kernel, rfl⟩
theorem dX12_back_20 : dc cX12_back 20 (.invokevirtual 355) 3 23 := ⟨by decide +kernel, rfl⟩
theorem dX12_back_23 : dc cX12_back 23 (.ireturn) 1 24 := ⟨by decide +kernel, rfl⟩
theorem dX12_back_24 : dc cX12_back 24 (.aload_n 0) 1 25 := ⟨by decide +kernel, rfl⟩
theorem dX12_back_25 : dc cX12_back 25 (.aload_n 0) 1 26 := ⟨by decide +kernel, rfl⟩
theorem dX12_back_26 : dc cX12_back 26 (.getfield 570) 3 29 := ⟨by decide +kernel, rfl⟩
theorem dX12_back_29 : dc cX12_back 29 (.iconst 0) 1 30 := ⟨by decide +kernel, rfl⟩
theorem dX12_back_30 : dc cX12_back 30 (.invokevirtual 322) 3 33 := ⟨by decide +kernel, rfl⟩
theorem dX12_back_33 : dc cX12_back 33 (.aload_n 0) 1 34 := ⟨by decide +kernel, rfl⟩
theorem dX12_back_34 : dc cX12_back 34 (.dup) 1 35 := ⟨by decide +kernel, rfl⟩
theorem dX12_back_35 : dc cX12_back 35 (.getfield 570) 3 38 := ⟨by decide +kernel, rfl⟩
theorem dX12_back_38 : dc cX12_back 38 (.iconst 1) 1 39 := ⟨by decide +kernel, rfl⟩
theorem dX12_back_39 : dc cX12_back 39 (.isub) 1 40 := ⟨by decide +kernel, rfl⟩
theorem dX12_back_40 : dc cX12_back 40 (.putfield 570) 3 43 := ⟨by decide +kernel, rfl⟩
theorem dX12_back_43 : dc cX12_back 43 (.aload_n 0) 1 44 := ⟨by decide +kernel, rfl⟩
theorem dX12_back_44 : dc cX12_back 44 (.getfield 570) 3 47 := ⟨by decide +kernel, rfl⟩
theorem dX12_back_47 : dc cX12_back 47 (.ireturn) 1 48 := ⟨by decide +kernel, rfl⟩
theorem nm_X12_back : (yX12_back).cls ≠ "java/lang/invoke/MethodHandle" ∧ (yX12_back).cls ≠ "java/lang/invoke/VarHandle" ∧ (parseMethodDescriptor (yX12_back).desc).map (fun d => d.parameters.length) = some 0 := ⟨by decide +kernel, by decide +kernel, by decide +kernel⟩
set_option maxRecDepth 100000 in
set_option maxHeartbeats 4000000 in
theorem c_X12_back {l : Launch} {ad : Nat → Nat} {cy : Nat → ClassId} {D : va_G} {z : Nat} (n : Nat) {a0 : Nat} {M : KM} {y : (Int32 × KM)} (h0 : kty a0 = 12) (hf : f_X12_back n a0 M = some y) : KC l ad cy D z yX12_back cX12_back 1 (some .int) 2 [.ref (ad a0)] M (some (.int y.1), y.2) := by
  refine kv_enter (by decide +kernel) (Nat.le_of_ble_eq_true rfl) ?_
  intro x hl hD hz G
  subst hl hD hz
  unfold f_X12_back at hf
  have G : KG ad cy x cX12_back "NoonGuidesModel" 1 (some (some .int)) 2 := G
  show KV ad cy x (some (.int y.1), y.2) 0 [(0, .ref (ad a0))] [] M
  refine v_aload_n G dX12_back_0 0 rfl ?_
  refine v_iconst (0 : Int32) G dX12_back_1 (by decide) ?_
  refine pf_12_1 G h0 t_1492 (Or.inl rfl) dX12_back_2 ?_
  refine v_nmM (fun M1 eM1 => ?_)
  replace hf := lt_e hf eM1
  refine v_aload_n G dX12_back_5 0 rfl ?_
  refine v_iconst (0 : Int32) G dX12_back_6 (by decide) ?_
  refine pf_12_0 G h0 t_1491 (Or.inl rfl) dX12_back_7 ?_
  refine v_nmM (fun M2 eM2 => ?_)
  replace hf := lt_e hf eM2
  refine v_aload_n G dX12_back_10 0 rfl ?_
  refine gf_12_24 G h0 t_1515 (Or.inl rfl) dX12_back_11 ?_
  refine v_if_ne 24 G dX12_back_14 (by decide) (fun h6 => ?_) (fun h6 => ?_)
  · replace hf := (if_neg h6).symm.trans hf
    refine v_aload_n G dX12_back_24 0 rfl ?_
    refine v_aload_n G dX12_back_25 0 rfl ?_
    refine gf_12_24 G h0 t_1515 (Or.inl rfl) dX12_back_26 ?_
    refine v_iconst (0 : Int32) G dX12_back_29 (by decide) ?_
    obtain ⟨v3, hcv3, hf⟩ := bd_e hf
    refine v_callV [.int (M2.1 a0 24), .int (0 : Int32)] G (c_X12_copy n h0 hcv3) h0 (by decide) rfl rfl rfl t_1893 t_1895 t_p104 t_17 t_1896 nm_X12_copy (by decide) (by decide) rfl rfl (Nat.le_of_ble_eq_true rfl) dX12_back_30 (kv_rv ?_)
    refine v_aload_n G dX12_back_33 0 rfl ?_
    refine v_dup G dX12_back_34 rfl ?_
    refine gf_12_24 G h0 t_1515 (Or.inl rfl) dX12_back_35 ?_
    refine v_iconst (1 : Int32) G dX12_back_38 (by decide) ?_
    refine v_isub G dX12_back_39 ?_
    refine pf_12_24 G h0 t_1515 (Or.inl rfl) dX12_back_40 ?_
    refine v_nmM (fun M4 eM4 => ?_)
    replace hf := lt_e hf eM4
    refine v_aload_n G dX12_back_43 0 rfl ?_
    refine gf_12_24 G h0 t_1515 (Or.inl rfl) dX12_back_44 ?_
    obtain rfl := Option.some.inj hf
    exact v_iret G dX12_back_47
  · replace hf := (if_pos h6).symm.trans hf
    refine v_aload_n G dX12_back_17 0 rfl ?_
    refine v_bipush (8 : Int32) G dX12_back_18 (by decide) ?_
    obtain ⟨v5, hcv5⟩ : ∃ q, f_X12_refuse a0 (8 : Int32) M2 = q := ⟨_, rfl⟩
    replace hf := lt_e hf hcv5.symm
    refine v_callV [.int (8 : Int32)] G (c_X12_refuse h0 hcv5) h0 (by decide) rfl rfl rfl t_1926 t_1928 t_p110 t_17 t_1929 nm_X12_refuse (by decide) (by decide) rfl rfl (Nat.le_of_ble_eq_true rfl) dX12_back_20 (kv_ri ?_)
    obtain rfl := Option.some.inj hf
    exact v_iret G dX12_back_23
