abbrev cX3_startOnce : ByteArray := prog_5_method_4_code
def yX3_startOnce : MethodName := ⟨RX3, "startOnce", "()Z"⟩
theorem dX3_startOnce_0 : dc cX3_startOnce 0 (.iconst 1) 1 1 := ⟨by decide +kernel, rfl⟩
theorem dX3_startOnce_1 : dc cX3_startOnce 1 (.aload_n 0) 1 2 := ⟨by decide +kernel, rfl⟩
theorem dX3_startOnce_2 : dc cX3_startOnce 2 (.getfield 36) 3 5 := ⟨by decide +kernel, rfl⟩
theorem dX3_startOnce_5 : dc cX3_startOnce 5 (.ishl) 1 6 := ⟨by decide +kernel, rfl⟩
theorem dX3_startOnce_6 : dc cX3_startOnce 6 (.istore_n 1) 1 7 := ⟨by decide +kernel, rfl⟩
theorem dX3_startOnce_7 : dc cX3_startOnce 7 (.aload_n 0) 1 8 := ⟨by decide +kernel, rfl⟩
theorem dX3_startOnce_8 : dc cX3_startOnce 8 (.getfield 14) 3 11 := ⟨by decide +kernel, rfl⟩
theorem dX3_startOnce_11 : dc cX3_startOnce 11 (.iload_n 1) 1 12 := ⟨by decide +kernel, rfl⟩
theorem dX3_startOnce_12 : dc cX3_startOnce 12 (.iand) 1 13 := ⟨by decide +kernel, rfl⟩
theorem dX3_startOnce_13 : dc cX3_startOnce 13 (.ifCond .ne 18) 3 16 := ⟨by decide +kernel, rfl⟩
theorem dX3_startOnce_16 : dc cX3_startOnce 16 (.aload_n 0) 1 17 := ⟨by decide +kernel, rfl⟩
theorem dX3_startOnce_17 : dc cX3_startOnce 17 (.getfield 36) 3 20 := ⟨by decide +kernel, rfl⟩
theorem dX3_startOnce_20 : dc cX3_startOnce 20 (.iconst 4) 1 21 := ⟨by decide +kernel, rfl⟩
theorem dX3_startOnce_21 : dc cX3_startOnce 21 (.if_icmp .ne 16) 3 24 := ⟨by decide +kernel, rfl⟩
theorem dX3_startOnce_24 : dc cX3_startOnce 24 (.aload_n 0) 1 25 := ⟨by decide +kernel, rfl⟩
theorem dX3_startOnce_25 : dc cX3_startOnce 25 (.getfield 20) 3 28 := ⟨by decide +kernel, rfl⟩
theorem dX3_startOnce_28 : dc cX3_startOnce 28 (.ifCond .eq 9) 3 31 := ⟨by decide +kernel, rfl⟩
theorem dX3_startOnce_31 : dc cX3_startOnce 31 (.aload_n 0) 1 32 := ⟨by decide +kernel, rfl⟩
theorem dX3_startOnce_32 : dc cX3_startOnce 32 (.iconst 5) 1 33 := ⟨by decide +kernel, rfl⟩
theorem dX3_startOnce_33 : dc cX3_startOnce 33 (.invokevirtual 86) 3 36 := ⟨by decide +kernel, rfl⟩
theorem dX3_startOnce_36 : dc cX3_startOnce 36 (.ireturn) 1 37 := ⟨by decide +kernel, rfl⟩
theorem dX3_startOnce_37 : dc cX3_startOnce 37 (.aload_n 0) 1 38 := ⟨by decide +kernel, rfl⟩
theorem dX3_startOnce_38 : dc cX3_startOnce 38 (.dup) 1 39 := ⟨by decide +kernel, rfl⟩
theorem dX3_startOnce_39 : dc cX3_startOnce 39 (.getfield 14) 3 42 := ⟨by decide +kernel, rfl⟩
theorem dX3_startOnce_42 : dc cX3_startOnce 42 (.iload_n 1) 1 43 := ⟨by decide +kernel, rfl⟩
theorem dX3_startOnce_43 : dc cX3_startOnce 43 (.ior) 1 44 := ⟨by decide +kernel, rfl⟩
theorem dX3_startOnce_44 : dc cX3_startOnce 44 (.putfield 14) 3 47 := ⟨by decide +kernel, rfl⟩
theorem dX3_startOnce_47 : dc cX3_startOnce 47 (.aload_n 0) 1 48 := ⟨by decide +kernel, rfl⟩
theorem dX3_startOnce_48 : dc cX3_startOnce 48 (.invokevirtual 90) 3 51 := ⟨by decide +kernel, rfl⟩
theorem dX3_startOnce_51 : dc cX3_startOnce 51 (.iconst 1) 1 52 := ⟨by decide +kernel, rfl⟩
theorem dX3_startOnce_52 : dc cX3_startOnce 52 (.ireturn) 1 53 := ⟨by decide +kernel, rfl⟩
theorem nm_X3_startOnce : (yX3_startOnce).cls ≠ "java/lang/invoke/MethodHandle" ∧ (yX3_startOnce).cls ≠ "java/lang/invoke/VarHandle" ∧ (parseMethodDescriptor (yX3_startOnce).desc).map (fun d => d.parameters.length) = some 0 := ⟨by decide +kernel, by decide +kernel, by decide +kernel⟩
set_option maxRecDepth 100000 in
theorem z_X3_startOnce (n : Nat) {a0 : Nat} {M : KM} {y : (Int32 × KM)} (hf : f_X3_startOnce n a0 M = some y) : (y.1 = 0 ∨ y.1 = 1) := by
  unfold f_X3_startOnce at hf
  obtain ⟨v1, ev1⟩ : ∃ q, q = (((1 : Int32) <<< ((M.1 a0 7) &&& 31)) : Int32) := ⟨_, rfl⟩
  replace hf := lt_e hf ev1
  obtain ⟨j31, ej31, hf⟩ := lt_j hf
  have hj31 : j31 = some y → (y.1 = 0 ∨ y.1 = 1) := by
    intro hf
    rw [ej31] at hf
    obtain ⟨v2, hcv2⟩ : ∃ q, f_X9_fail a0 (5 : Int32) M = q := ⟨_, rfl⟩
    replace hf := lt_e hf hcv2.symm
    obtain rfl := Option.some.inj hf
    exact (z_X9_fail hcv2)
  by_cases h7 : ((M.1 a0 12) &&& v1) = 0
  · replace hf := (if_pos h7).symm.trans hf
    obtain ⟨j37, ej37, hf⟩ := lt_j hf
    have hj37 : j37 = some y → (y.1 = 0 ∨ y.1 = 1) := by
      intro hf
      rw [ej37] at hf
      obtain ⟨M3, eM3⟩ : ∃ q : KM, q = (uI M a0 12 ((M.1 a0 12) ||| v1)) := ⟨_, rfl⟩
      replace hf := lt_e hf eM3
      obtain ⟨v4, hcv4, hf⟩ := bd_e hf
      obtain rfl := Option.some.inj hf
      exact (Or.inr rfl)
    by_cases h6 : (M.1 a0 7) = (4 : Int32)
    · replace hf := (if_pos h6).symm.trans hf
      by_cases h5 : (M.1 a0 13) = 0
      · replace hf := (if_pos h5).symm.trans hf
        exact hj37 hf
      · replace hf := (if_neg h5).symm.trans hf
        exact hj31 hf
    · replace hf := (if_neg h6).symm.trans hf
      exact hj37 hf
  · replace hf := (if_neg h7).symm.trans hf
    exact hj31 hf
set_option maxRecDepth 100000 in
set_option maxHeartbeats 4000000 in
theorem c_X3_startOnce {l : Launch} {ad : Nat → Nat} {cy : Nat → ClassId} {D : va_G} {z : Nat} (n : Nat) {a0 : Nat} {M : KM} {y : (Int32 × KM)} (h0 : kty a0 = 4) (hf : f_X3_startOnce n a0 M = some y) : KC l ad cy D z yX3_startOnce cX3_startOnce 2 (some .boolean) 4 [.ref (ad a0)] M (some (.int y.1), y.2) := by
  refine kv_enter (by decide +kernel) (Nat.le_of_ble_eq_true rfl) ?_
  intro x hl hD hz G
  subst hl hD hz
  unfold f_X3_startOnce at hf
  have G : KG ad cy x cX3_startOnce "NoonGuides$LandReader" 2 (some (some .boolean)) 4 := G
  show KV ad cy x (some (.int y.1), y.2) 0 [(0, .ref (ad a0))] [] M
  refine v_iconst (1 : Int32) G dX3_startOnce_0 (by decide) ?_
  refine v_aload_n G dX3_startOnce_1 0 rfl ?_
  refine gf_3_7 G h0 t_106 (Or.inr t_107) dX3_startOnce_2 ?_
  refine v_ishl G dX3_startOnce_5 ?_
  refine v_nmi (fun v1 ev1 => ?_)
  replace hf := lt_e hf ev1
  refine v_istore_n [(1, .int v1), (0, .ref (ad a0))] G dX3_startOnce_6 (by decide) rfl ?_
  refine v_aload_n G dX3_startOnce_7 1 rfl ?_
  refine gf_3_12 G h0 t_92 (Or.inl rfl) dX3_startOnce_8 ?_
  refine v_iload_n G dX3_startOnce_11 0 rfl ?_
  refine v_iand G dX3_startOnce_12 ?_
  obtain ⟨j31, ej31, hf⟩ := lt_j hf
  have hj31 : j31 = some y → KV ad cy x (some (.int y.1), y.2) 31 [(0, .ref (ad a0))] [] M := by
    intro hf
    rw [ej31] at hf
    refine v_aload_n G dX3_startOnce_31 0 rfl ?_
    refine v_iconst (5 : Int32) G dX3_startOnce_32 (by decide) ?_
    obtain ⟨v2, hcv2⟩ : ∃ q, f_X9_fail a0 (5 : Int32) M = q := ⟨_, rfl⟩
    replace hf := lt_e hf hcv2.symm
    refine v_callU (owner := "NoonGuides$TextReader") [.int (5 : Int32)] G (c_X9_fail_L h0 hcv2) h0 (by decide) rfl rfl t_1032 t_1033 t_1036 t_1035 t_2 t_1037 rfl nm_X9_fail (by decide) (by decide) rfl rfl (Nat.le_of_ble_eq_true rfl) dX3_startOnce_33 (kv_ri ?_)
    obtain rfl := Option.some.inj hf
    exact v_zret G (z_X9_fail hcv2) dX3_startOnce_36
  refine v_if_ne 31 G dX3_startOnce_13 (by decide) (fun h7 => ?_) (fun h7 => ?_)
  · replace hf := (if_neg h7).symm.trans hf
    refine v_sub _ [1] rfl ?_
    exact hj31 hf
  · replace hf := (if_pos h7).symm.trans hf
    refine v_aload_n G dX3_startOnce_16 1 rfl ?_
    refine gf_3_7 G h0 t_106 (Or.inr t_107) dX3_startOnce_17 ?_
    refine v_iconst (4 : Int32) G dX3_startOnce_20 (by decide) ?_
    obtain ⟨j37, ej37, hf⟩ := lt_j hf
    have hj37 : j37 = some y → KV ad cy x (some (.int y.1), y.2) 37 [(0, .ref (ad a0)), (1, .int v1)] [] M := by
      intro hf
      rw [ej37] at hf
      refine v_aload_n G dX3_startOnce_37 0 rfl ?_
      refine v_dup G dX3_startOnce_38 rfl ?_
      refine gf_3_12 G h0 t_92 (Or.inl rfl) dX3_startOnce_39 ?_
      refine v_iload_n G dX3_startOnce_42 1 rfl ?_
      refine v_ior G dX3_startOnce_43 ?_
      refine pf_3_12 G h0 t_92 (Or.inl rfl) dX3_startOnce_44 ?_
      refine v_nmM (fun M3 eM3 => ?_)
      replace hf := lt_e hf eM3
      refine v_aload_n G dX3_startOnce_47 0 rfl ?_
      obtain ⟨v4, hcv4, hf⟩ := bd_e hf
      refine v_callU (owner := "NoonGuides$TextReader") [] G (c_X9_skip_L n h0 hcv4) h0 (by decide) rfl rfl t_1038 t_1039 t_1042 t_1041 t_2 t_1043 rfl nm_X9_skip (by decide) (by decide) rfl rfl (Nat.le_of_ble_eq_true rfl) dX3_startOnce_48 (kv_rv ?_)
      refine v_iconst (1 : Int32) G dX3_startOnce_51 (by decide) ?_
      obtain rfl := Option.some.inj hf
      exact v_zret G (Or.inr rfl) dX3_startOnce_52
    refine v_icmp_ne 37 G dX3_startOnce_21 (by decide) (fun h6 => ?_) (fun h6 => ?_)
    · replace hf := (if_neg h6).symm.trans hf
      refine v_sub _ [1, 0] rfl ?_
      exact hj37 hf
    · replace hf := (if_pos h6).symm.trans hf
      refine v_aload_n G dX3_startOnce_24 1 rfl ?_
      refine gf_3_13 G h0 t_93 (Or.inl rfl) dX3_startOnce_25 ?_
      refine v_if_eq 37 G dX3_startOnce_28 (by decide) (fun h5 => ?_) (fun h5 => ?_)
      · replace hf := (if_pos h5).symm.trans hf
        refine v_sub _ [1, 0] rfl ?_
        exact hj37 hf
      · replace hf := (if_neg h5).symm.trans hf
        refine v_sub _ [1] rfl ?_
        exact hj31 hf
abbrev cX3_readGlare : ByteArray := prog_5_method_6_code
def yX3_readGlare : MethodName := ⟨RX3, "readGlare", "(LNoonGuides$Land;)Z"⟩
theorem dX3_readGlare_0 : dc cX3_readGlare 0 (.aload_n 0) 1 1 := ⟨by decide +kernel, rfl⟩
theorem dX3_readGlare_1 : dc cX3_readGlare 1 (.iconst 0) 1 2 := ⟨by decide +kernel, rfl⟩
theorem dX3_readGlare_2 : dc cX3_readGlare 2 (.bipush 23) 2 4 := ⟨by decide +kernel, rfl⟩
theorem dX3_readGlare_4 : dc cX3_readGlare 4 (.invokevirtual 93) 3 7 := ⟨by decide +kernel, rfl⟩
theorem dX3_readGlare_7 : dc cX3_readGlare 7 (.istore_n 2) 1 8 := ⟨by decide +kernel, rfl⟩
theorem dX3_readGlare_8 : dc cX3_readGlare 8 (.iload_n 2) 1 9 := ⟨by decide +kernel, rfl⟩
theorem dX3_readGlare_9 : dc cX3_readGlare 9 (.iconst (-1)) 1 10 := ⟨by decide +kernel, rfl⟩
theorem dX3_readGlare_10 : dc cX3_readGlare 10 (.if_icmp .eq 11) 3 13 := ⟨by decide +kernel, rfl⟩
theorem dX3_readGlare_13 : dc cX3_readGlare 13 (.aload_n 0) 1 14 := ⟨by decide +kernel, rfl⟩
theorem dX3_readGlare_14 : dc cX3_readGlare 14 (.iconst 1) 1 15 := ⟨by decide +kernel, rfl⟩
theorem dX3_readGlare_15 : dc cX3_readGlare 15 (.invokevirtual 97) 3 18 := ⟨by decide +kernel, rfl⟩
theorem dX3_readGlare_18 : dc cX3_readGlare 18 (.ifCond .ne 5) 3 21 := ⟨by decide +kernel, rfl⟩
theorem dX3_readGlare_21 : dc cX3_readGlare 21 (.iconst 0) 1 22 := ⟨by decide +kernel, rfl⟩
theorem dX3_readGlare_22 : dc cX3_readGlare 22 (.ireturn) 1 23 := ⟨by decide +kernel, rfl⟩
theorem dX3_readGlare_23 : dc cX3_readGlare 23 (.aload_n 0) 1 24 := ⟨by decide +kernel, rfl⟩
theorem dX3_readGlare_24 : dc cX3_readGlare 24 (.iload_n 2) 1 25 := ⟨by decide +kernel, rfl⟩
theorem dX3_readGlare_25 : dc cX3_readGlare 25 (.iconst 1) 1 26 := ⟨by decide +kernel, rfl⟩
theorem dX3_readGlare_26 : dc cX3_readGlare 26 (.iadd) 1 27 := ⟨by decide +kernel, rfl⟩
theorem dX3_readGlare_27 : dc cX3_readGlare 27 (.bipush 24) 2 29 := ⟨by decide +kernel, rfl⟩
theorem dX3_readGlare_29 : dc cX3_readGlare 29 (.invokevirtual 93) 3 32 := ⟨by decide +kernel, rfl⟩
theorem dX3_readGlare_32 : dc cX3_readGlare 32 (.istore_n 3) 1 33 := ⟨by decide +kernel, rfl⟩
theorem dX3_readGlare_33 : dc cX3_readGlare 33 (.iload_n 3) 1 34 := ⟨by decide +kernel, rfl⟩
theorem dX3_readGlare_34 : dc cX3_readGlare 34 (.iconst (-1)) 1 35 := ⟨by decide +kernel, rfl⟩
theorem dX3_readGlare_35 : dc cX3_readGlare 35 (.if_icmp .ne 5) 3 38 := ⟨by decide +kernel, rfl⟩
theorem dX3_readGlare_38 : dc cX3_readGlare 38 (.iconst 0) 1 39 := ⟨by decide +kernel, rfl⟩
theorem dX3_readGlare_39 : dc cX3_readGlare 39 (.ireturn) 1 40 := ⟨by decide +kernel, rfl⟩
theorem dX3_readGlare_40 : dc cX3_readGlare 40 (.aload_n 1) 1 41 := ⟨by decide +kernel, rfl⟩
theorem dX3_readGlare_41 : dc cX3_readGlare 41 (.getfield 100) 3 44 := ⟨by decide +kernel, rfl⟩
theorem dX3_readGlare_44 : dc cX3_readGlare 44 (.iload_n 2) 1 45 := ⟨by decide +kernel, rfl⟩
theorem dX3_readGlare_45 : dc cX3_readGlare 45 (.iload_n 3) 1 46 := ⟨by decide +kernel, rfl⟩
theorem dX3_readGlare_46 : dc cX3_readGlare 46 (.invokevirtual 104) 3 49 := ⟨by decide +kernel, rfl⟩
theorem dX3_readGlare_49 : dc cX3_readGlare 49 (.aload_n 0) 1 50 := ⟨by decide +kernel, rfl⟩
theorem dX3_readGlare_50 : dc cX3_readGlare 50 (.invokevirtual 110) 3 53 := ⟨by decide +kernel, rfl⟩
theorem dX3_readGlare_53 : dc cX3_readGlare 53 (.ireturn) 1 54 := ⟨by decide +kernel, rfl⟩
theorem nm_X3_readGlare : (yX3_readGlare).cls ≠ "java/lang/invoke/MethodHandle" ∧ (yX3_readGlare).cls ≠ "java/lang/invoke/VarHandle" ∧ (parseMethodDescriptor (yX3_readGlare).desc).map (fun d => d.parameters.length) = some 1 := ⟨by decide +kernel, by decide +kernel, by decide +kernel⟩
set_option maxRecDepth 100000 in
theorem z_X3_readGlare (n : Nat) {a0 : Nat} {a1 : Nat} {M : KM} {y : (Int32 × KM)} (hf : f_X3_readGlare n a0 a1 M = some y) : (y.1 = 0 ∨ y.1 = 1) := by
  unfold f_X3_readGlare at hf
  obtain ⟨v1, hcv1, hf⟩ := bd_e hf
  by_cases h8 : v1.1 = (-1 : Int32)
  · replace hf := (if_pos h8).symm.trans hf
    obtain rfl := Option.some.inj hf
    exact (Or.inl rfl)
  · replace hf := (if_neg h8).symm.trans hf
    obtain ⟨v2, hcv2, hf⟩ := bd_e hf
    by_cases h7 : v2.1 = 0
    · replace hf := (if_pos h7).symm.trans hf
      obtain rfl := Option.some.inj hf
      exact (Or.inl rfl)
    · replace hf := (if_neg h7).symm.trans hf
      obtain ⟨v3, hcv3, hf⟩ := bd_e hf
      by_cases h6 : v3.1 = (-1 : Int32)
      · replace hf := (if_pos h6).symm.trans hf
        obtain rfl := Option.some.inj hf
        exact (Or.inl rfl)
      · replace hf := (if_neg h6).symm.trans hf
        obtain ⟨v4, hcv4⟩ : ∃ q, f_X1_set (a1 + 7) v1.1 v3.1 v3.2 = q := ⟨_, rfl⟩
        replace hf := lt_e hf hcv4.symm
        obtain ⟨v5, hcv5, hf⟩ := bd_e hf
        obtain rfl := Option.some.inj hf
        exact (z_X9_takeSemicolon n hcv5)
set_option maxRecDepth 100000 in
set_option maxHeartbeats 4000000 in
theorem c_X3_readGlare {l : Launch} {ad : Nat → Nat} {cy : Nat → ClassId} {D : va_G} {z : Nat} (n : Nat) {a0 : Nat} {a1 : Nat} {M : KM} {y : (Int32 × KM)} (h0 : kty a0 = 4) (h1 : kty a1 = 3) (hf : f_X3_readGlare n a0 a1 M = some y) : KC l ad cy D z yX3_readGlare cX3_readGlare 4 (some .boolean) 5 [.ref (ad a0), .ref (ad a1)] M (some (.int y.1), y.2) := by
  refine kv_enter (by decide +kernel) (Nat.le_of_ble_eq_true rfl) ?_
  intro x hl hD hz G
  subst hl hD hz
  unfold f_X3_readGlare at hf
  have G : KG ad cy x cX3_readGlare "NoonGuides$LandReader" 4 (some (some .boolean)) 5 := G
  show KV ad cy x (some (.int y.1), y.2) 0 [(0, .ref (ad a0)), (1, .ref (ad a1))] [] M
  refine v_aload_n G dX3_readGlare_0 0 rfl ?_
  refine v_iconst (0 : Int32) G dX3_readGlare_1 (by decide) ?_
  refine v_bipush (23 : Int32) G dX3_readGlare_2 (by decide) ?_
  obtain ⟨v1, hcv1, hf⟩ := bd_e hf
  refine v_callU (owner := "NoonGuides$TextReader") [.int (0 : Int32), .int (23 : Int32)] G (c_X9_takeNumber_L n h0 hcv1) h0 (by decide) rfl rfl t_1048 t_1049 t_1052 t_1051 t_2 t_1053 rfl nm_X9_takeNumber (by decide) (by decide) rfl rfl (Nat.le_of_ble_eq_true rfl) dX3_readGlare_4 (kv_ri ?_)
  refine v_istore_n [(2, .int v1.1), (0, .ref (ad a0)), (1, .ref (ad a1))] G dX3_readGlare_7 (by decide) rfl ?_
  refine v_iload_n G dX3_readGlare_8 0 rfl ?_
  refine v_iconst (-1 : Int32) G dX3_readGlare_9 (by decide) ?_
  refine v_icmp_eq 21 G dX3_readGlare_10 (by decide) (fun h8 => ?_) (fun h8 => ?_)
  · replace hf := (if_pos h8).symm.trans hf
    refine v_iconst (0 : Int32) G dX3_readGlare_21 (by decide) ?_
    obtain rfl := Option.some.inj hf
    exact v_zret G (Or.inl rfl) dX3_readGlare_22
  · replace hf := (if_neg h8).symm.trans hf
    refine v_aload_n G dX3_readGlare_13 1 rfl ?_
    refine v_iconst (1 : Int32) G dX3_readGlare_14 (by decide) ?_
    obtain ⟨v2, hcv2, hf⟩ := bd_e hf
    refine v_callU (owner := "NoonGuides$TextReader") [.int (1 : Int32)] G (c_X9_takeWord_L n h0 hcv2) h0 (by decide) rfl rfl t_1061 t_1062 t_1065 t_1064 t_2 t_1066 rfl nm_X9_takeWord (by decide) (by decide) rfl rfl (Nat.le_of_ble_eq_true rfl) dX3_readGlare_15 (kv_ri ?_)
    refine v_if_ne 23 G dX3_readGlare_18 (by decide) (fun h7 => ?_) (fun h7 => ?_)
    · replace hf := (if_neg h7).symm.trans hf
      refine v_aload_n G dX3_readGlare_23 1 rfl ?_
      refine v_iload_n G dX3_readGlare_24 0 rfl ?_
      refine v_iconst (1 : Int32) G dX3_readGlare_25 (by decide) ?_
      refine v_iadd G dX3_readGlare_26 ?_
      refine v_bipush (24 : Int32) G dX3_readGlare_27 (by decide) ?_
      obtain ⟨v3, hcv3, hf⟩ := bd_e hf
      refine v_callU (owner := "NoonGuides$TextReader") [.int (v1.1 + (1 : Int32)), .int (24 : Int32)] G (c_X9_takeNumber_L n h0 hcv3) h0 (by decide) rfl rfl t_1048 t_1049 t_1052 t_1051 t_2 t_1053 rfl nm_X9_takeNumber (by decide) (by decide) rfl rfl (Nat.le_of_ble_eq_true rfl) dX3_readGlare_29 (kv_ri ?_)
      refine v_istore_n [(3, .int v3.1), (2, .int v1.1), (0, .ref (ad a0)), (1, .ref (ad a1))] G dX3_readGlare_32 (by decide) rfl ?_
      refine v_iload_n G dX3_readGlare_33 0 rfl ?_
      refine v_iconst (-1 : Int32) G dX3_readGlare_34 (by decide) ?_
      refine v_icmp_ne 40 G dX3_readGlare_35 (by decide) (fun h6 => ?_) (fun h6 => ?_)
      · replace hf := (if_neg h6).symm.trans hf
        refine v_aload_n G dX3_readGlare_40 3 rfl ?_
        refine gf_2_6 G h1 t_377 (Or.inl rfl) dX3_readGlare_41 ?_
        refine v_iload_n G dX3_readGlare_44 1 rfl ?_
        refine v_iload_n G dX3_readGlare_45 0 rfl ?_
        obtain ⟨v4, hcv4⟩ : ∃ q, f_X1_set (a1 + 7) v1.1 v3.1 v3.2 = q := ⟨_, rfl⟩
        replace hf := lt_e hf hcv4.symm
        refine v_callV [.int v1.1, .int v3.1] G (c_X1_set (kf_2_7 h1) hcv4) (kf_2_7 h1) (by decide) rfl rfl rfl t_1073 t_901 t_902 t_12 t_903 nm_X1_set (by decide) (by decide) rfl rfl (Nat.le_of_ble_eq_true rfl) dX3_readGlare_46 (kv_rv ?_)
        refine v_aload_n G dX3_readGlare_49 2 rfl ?_
        obtain ⟨v5, hcv5, hf⟩ := bd_e hf
        refine v_callU (owner := "NoonGuides$TextReader") [] G (c_X9_takeSemicolon_L n h0 hcv5) h0 (by decide) rfl rfl t_1074 t_1075 t_1078 t_1077 t_2 t_1079 rfl nm_X9_takeSemicolon (by decide) (by decide) rfl rfl (Nat.le_of_ble_eq_true rfl) dX3_readGlare_50 (kv_ri ?_)
        obtain rfl := Option.some.inj hf
        exact v_zret G (z_X9_takeSemicolon n hcv5) dX3_readGlare_53
      · replace hf := (if_pos h6).symm.trans hf
        refine v_iconst (0 : Int32) G dX3_readGlare_38 (by decide) ?_
        obtain rfl := Option.some.inj hf
        exact v_zret G (Or.inl rfl) dX3_readGlare_39
    · replace hf := (if_pos h7).symm.trans hf
      refine v_iconst (0 : Int32) G dX3_readGlare_21 (by decide) ?_
      obtain rfl := Option.some.inj hf
      exact v_zret G (Or.inl rfl) dX3_readGlare_22
abbrev cX3_readClock : ByteArray := prog_5_method_7_code
def yX3_readClock : MethodName := ⟨RX3, "readClock", "(LNoonGuides$Land;)Z"⟩
theorem dX3_readClock_0 : dc cX3_readClock 0 (.aload_n 1) 1 1 := ⟨by decide +kernel, rfl⟩
theorem dX3_readClock_1 : dc cX3_readClock 1 (.aload_n 0) 1 2 := ⟨by decide +kernel, rfl⟩
theorem dX3_readClock_2 : dc cX3_readClock 2 (.iconst 0) 1 3 := ⟨by decide +kernel, rfl⟩
theorem dX3_readClock_3 : dc cX3_readClock 3 (.sipush 1439) 3 6 := ⟨by decide +kernel, rfl⟩
theorem dX3_readClock_6 : dc cX3_readClock 6 (.invokevirtual 93) 3 9 := ⟨by decide +kernel, rfl⟩
theorem dX3_readClock_9 : dc cX3_readClock 9 (.putfield 113) 3 12 := ⟨by decide +kernel, rfl⟩
theorem dX3_readClock_12 : dc cX3_readClock 12 (.aload_n 1) 1 13 := ⟨by decide +kernel, rfl⟩
theorem dX3_readClock_13 : dc cX3_readClock 13 (.getfield 113) 3 16 := ⟨by decide +kernel, rfl⟩
theorem dX3_readClock_16 : dc cX3_readClock 16 (.iconst (-1)) 1 17 := ⟨by decide +kernel, rfl⟩
theorem dX3_readClock_17 : dc cX3_readClock 17 (.if_icmp .eq 14) 3 20 := ⟨by decide +kernel, rfl⟩
theorem dX3_readClock_20 : dc cX3_readClock 20 (.aload_n 0) 1 21 := ⟨by decide +kernel, rfl⟩
theorem dX3_readClock_21 : dc cX3_readClock 21 (.invokevirtual 110) 3 24 := ⟨by decide +kernel, rfl⟩
theorem dX3_readClock_24 : dc cX3_readClock 24 (.ifCond .eq 7) 3 27 := ⟨by decide +kernel, rfl⟩
theorem dX3_readClock_27 : dc cX3_readClock 27 (.iconst 1) 1 28 := ⟨by decide +kernel, rfl⟩
theorem dX3_readClock_28 : dc cX3_readClock 28 (.goto 4) 3 31 := ⟨by decide +kernel, rfl⟩
theorem dX3_readClock_31 : dc cX3_readClock 31 (.iconst 0) 1 32 := ⟨by decide +kernel, rfl⟩
theorem dX3_readClock_32 : dc cX3_readClock 32 (.ireturn) 1 33 := ⟨by decide +kernel, rfl⟩
theorem nm_X3_readClock : (yX3_readClock).cls ≠ "java/lang/invoke/MethodHandle" ∧ (yX3_readClock).cls ≠ "java/lang/invoke/VarHandle" ∧ (parseMethodDescriptor (yX3_readClock).desc).map (fun d => d.parameters.length) = some 1 := ⟨by decide +kernel, by decide +kernel, by decide +kernel⟩
set_option maxRecDepth 100000 in
theorem z_X3_readClock (n : Nat) {a0 : Nat} {a1 : Nat} {M : KM} {y : (Int32 × KM)} (hf : f_X3_readClock n a0 a1 M = some y) : (y.1 = 0 ∨ y.1 = 1) := by
  unfold f_X3_readClock at hf
  obtain ⟨v1, hcv1, hf⟩ := bd_e hf
  obtain ⟨M2, eM2⟩ : ∃ q : KM, q = (uI v1.2 a1 11 v1.1) := ⟨_, rfl⟩
  replace hf := lt_e hf eM2
  by_cases h5 : (M2.1 a1 11) = (-1 : Int32)
  · replace hf := (if_pos h5).symm.trans hf
    obtain rfl := Option.some.inj hf
    exact (Or.inl rfl)
  · replace hf := (if_neg h5).symm.trans hf
    obtain ⟨v3, hcv3, hf⟩ := bd_e hf
    by_cases h4 : v3.1 = 0
    · replace hf := (if_pos h4).symm.trans hf
      obtain rfl := Option.some.inj hf
      exact (Or.inl rfl)
    · replace hf := (if_neg h4).symm.trans hf
      obtain rfl := Option.some.inj hf
      exact (Or.inr rfl)
set_option maxRecDepth 100000 in
set_option maxHeartbeats 4000000 in
theorem c_X3_readClock {l : Launch} {ad : Nat → Nat} {cy : Nat → ClassId} {D : va_G} {z : Nat} (n : Nat) {a0 : Nat} {a1 : Nat} {M : KM} {y : (Int32 × KM)} (h0 : kty a0 = 4) (h1 : kty a1 = 3) (hf : f_X3_readClock n a0 a1 M = some y) : KC l ad cy D z yX3_readClock cX3_readClock 2 (some .boolean) 4 [.ref (ad a0), .ref (ad a1)] M (some (.int y.1), y.2) := by
  refine kv_enter (by decide +kernel) (Nat.le_of_ble_eq_true rfl) ?_
  intro x hl hD hz G
  subst hl hD hz
  unfold f_X3_readClock at hf
  have G : KG ad cy x cX3_readClock "NoonGuides$LandReader" 2 (some (some .boolean)) 4 := G
  show KV ad cy x (some (.int y.1), y.2) 0 [(0, .ref (ad a0)), (1, .ref (ad a1))] [] M
  refine v_aload_n G dX3_readClock_0 1 rfl ?_
  refine v_aload_n G dX3_readClock_1 0 rfl ?_
  refine v_iconst (0 : Int32) G dX3_readClock_2 (by decide) ?_
  refine v_sipush (1439 : Int32) G dX3_readClock_3 (by decide) ?_
  obtain ⟨v1, hcv1, hf⟩ := bd_e hf
  refine v_callU (owner := "NoonGuides$TextReader") [.int (0 : Int32), .int (1439 : Int32)] G (c_X9_takeNumber_L n h0 hcv1) h0 (by decide) rfl rfl t_1048 t_1049 t_1052 t_1051 t_2 t_1053 rfl nm_X9_takeNumber (by decide) (by decide) rfl rfl (Nat.le_of_ble_eq_true rfl) dX3_readClock_6 (kv_ri ?_)
  refine pf_2_11 G h1 t_395 (Or.inl rfl) dX3_readClock_9 ?_
  refine v_nmM (fun M2 eM2 => ?_)
  replace hf := lt_e hf eM2
  refine v_aload_n G dX3_readClock_12 1 rfl ?_
  refine gf_2_11 G h1 t_395 (Or.inl rfl) dX3_readClock_13 ?_
  refine v_iconst (-1 : Int32) G dX3_readClock_16 (by decide) ?_
  refine v_icmp_eq 31 G dX3_readClock_17 (by decide) (fun h5 => ?_) (fun h5 => ?_)
  · replace hf := (if_pos h5).symm.trans hf
    refine v_iconst (0 : Int32) G dX3_readClock_31 (by decide) ?_
    obtain rfl := Option.some.inj hf
    exact v_zret G (Or.inl rfl) dX3_readClock_32
  · replace hf := (if_neg h5).symm.trans hf
    refine v_aload_n G dX3_readClock_20 0 rfl ?_
    obtain ⟨v3, hcv3, hf⟩ := bd_e hf
    refine v_callU (owner := "NoonGuides$TextReader") [] G (c_X9_takeSemicolon_L n h0 hcv3) h0 (by decide) rfl rfl t_1074 t_1075 t_1078 t_1077 t_2 t_1079 rfl nm_X9_takeSemicolon (by decide) (by decide) rfl rfl (Nat.le_of_ble_eq_true rfl) dX3_readClock_21 (kv_ri ?_)
    refine v_if_eq 31 G dX3_readClock_24 (by decide) (fun h4 => ?_) (fun h4 => ?_)
    · replace hf := (if_pos h4).symm.trans hf
      refine v_iconst (0 : Int32) G dX3_readClock_31 (by decide) ?_
      obtain rfl := Option.some.inj hf
      exact v_zret G (Or.inl rfl) dX3_readClock_32
    · replace hf := (if_neg h4).symm.trans hf
      refine v_iconst (1 : Int32) G dX3_readClock_27 (by decide) ?_
      refine v_goto 32 G dX3_readClock_28 (by decide) ?_
      obtain rfl := Option.some.inj hf
      exact v_zret G (Or.inr rfl) dX3_readClock_32
abbrev cX3_readRope : ByteArray := prog_5_method_8_code
def yX3_readRope : MethodName := ⟨RX3, "readRope", "(LNoonGuides$Land;)Z"⟩
theorem dX3_readRope_0 : dc cX3_readRope 0 (.aload_n 1) 1 1 := ⟨by decide +kernel, rfl⟩
theorem dX3_readRope_1 : dc cX3_readRope 1 (.aload_n 0) 1 2 := ⟨by decide +kernel, rfl⟩
theorem dX3_readRope_2 : dc cX3_readRope 2 (.iconst 1) 1 3 := ⟨by decide +kernel, rfl⟩
theorem dX3_readRope_3 : dc cX3_readRope 3 (.bipush 9) 2 5 := ⟨by decide +kernel, rfl⟩
theorem dX3_readRope_5 : dc cX3_readRope 5 (.invokevirtual 93) 3 8 := ⟨by decide +kernel, rfl⟩
theorem dX3_readRope_8 : dc cX3_readRope 8 (.putfield 116) 3 11 := ⟨by decide +kernel, rfl⟩
theorem dX3_readRope_11 : dc cX3_readRope 11 (.aload_n 1) 1 12 := ⟨by decide +kernel, rfl⟩
theorem dX3_readRope_12 : dc cX3_readRope 12 (.getfield 116) 3 15 := ⟨by decide +kernel, rfl⟩
theorem dX3_readRope_15 : dc cX3_readRope 15 (.iconst (-1)) 1 16 := ⟨by decide +kernel, rfl⟩
theorem dX3_readRope_16 : dc cX3_readRope 16 (.if_icmp .eq 14) 3 19 := ⟨by decide +kernel, rfl⟩
theorem dX3_readRope_19 : dc cX3_readRope 19 (.aload_n 0) 1 20 := ⟨by decide +kernel, rfl⟩
theorem dX3_readRope_20 : dc cX3_readRope 20 (.invokevirtual 110) 3 23 := ⟨by decide +kernel, rfl⟩
theorem dX3_readRope_23 : dc cX3_readRope 23 (.ifCond .eq 7) 3 26 := ⟨by decide +kernel, rfl⟩
theorem dX3_readRope_26 : dc cX3_readRope 26 (.iconst 1) 1 27 := ⟨by decide +kernel, rfl⟩
theorem dX3_readRope_27 : dc cX3_readRope 27 (.goto 4) 3 30 := ⟨by decide +kernel, rfl⟩
theorem dX3_readRope_30 : dc cX3_readRope 30 (.iconst 0) 1 31 := ⟨by decide +kernel, rfl⟩
theorem dX3_readRope_31 : dc cX3_readRope 31 (.ireturn) 1 32 := ⟨by decide +kernel, rfl⟩
theorem nm_X3_readRope : (yX3_readRope).cls ≠ "java/lang/invoke/MethodHandle" ∧ (yX3_readRope).cls ≠ "java/lang/invoke/VarHandle" ∧ (parseMethodDescriptor (yX3_readRope).desc).map (fun d => d.parameters.length) = some 1 := ⟨by decide +kernel, by decide +kernel, by decide +kernel⟩
set_option maxRecDepth 100000 in
theorem z_X3_readRope (n : Nat) {a0 : Nat} {a1 : Nat} {M : KM} {y : (Int32 × KM)} (hf : f_X3_readRope n a0 a1 M = some y) : (y.1 = 0 ∨ y.1 = 1) := by
  unfold f_X3_readRope at hf
  obtain ⟨v1, hcv1, hf⟩ := bd_e hf
  obtain ⟨M2, eM2⟩ : ∃ q : KM, q = (uI v1.2 a1 12 v1.1) := ⟨_, rfl⟩
  replace hf := lt_e hf eM2
  by_cases h5 : (M2.1 a1 12) = (-1 : Int32)
  · replace hf := (if_pos h5).symm.trans hf
    obtain rfl := Option.some.inj hf
    exact (Or.inl rfl)
  · replace hf := (if_neg h5).symm.trans hf
    obtain ⟨v3, hcv3, hf⟩ := bd_e hf
    by_cases h4 : v3.1 = 0
    · replace hf := (if_pos h4).symm.trans hf
      obtain rfl := Option.some.inj hf
      exact (Or.inl rfl)
    · replace hf := (if_neg h4).symm.trans hf
      obtain rfl := Option.some.inj hf
      exact (Or.inr rfl)
set_option maxRecDepth 100000 in
set_option maxHeartbeats 4000000 in
theorem c_X3_readRope {l : Launch} {ad : Nat → Nat} {cy : Nat → ClassId} {D : va_G} {z : Nat} (n : Nat) {a0 : Nat} {a1 : Nat} {M : KM} {y : (Int32 × KM)} (h0 : kty a0 = 4) (h1 : kty a1 = 3) (hf : f_X3_readRope n a0 a1 M = some y) : KC l ad cy D z yX3_readRope cX3_readRope 2 (some .boolean) 4 [.ref (ad a0), .ref (ad a1)] M (some (.int y.1), y.2) := by
  refine kv_enter (by decide +kernel) (Nat.le_of_ble_eq_true rfl) ?_
  intro x hl hD hz G
  subst hl hD hz
  unfold f_X3_readRope at hf
  have G : KG ad cy x cX3_readRope "NoonGuides$LandReader" 2 (some (some .boolean)) 4 := G
  show KV ad cy x (some (.int y.1), y.2) 0 [(0, .ref (ad a0)), (1, .ref (ad a1))] [] M
  refine v_aload_n G dX3_readRope_0 1 rfl ?_
  refine v_aload_n G dX3_readRope_1 0 rfl ?_
  refine v_iconst (1 : Int32) G dX3_readRope_2 (by decide) ?_
  refine v_bipush (9 : Int32) G dX3_readRope_3 (by decide) ?_
  obtain ⟨v1, hcv1, hf⟩ := bd_e hf
  refine v_callU (owner := "NoonGuides$TextReader") [.int (1 : Int32), .int (9 : Int32)] G (c_X9_takeNumber_L n h0 hcv1) h0 (by decide) rfl rfl t_1048 t_1049 t_1052 t_1051 t_2 t_1053 rfl nm_X9_takeNumber (by decide) (by decide) rfl rfl (Nat.le_of_ble_eq_true rfl) dX3_readRope_5 (kv_ri ?_)
  refine pf_2_12 G h1 t_398 (Or.inl rfl) dX3_readRope_8 ?_
  refine v_nmM (fun M2 eM2 => ?_)
  replace hf := lt_e hf eM2
  refine v_aload_n G dX3_readRope_11 1 rfl ?_
  refine gf_2_12 G h1 t_398 (Or.inl rfl) dX3_readRope_12 ?_
  refine v_iconst (-1 : Int32) G dX3_readRope_15 (by decide) ?_
  refine v_icmp_eq 30 G dX3_readRope_16 (by decide) (fun h5 => ?_) (fun h5 => ?_)
  · replace hf := (if_pos h5).symm.trans hf
    refine v_iconst (0 : Int32) G dX3_readRope_30 (by decide) ?_
    obtain rfl := Option.some.inj hf
    exact v_zret G (Or.inl rfl) dX3_readRope_31
  · replace hf := (if_neg h5).symm.trans hf
    refine v_aload_n G dX3_readRope_19 0 rfl ?_
    obtain ⟨v3, hcv3, hf⟩ := bd_e hf
    refine v_callU (owner := "NoonGuides$TextReader") [] G (c_X9_takeSemicolon_L n h0 hcv3) h0 (by decide) rfl rfl t_1074 t_1075 t_1078 t_1077 t_2 t_1079 rfl nm_X9_takeSemicolon (by decide) (by decide) rfl rfl (Nat.le_of_ble_eq_true rfl) dX3_readRope_20 (kv_ri ?_)
    refine v_if_eq 30 G dX3_readRope_23 (by decide) (fun h4 => ?_) (fun h4 => ?_)
    · replace hf := (if_pos h4).symm.trans hf
      refine v_iconst (0 : Int32) G dX3_readRope_30 (by decide) ?_
      obtain rfl := Option.some.inj hf
      exact v_zret G (Or.inl rfl) dX3_readRope_31
    · replace hf := (if_neg h4).symm.trans hf
      refine v_iconst (1 : Int32) G dX3_readRope_26 (by decide) ?_
      refine v_goto 31 G dX3_readRope_27 (by decide) ?_
      obtain rfl := Option.some.inj hf
      exact v_zret G (Or.inr rfl) dX3_readRope_31
abbrev cX3_readHabit : ByteArray := prog_5_method_9_code
def yX3_readHabit : MethodName := ⟨RX3, "readHabit", "(LNoonGuides$Land;)Z"⟩
theorem dX3_readHabit_0 : dc cX3_readHabit 0 (.aload_n 1) 1 1 := ⟨by decide +kernel, rfl⟩
theorem dX3_readHabit_1 : dc cX3_readHabit 1 (.aload_n 0) 1 2 := ⟨by decide +kernel, rfl⟩
theorem dX3_readHabit_2 : dc cX3_readHabit 2 (.iconst 1) 1 3 := ⟨by decide +kernel, rfl⟩
theorem dX3_readHabit_3 : dc cX3_readHabit 3 (.bipush 9) 2 5 := ⟨by decide +kernel, rfl⟩
theorem dX3_readHabit_5 : dc cX3_readHabit 5 (.invokevirtual 93) 3 8 := ⟨by decide +kernel, rfl⟩
theorem dX3_readHabit_8 : dc cX3_readHabit 8 (.putfield 119) 3 11 := ⟨by decide +kernel, rfl⟩
theorem dX3_readHabit_11 : dc cX3_readHabit 11 (.aload_n 1) 1 12 := ⟨by decide +kernel, rfl⟩
theorem dX3_readHabit_12 : dc cX3_readHabit 12 (.getfield 119) 3 15 := ⟨by decide +kernel, rfl⟩
theorem dX3_readHabit_15 : dc cX3_readHabit 15 (.iconst (-1)) 1 16 := ⟨by decide +kernel, rfl⟩
theorem dX3_readHabit_16 : dc cX3_readHabit 16 (.if_icmp .eq 14) 3 19 := ⟨by decide +kernel, rfl⟩
theorem dX3_readHabit_19 : dc cX3_readHabit 19 (.aload_n 0) 1 20 := ⟨by decide +kernel, rfl⟩
theorem dX3_readHabit_20 : dc cX3_readHabit 20 (.invokevirtual 110) 3 23 := ⟨by decide +kernel, rfl⟩
theorem dX3_readHabit_23 : dc cX3_readHabit 23 (.ifCond .eq 7) 3 26 := ⟨by decide +kernel, rfl⟩
theorem dX3_readHabit_26 : dc cX3_readHabit 26 (.iconst 1) 1 27 := ⟨by decide +kernel, rfl⟩
theorem dX3_readHabit_27 : dc cX3_readHabit 27 (.goto 4) 3 30 := ⟨by decide +kernel, rfl⟩
theorem dX3_readHabit_30 : dc cX3_readHabit 30 (.iconst 0) 1 31 := ⟨by decide +kernel, rfl⟩
theorem dX3_readHabit_31 : dc cX3_readHabit 31 (.ireturn) 1 32 := ⟨by decide +kernel, rfl⟩
theorem nm_X3_readHabit : (yX3_readHabit).cls ≠ "java/lang/invoke/MethodHandle" ∧ (yX3_readHabit).cls ≠ "java/lang/invoke/VarHandle" ∧ (parseMethodDescriptor (yX3_readHabit).desc).map (fun d => d.parameters.length) = some 1 := ⟨by decide +kernel, by decide +kernel, by decide +kernel⟩
set_option maxRecDepth 100000 in
theorem z_X3_readHabit (n : Nat) {a0 : Nat} {a1 : Nat} {M : KM} {y : (Int32 × KM)} (hf : f_X3_readHabit n a0 a1 M = some y) : (y.1 = 0 ∨ y.1 = 1) := by
  unfold f_X3_readHabit at hf
  obtain ⟨v1, hcv1, hf⟩ := bd_e hf
  obtain ⟨M2, eM2⟩ : ∃ q : KM, q = (uI v1.2 a1 13 v1.1) := ⟨_, rfl⟩
  replace hf := lt_e hf eM2
  by_cases h5 : (M2.1 a1 13) = (-1 : Int32)
  · replace hf := (if_pos h5).symm.trans hf
    obtain rfl := Option.some.inj hf
    exact (Or.inl rfl)
  · replace hf := (if_neg h5).symm.trans hf
    obtain ⟨v3, hcv3, hf⟩ := bd_e hf
    by_cases h4 : v3.1 = 0
    · replace hf := (if_pos h4).symm.trans hf
      obtain rfl := Option.some.inj hf
      exact (Or.inl rfl)
    · replace hf := (if_neg h4).symm.trans hf
      obtain rfl := Option.some.inj hf
      exact (Or.inr rfl)
set_option maxRecDepth 100000 in
set_option maxHeartbeats 4000000 in
theorem c_X3_readHabit {l : Launch} {ad : Nat → Nat} {cy : Nat → ClassId} {D : va_G} {z : Nat} (n : Nat) {a0 : Nat} {a1 : Nat} {M : KM} {y : (Int32 × KM)} (h0 : kty a0 = 4) (h1 : kty a1 = 3) (hf : f_X3_readHabit n a0 a1 M = some y) : KC l ad cy D z yX3_readHabit cX3_readHabit 2 (some .boolean) 4 [.ref (ad a0), .ref (ad a1)] M (some (.int y.1), y.2) := by
  refine kv_enter (by decide +kernel) (Nat.le_of_ble_eq_true rfl) ?_
  intro x hl hD hz G
  subst hl hD hz
  unfold f_X3_readHabit at hf
  have G : KG ad cy x cX3_readHabit "NoonGuides$LandReader" 2 (some (some .boolean)) 4 := G
  show KV ad cy x (some (.int y.1), y.2) 0 [(0, .ref (ad a0)), (1, .ref (ad a1))] [] M
  refine v_aload_n G dX3_readHabit_0 1 rfl ?_
  refine v_aload_n G dX3_readHabit_1 0 rfl ?_
  refine v_iconst (1 : Int32) G dX3_readHabit_2 (by decide) ?_
  refine v_bipush (9 : Int32) G dX3_readHabit_3 (by decide) ?_
  obtain ⟨v1, hcv1, hf⟩ := bd_e hf
  refine v_callU (owner := "NoonGuides$TextReader") [.int (1 : Int32), .int (9 : Int32)] G (c_X9_takeNumber_L n h0 hcv1) h0 (by decide) rfl rfl t_1048 t_1049 t_1052 t_1051 t_2 t_1053 rfl nm_X9_takeNumber (by decide) (by decide) rfl rfl (Nat.le_of_ble_eq_true rfl) dX3_readHabit_5 (kv_ri ?_)
  refine pf_2_13 G h1 t_401 (Or.inl rfl) dX3_readHabit_8 ?_
  refine v_nmM (fun M2 eM2 => ?_)
  replace hf := lt_e hf eM2
  refine v_aload_n G dX3_readHabit_11 1 rfl ?_
  refine gf_2_13 G h1 t_401 (Or.inl rfl) dX3_readHabit_12 ?_
  refine v_iconst (-1 : Int32) G dX3_readHabit_15 (by decide) ?_
  refine v_icmp_eq 30 G dX3_readHabit_16 (by decide) (fun h5 => ?_) (fun h5 => ?_)
  · replace hf := (if_pos h5).symm.trans hf
    refine v_iconst (0 : Int32) G dX3_readHabit_30 (by decide) ?_
    obtain rfl := Option.some.inj hf
    exact v_zret G (Or.inl rfl) dX3_readHabit_31
  · replace hf := (if_neg h5).symm.trans hf
    refine v_aload_n G dX3_readHabit_19 0 rfl ?_
    obtain ⟨v3, hcv3, hf⟩ := bd_e hf
    refine v_callU (owner := "NoonGuides$TextReader") [] G (c_X9_takeSemicolon_L n h0 hcv3) h0 (by decide) rfl rfl t_1074 t_1075 t_1078 t_1077 t_2 t_1079 rfl nm_X9_takeSemicolon (by decide) (by decide) rfl rfl (Nat.le_of_ble_eq_true rfl) dX3_readHabit_20 (kv_ri ?_)
    refine v_if_eq 30 G dX3_readHabit_23 (by decide) (fun h4 => ?_) (fun h4 => ?_)
    · replace hf := (if_pos h4).symm.trans hf
      refine v_iconst (0 : Int32) G dX3_readHabit_30 (by decide) ?_
      obtain rfl := Option.some.inj hf
      exact v_zret G (Or.inl rfl) dX3_readHabit_31
    · replace hf := (if_neg h4).symm.trans hf
      refine v_iconst (1 : Int32) G dX3_readHabit_26 (by decide) ?_
      refine v_goto 31 G dX3_readHabit_27 (by decide) ?_
      obtain rfl := Option.some.inj hf
      exact v_zret G (Or.inr rfl) dX3_readHabit_31
abbrev cX3_readOdds : ByteArray := prog_5_method_10_code
def yX3_readOdds : MethodName := ⟨RX3, "readOdds", "(LNoonGuides$Land;)Z"⟩
theorem dX3_readOdds_0 : dc cX3_readOdds 0 (.aload_n 1) 1 1 := ⟨by decide +kernel, rfl⟩
theorem dX3_readOdds_1 : dc cX3_readOdds 1 (.aload_n 0) 1 2 := ⟨by decide +kernel, rfl⟩
theorem dX3_readOdds_2 : dc cX3_readOdds 2 (.iconst 0) 1 3 := ⟨by decide +kernel, rfl⟩
theorem dX3_readOdds_3 : dc cX3_readOdds 3 (.bipush 16) 2 5 := ⟨by decide +kernel, rfl⟩
theorem dX3_readOdds_5 : dc cX3_readOdds 5 (.invokevirtual 93) 3 8 := ⟨by decide +kernel, rfl⟩
theorem dX3_readOdds_8 : dc cX3_readOdds 8 (.putfield 122) 3 11 := ⟨by decide +kernel, rfl⟩
theorem dX3_readOdds_11 : dc cX3_readOdds 11 (.aload_n 1) 1 12 := ⟨by decide +kernel, rfl⟩
theorem dX3_readOdds_12 : dc cX3_readOdds 12 (.getfield 122) 3 15 := ⟨by decide +kernel, rfl⟩
theorem dX3_readOdds_15 : dc cX3_readOdds 15 (.iconst (-1)) 1 16 := ⟨by decide +kernel, rfl⟩
theorem dX3_readOdds_16 : dc cX3_readOdds 16 (.if_icmp .eq 14) 3 19 := ⟨by decide +kernel, rfl⟩
theorem dX3_readOdds_19 : dc cX3_readOdds 19 (.aload_n 0) 1 20 := ⟨by decide +kernel, rfl⟩
theorem dX3_readOdds_20 : dc cX3_readOdds 20 (.invokevirtual 110) 3 23 := ⟨by decide +kernel, rfl⟩
theorem dX3_readOdds_23 : dc cX3_readOdds 23 (.ifCond .eq 7) 3 26 := ⟨by decide +kernel, rfl⟩
theorem dX3_readOdds_26 : dc cX3_readOdds 26 (.iconst 1) 1 27 := ⟨by decide +kernel, rfl⟩
theorem dX3_readOdds_27 : dc cX3_readOdds 27 (.goto 4) 3 30 := ⟨by decide +kernel, rfl⟩
theorem dX3_readOdds_30 : dc cX3_readOdds 30 (.iconst 0) 1 31 := ⟨by decide +kernel, rfl⟩
theorem dX3_readOdds_31 : dc cX3_readOdds 31 (.ireturn) 1 32 := ⟨by decide +kernel, rfl⟩
theorem nm_X3_readOdds : (yX3_readOdds).cls ≠ "java/lang/invoke/MethodHandle" ∧ (yX3_readOdds).cls ≠ "java/lang/invoke/VarHandle" ∧ (parseMethodDescriptor (yX3_readOdds).desc).map (fun d => d.parameters.length) = some 1 := ⟨by decide +kernel, by decide +kernel, by decide +kernel⟩
set_option maxRecDepth 100000 in
theorem z_X3_readOdds (n : Nat) {a0 : Nat} {a1 : Nat} {M : KM} {y : (Int32 × KM)} (hf : f_X3_readOdds n a0 a1 M = some y) : (y.1 = 0 ∨ y.1 = 1) := by
  unfold f_X3_readOdds at hf
  obtain ⟨v1, hcv1, hf⟩ := bd_e hf
  obtain ⟨M2, eM2⟩ : ∃ q : KM, q = (uI v1.2 a1 14 v1.1) := ⟨_, rfl⟩
  replace hf := lt_e hf eM2
  by_cases h5 : (M2.1 a1 14) = (-1 : Int32)
  · replace hf := (if_pos h5).symm.trans hf
    obtain rfl := Option.some.inj hf
    exact (Or.inl rfl)
  · replace hf := (if_neg h5).symm.trans hf
    obtain ⟨v3, hcv3, hf⟩ := bd_e hf
    by_cases h4 : v3.1 = 0
    · replace hf := (if_pos h4).symm.trans hf
      obtain rfl := Option.some.inj hf
      exact (Or.inl rfl)
    · replace hf := (if_neg h4).symm.trans hf
      obtain rfl := Option.some.inj hf
      exact (Or.inr rfl)
set_option maxRecDepth 100000 in
set_option maxHeartbeats 4000000 in
theorem c_X3_readOdds {l : Launch} {ad : Nat → Nat} {cy : Nat → ClassId} {D : va_G} {z : Nat} (n : Nat) {a0 : Nat} {a1 : Nat} {M : KM} {y : (Int32 × KM)} (h0 : kty a0 = 4) (h1 : kty a1 = 3) (hf : f_X3_readOdds n a0 a1 M = some y) : KC l ad cy D z yX3_readOdds cX3_readOdds 2 (some .boolean) 4 [.ref (ad a0), .ref (ad a1)] M (some (.int y.1), y.2) := by
  refine kv_enter (by decide +kernel) (Nat.le_of_ble_eq_true rfl) ?_
  intro x hl hD hz G
  subst hl hD hz
  unfold f_X3_readOdds at hf
  have G : KG ad cy x cX3_readOdds "NoonGuides$LandReader" 2 (some (some .boolean)) 4 := G
  show KV ad cy x (some (.int y.1), y.2) 0 [(0, .ref (ad a0)), (1, .ref (ad a1))] [] M
  refine v_aload_n G dX3_readOdds_0 1 rfl ?_
  refine v_aload_n G dX3_readOdds_1 0 rfl ?_
  refine v_iconst (0 : Int32) G dX3_readOdds_2 (by decide) ?_
  refine v_bipush (16 : Int32) G dX3_readOdds_3 (by decide) ?_
  obtain ⟨v1, hcv1, hf⟩ := bd_e hf
  refine v_callU (owner := "NoonGuides$TextReader") [.int (0 : Int32), .int (16 : Int32)] G (c_X9_takeNumber_L n h0 hcv1) h0 (by decide) rfl rfl t_1048 t_1049 t_1052 t_1051 t_2 t_1053 rfl nm_X9_takeNumber (by decide) (by decide) rfl rfl (Nat.le_of_ble_eq_true rfl) dX3_readOdds_5 (kv_ri ?_)
  refine pf_2_14 G h1 t_404 (Or.inl rfl) dX3_readOdds_8 ?_
  refine v_nmM (fun M2 eM2 => ?_)
  replace hf := lt_e hf eM2
  refine v_aload_n G dX3_readOdds_11 1 rfl ?_
  refine gf_2_14 G h1 t_404 (Or.inl rfl) dX3_readOdds_12 ?_
  refine v_iconst (-1 : Int32) G dX3_readOdds_15 (by decide) ?_
  refine v_icmp_eq 30 G dX3_readOdds_16 (by decide) (fun h5 => ?_) (fun h5 => ?_)
  · replace hf := (if_pos h5).symm.trans hf
    refine v_iconst (0 : Int32) G dX3_readOdds_30 (by decide) ?_
    obtain rfl := Option.some.inj hf
    exact v_zret G (Or.inl rfl) dX3_readOdds_31
  · replace hf := (if_neg h5).symm.trans hf
    refine v_aload_n G dX3_readOdds_19 0 rfl ?_
    obtain ⟨v3, hcv3, hf⟩ := bd_e hf
    refine v_callU (owner := "NoonGuides$TextReader") [] G (c_X9_takeSemicolon_L n h0 hcv3) h0 (by decide) rfl rfl t_1074 t_1075 t_1078 t_1077 t_2 t_1079 rfl nm_X9_takeSemicolon (by decide) (by decide) rfl rfl (Nat.le_of_ble_eq_true rfl) dX3_readOdds_20 (kv_ri ?_)
    refine v_if_eq 30 G dX3_readOdds_23 (by decide) (fun h4 => ?_) (fun h4 => ?_)
    · replace hf := (if_pos h4).symm.trans hf
      refine v_iconst (0 : Int32) G dX3_readOdds_30 (by decide) ?_
      obtain rfl := Option.some.inj hf
      exact v_zret G (Or.inl rfl) dX3_readOdds_31
    · replace hf := (if_neg h4).symm.trans hf
      refine v_iconst (1 : Int32) G dX3_readOdds_26 (by decide) ?_
      refine v_goto 31 G dX3_readOdds_27 (by decide) ?_
      obtain rfl := Option.some.inj hf
      exact v_zret G (Or.inr rfl) dX3_readOdds_31
abbrev cX3_start : ByteArray := prog_5_method_5_code
def yX3_start : MethodName := ⟨RX3, "start", "(II)Z"⟩
theorem dX3_start_0 : dc cX3_start 0 (.iload_n 1) 1 1 := ⟨by decide +kernel, rfl⟩
theorem dX3_start_1 : dc cX3_start 1 (.iload_n 2) 1 2 := ⟨by decide +kernel, rfl⟩
theorem dX3_start_2 : dc cX3_start 2 (.if_icmp .lt 10) 3 5 := ⟨by decide +kernel, rfl⟩
theorem dX3_start_5 : dc cX3_start 5 (.aload_n 0) 1 6 := ⟨by decide +kernel, rfl⟩
theorem dX3_start_6 : dc cX3_start 6 (.bipush 6) 2 8 := ⟨by decide +kernel, rfl⟩
theorem dX3_start_8 : dc cX3_start 8 (.invokevirtual 86) 3 11 := ⟨by decide +kernel, rfl⟩
theorem dX3_start_11 : dc cX3_start 11 (.ireturn) 1 12 := ⟨by decide +kernel, rfl⟩
theorem dX3_start_12 : dc cX3_start 12 (.aload_n 0) 1 13 := ⟨by decide +kernel, rfl⟩
theorem dX3_start_13 : dc cX3_start 13 (.invokevirtual 90) 3 16 := ⟨by decide +kernel, rfl⟩
theorem dX3_start_16 : dc cX3_start 16 (.iconst 1) 1 17 := ⟨by decide +kernel, rfl⟩
theorem dX3_start_17 : dc cX3_start 17 (.ireturn) 1 18 := ⟨by decide +kernel, rfl⟩
theorem nm_X3_start : (yX3_start).cls ≠ "java/lang/invoke/MethodHandle" ∧ (yX3_start).cls ≠ "java/lang/invoke/VarHandle" ∧ (parseMethodDescriptor (yX3_start).desc).map (fun d => d.parameters.length) = some 2 := ⟨by decide +kernel, by decide +kernel, by decide +kernel⟩
set_option maxRecDepth 100000 in
theorem z_X3_start (n : Nat) {a0 : Nat} {p1 : Int32} {p2 : Int32} {M : KM} {y : (Int32 × KM)} (hf : f_X3_start n a0 p1 p2 M = some y) : (y.1 = 0 ∨ y.1 = 1) := by
  unfold f_X3_start at hf
  by_cases h3 : p1 < p2
  · replace hf := (if_pos h3).symm.trans hf
    obtain ⟨v1, hcv1, hf⟩ := bd_e hf
    obtain rfl := Option.some.inj hf
    exact (Or.inr rfl)
  · replace hf := (if_neg h3).symm.trans hf
    obtain ⟨v2, hcv2⟩ : ∃ q, f_X9_fail a0 (6 : Int32) M = q := ⟨_, rfl⟩
    replace hf := lt_e hf hcv2.symm
    obtain rfl := Option.some.inj hf
    exact (z_X9_fail hcv2)
set_option maxRecDepth 100000 in
set_option maxHeartbeats 4000000 in
theorem c_X3_start {l : Launch} {ad : Nat → Nat} {cy : Nat → ClassId} {D : va_G} {z : Nat} (n : Nat) {a0 : Nat} {p1 : Int32} {p2 : Int32} {M : KM} {y : (Int32 × KM)} (h0 : kty a0 = 4) (hf : f_X3_start n a0 p1 p2 M = some y) : KC l ad cy D z yX3_start cX3_start 3 (some .boolean) 4 [.ref (ad a0), .int p1, .int p2] M (some (.int y.1), y.2) := by
  refine kv_enter (by decide +kernel) (Nat.le_of_ble_eq_true rfl) ?_
  intro x hl hD hz G
  subst hl hD hz
  unfold f_X3_start at hf
  have G : KG ad cy x cX3_start "NoonGuides$LandReader" 3 (some (some .boolean)) 4 := G
  show KV ad cy x (some (.int y.1), y.2) 0 [(0, .ref (ad a0)), (1, .int p1), (2, .int p2)] [] M
  refine v_iload_n G dX3_start_0 1 rfl ?_
  refine v_iload_n G dX3_start_1 2 rfl ?_
  refine v_icmp_lt 12 G dX3_start_2 (by decide) (fun h3 => ?_) (fun h3 => ?_)
  · replace hf := (if_pos h3).symm.trans hf
    refine v_aload_n G dX3_start_12 0 rfl ?_
    obtain ⟨v1, hcv1, hf⟩ := bd_e hf
    refine v_callU (owner := "NoonGuides$TextReader") [] G (c_X9_skip_L n h0 hcv1) h0 (by decide) rfl rfl t_1038 t_1039 t_1042 t_1041 t_2 t_1043 rfl nm_X9_skip (by decide) (by decide) rfl rfl (Nat.le_of_ble_eq_true rfl) dX3_start_13 (kv_rv ?_)
    refine v_iconst (1 : Int32) G dX3_start_16 (by decide) ?_
    obtain rfl := Option.some.inj hf
    exact v_zret G (Or.inr rfl) dX3_start_17
  · replace hf := (if_neg h3).symm.trans hf
    refine v_aload_n G dX3_start_5 0 rfl ?_
    refine v_bipush (6 : Int32) G dX3_start_6 (by decide) ?_
    obtain ⟨v2, hcv2⟩ : ∃ q, f_X9_fail a0 (6 : Int32) M = q := ⟨_, rfl⟩
    replace hf := lt_e hf hcv2.symm
    refine v_callU (owner := "NoonGuides$TextReader") [.int (6 : Int32)] G (c_X9_fail_L h0 hcv2) h0 (by decide) rfl rfl t_1032 t_1033 t_1036 t_1035 t_2 t_1037 rfl nm_X9_fail (by decide) (by decide) rfl rfl (Nat.le_of_ble_eq_true rfl) dX3_start_8 (kv_ri ?_)
    obtain rfl := Option.some.inj hf
    exact v_zret G (z_X9_fail hcv2) dX3_start_11
abbrev cX3_readPlace : ByteArray := prog_5_method_11_code
def yX3_readPlace : MethodName := ⟨RX3, "readPlace", "(LNoonGuides$Land;)Z"⟩
theorem dX3_readPlace_0 : dc cX3_readPlace 0 (.aload_n 0) 1 1 := ⟨by decide +kernel, rfl⟩
theorem dX3_readPlace_1 : dc cX3_readPlace 1 (.aload_n 1) 1 2 := ⟨by decide +kernel, rfl⟩
theorem dX3_readPlace_2 : dc cX3_readPlace 2 (.invokevirtual 125) 3 5 := ⟨by decide +kernel, rfl⟩
theorem dX3_readPlace_5 : dc cX3_readPlace 5 (.lstore_n 2) 1 6 := ⟨by decide +kernel, rfl⟩
theorem dX3_readPlace_6 : dc cX3_readPlace 6 (.lload_n 2) 1 7 := ⟨by decide +kernel, rfl⟩
theorem dX3_readPlace_7 : dc cX3_readPlace 7 (.lconst 0) 1 8 := ⟨by decide +kernel, rfl⟩
theorem dX3_readPlace_8 : dc cX3_readPlace 8 (.lcmp) 1 9 := ⟨by decide +kernel, rfl⟩
theorem dX3_readPlace_9 : dc cX3_readPlace 9 (.ifCond .ne 5) 3 12 := ⟨by decide +kernel, rfl⟩
theorem dX3_readPlace_12 : dc cX3_readPlace 12 (.iconst 0) 1 13 := ⟨by decide +kernel, rfl⟩
theorem dX3_readPlace_13 : dc cX3_readPlace 13 (.ireturn) 1 14 := ⟨by decide +kernel, rfl⟩
theorem dX3_readPlace_14 : dc cX3_readPlace 14 (.aload_n 1) 1 15 := ⟨by decide +kernel, rfl⟩
theorem dX3_readPlace_15 : dc cX3_readPlace 15 (.lload_n 2) 1 16 := ⟨by decide +kernel, rfl⟩
theorem dX3_readPlace_16 : dc cX3_readPlace 16 (.invokevirtual 129) 3 19 := ⟨by decide +kernel, rfl⟩
theorem dX3_readPlace_19 : dc cX3_readPlace 19 (.aload_n 0) 1 20 := ⟨by decide +kernel, rfl⟩
theorem dX3_readPlace_20 : dc cX3_readPlace 20 (.invokevirtual 110) 3 23 := ⟨by decide +kernel, rfl⟩
theorem dX3_readPlace_23 : dc cX3_readPlace 23 (.ireturn) 1 24 := ⟨by decide +kernel, rfl⟩
theorem nm_X3_readPlace : (yX3_readPlace).cls ≠ "java/lang/invoke/MethodHandle" ∧ (yX3_readPlace).cls ≠ "java/lang/invoke/VarHandle" ∧ (parseMethodDescriptor (yX3_readPlace).desc).map (fun d => d.parameters.length) = some 1 := ⟨by decide +kernel, by decide +kernel, by decide +kernel⟩
set_option maxRecDepth 100000 in
theorem z_X3_readPlace (n : Nat) {a0 : Nat} {a1 : Nat} {M : KM} {y : (Int32 × KM)} (hf : f_X3_readPlace n a0 a1 M = some y) : (y.1 = 0 ∨ y.1 = 1) := by
  unfold f_X3_readPlace at hf
  obtain ⟨v1, hcv1, hf⟩ := bd_e hf
  by_cases h4 : (lg_cmp v1.1 (0 : Int64)) = 0
  · replace hf := (if_pos h4).symm.trans hf
    obtain rfl := Option.some.inj hf
    exact (Or.inl rfl)
  · replace hf := (if_neg h4).symm.trans hf
    obtain ⟨v2, hcv2, hf⟩ := bd_e hf
    obtain ⟨v3, hcv3, hf⟩ := bd_e hf
    obtain rfl := Option.some.inj hf
    exact (z_X9_takeSemicolon n hcv3)
set_option maxRecDepth 100000 in
set_option maxHeartbeats 4000000 in
theorem c_X3_readPlace {l : Launch} {ad : Nat → Nat} {cy : Nat → ClassId} {D : va_G} {z : Nat} (n : Nat) {a0 : Nat} {a1 : Nat} {M : KM} {y : (Int32 × KM)} (h0 : kty a0 = 4) (h1 : kty a1 = 3) (hf : f_X3_readPlace n a0 a1 M = some y) : KC l ad cy D z yX3_readPlace cX3_readPlace 4 (some .boolean) 4 [.ref (ad a0), .ref (ad a1)] M (some (.int y.1), y.2) := by
  refine kv_enter (by decide +kernel) (Nat.le_of_ble_eq_true rfl) ?_
  intro x hl hD hz G
  subst hl hD hz
  unfold f_X3_readPlace at hf
  have G : KG ad cy x cX3_readPlace "NoonGuides$LandReader" 4 (some (some .boolean)) 4 := G
  show KV ad cy x (some (.int y.1), y.2) 0 [(0, .ref (ad a0)), (1, .ref (ad a1))] [] M
  refine v_aload_n G dX3_readPlace_0 0 rfl ?_
  refine v_aload_n G dX3_readPlace_1 1 rfl ?_
  obtain ⟨v1, hcv1, hf⟩ := bd_e hf
  refine v_callU (owner := "NoonGuides$TextReader") [.ref (ad a1)] G (c_X9_takeNewName_L n h0 h1 hcv1) h0 (by decide) rfl rfl t_1104 t_1105 t_1108 t_1107 t_2 t_1109 rfl nm_X9_takeNewName (by decide) (by decide) rfl rfl (Nat.le_of_ble_eq_true rfl) dX3_readPlace_2 (kv_rl ?_)
  refine v_lstore_n [(2, .long v1.1), (0, .ref (ad a0)), (1, .ref (ad a1))] G dX3_readPlace_5 (by decide) rfl ?_
  refine v_lload_n G dX3_readPlace_6 0 rfl ?_
  refine v_lconst (0 : Int64) G dX3_readPlace_7 (by decide) ?_
  refine v_lcmp G dX3_readPlace_8 ?_
  refine v_if_ne 14 G dX3_readPlace_9 (by decide) (fun h4 => ?_) (fun h4 => ?_)
  · replace hf := (if_neg h4).symm.trans hf
    refine v_aload_n G dX3_readPlace_14 2 rfl ?_
    refine v_lload_n G dX3_readPlace_15 0 rfl ?_
    obtain ⟨v2, hcv2, hf⟩ := bd_e hf
    refine v_callV [.long v1.1] G (c_X2_addPlace n h1 hcv2) h1 (by decide) rfl rfl rfl t_1118 t_1119 t_1120 t_13 t_1121 nm_X2_addPlace (by decide) (by decide) rfl rfl (Nat.le_of_ble_eq_true rfl) dX3_readPlace_16 (kv_rv ?_)
    refine v_aload_n G dX3_readPlace_19 1 rfl ?_
    obtain ⟨v3, hcv3, hf⟩ := bd_e hf
    refine v_callU (owner := "NoonGuides$TextReader") [] G (c_X9_takeSemicolon_L n h0 hcv3) h0 (by decide) rfl rfl t_1074 t_1075 t_1078 t_1077 t_2 t_1079 rfl nm_X9_takeSemicolon (by decide) (by decide) rfl rfl (Nat.le_of_ble_eq_true rfl) dX3_readPlace_20 (kv_ri ?_)
    obtain rfl := Option.some.inj hf
    exact v_zret G (z_X9_takeSemicolon n hcv3) dX3_readPlace_23
  · replace hf := (if_pos h4).symm.trans hf
    refine v_iconst (0 : Int32) G dX3_readPlace_12 (by decide) ?_
    obtain rfl := Option.some.inj hf
    exact v_zret G (Or.inl rfl) dX3_readPlace_13
abbrev cX3_readRoad : ByteArray := prog_5_method_12_code
def yX3_readRoad : MethodName := ⟨RX3, "readRoad", "(LNoonGuides$Land;)Z"⟩
theorem dX3_readRoad_0 : dc cX3_readRoad 0 (.aload_n 0) 1 1 := ⟨by decide +kernel, rfl⟩
theorem dX3_readRoad_1 : dc cX3_readRoad 1 (.aload_n 1) 1 2 := ⟨by decide +kernel, rfl⟩
theorem dX3_readRoad_2 : dc cX3_readRoad 2 (.invokevirtual 133) 3 5 := ⟨by decide +kernel, rfl⟩
theorem dX3_readRoad_5 : dc cX3_readRoad 5 (.istore_n 2) 1 6 := ⟨by decide +kernel, rfl⟩
theorem dX3_readRoad_6 : dc cX3_readRoad 6 (.iload_n 2) 1 7 := ⟨by decide +kernel, rfl⟩
theorem dX3_readRoad_7 : dc cX3_readRoad 7 (.iconst (-1)) 1 8 := ⟨by decide +kernel, rfl⟩
theorem dX3_readRoad_8 : dc cX3_readRoad 8 (.if_icmp .ne 7) 3 11 := ⟨by decide +kernel, rfl⟩
theorem dX3_readRoad_11 : dc cX3_readRoad 11 (.iconst (-1)) 1 12 := ⟨by decide +kernel, rfl⟩
theorem dX3_readRoad_12 : dc cX3_readRoad 12 (.goto 8) 3 15 := ⟨by decide +kernel, rfl⟩
theorem dX3_readRoad_15 : dc cX3_readRoad 15 (.aload_n 0) 1 16 := ⟨by decide +kernel, rfl⟩
theorem dX3_readRoad_16 : dc cX3_readRoad 16 (.aload_n 1) 1 17 := ⟨by decide +kernel, rfl⟩
theorem dX3_readRoad_17 : dc cX3_readRoad 17 (.invokevirtual 133) 3 20 := ⟨by decide +kernel, rfl⟩
theorem dX3_readRoad_20 : dc cX3_readRoad 20 (.istore_n 3) 1 21 := ⟨by decide +kernel, rfl⟩
theorem dX3_readRoad_21 : dc cX3_readRoad 21 (.iload_n 3) 1 22 := ⟨by decide +kernel, rfl⟩
theorem dX3_readRoad_22 : dc cX3_readRoad 22 (.iconst (-1)) 1 23 := ⟨by decide +kernel, rfl⟩
theorem dX3_readRoad_23 : dc cX3_readRoad 23 (.if_icmp .ne 5) 3 26 := ⟨by decide +kernel, rfl⟩
theorem dX3_readRoad_26 : dc cX3_readRoad 26 (.iconst 0) 1 27 := ⟨by decide +kernel, rfl⟩
theorem dX3_readRoad_27 : dc cX3_readRoad 27 (.ireturn) 1 28 := ⟨by decide +kernel, rfl⟩
theorem dX3_readRoad_28 : dc cX3_readRoad 28 (.iload_n 2) 1 29 := ⟨by decide +kernel, rfl⟩
theorem dX3_readRoad_29 : dc cX3_readRoad 29 (.iload_n 3) 1 30 := ⟨by decide +kernel, rfl⟩
theorem dX3_readRoad_30 : dc cX3_readRoad 30 (.if_icmp .eq 13) 3 33 := ⟨by decide +kernel, rfl⟩
theorem dX3_readRoad_33 : dc cX3_readRoad 33 (.aload_n 1) 1 34 := ⟨by decide +kernel, rfl⟩
theorem dX3_readRoad_34 : dc cX3_readRoad 34 (.iload_n 2) 1 35 := ⟨by decide +kernel, rfl⟩
theorem dX3_readRoad_35 : dc cX3_readRoad 35 (.iload_n 3) 1 36 := ⟨by decide +kernel, rfl⟩
theorem dX3_readRoad_36 : dc cX3_readRoad 36 (.invokevirtual 137) 3 39 := ⟨by decide +kernel, rfl⟩
theorem dX3_readRoad_39 : dc cX3_readRoad 39 (.iconst (-1)) 1 40 := ⟨by decide +kernel, rfl⟩
theorem dX3_readRoad_40 : dc cX3_readRoad 40 (.if_icmp .eq 9) 3 43 := ⟨by decide +kernel, rfl⟩
theorem dX3_readRoad_43 : dc cX3_readRoad 43 (.aload_n 0) 1 44 := ⟨by decide +kernel, rfl⟩
theorem dX3_readRoad_44 : dc cX3_readRoad 44 (.iconst 5) 1 45 := ⟨by decide +kernel, rfl⟩
theorem dX3_readRoad_45 : dc cX3_readRoad 45 (.invokevirtual 140) 3 48 := ⟨by decide +kernel, rfl⟩
theorem dX3_readRoad_48 : dc cX3_readRoad 48 (.ireturn) 1 49 := ⟨by decide +kernel, rfl⟩
theorem dX3_readRoad_49 : dc cX3_readRoad 49 (.aload_n 0) 1 50 := ⟨by decide +kernel, rfl⟩
theorem dX3_readRoad_50 : dc cX3_readRoad 50 (.bipush 8) 2 52 := ⟨by decide +kernel, rfl⟩
theorem dX3_readRoad_52 : dc cX3_readRoad 52 (.invokevirtual 97) 3 55 := ⟨by decide +kernel, rfl⟩
theorem dX3_readRoad_55 : dc cX3_readRoad 55 (.ifCond .eq 13) 3 58 := ⟨by decide +kernel, rfl⟩
theorem dX3_readRoad_58 : dc cX3_readRoad 58 (.aload_n 0) 1 59 := ⟨by decide +kernel, rfl⟩
theorem dX3_readRoad_59 : dc cX3_readRoad 59 (.iconst 1) 1 60 := ⟨by decide +kernel, rfl⟩
theorem dX3_readRoad_60 : dc cX3_readRoad 60 (.bipush 99) 2 62 := ⟨by decide +kernel, rfl⟩
theorem dX3_readRoad_62 : dc cX3_readRoad 62 (.invokevirtual 93) 3 65 := ⟨by decide +kernel, rfl⟩
theorem dX3_readRoad_65 : dc cX3_readRoad 65 (.goto 4) 3 68 := ⟨by decide +kernel, rfl⟩
theorem dX3_readRoad_68 : dc cX3_readRoad 68 (.iconst (-1)) 1 69 := ⟨by decide +kernel, rfl⟩
theorem dX3_readRoad_69 : dc cX3_readRoad 69 (.istore 4) 2 71 := ⟨by decide +kernel, rfl⟩
theorem dX3_readRoad_71 : dc cX3_readRoad 71 (.iload 4) 2 73 := ⟨by decide +kernel, rfl⟩
theorem dX3_readRoad_73 : dc cX3_readRoad 73 (.iconst (-1)) 1 74 := ⟨by decide +kernel, rfl⟩
theorem dX3_readRoad_74 : dc cX3_readRoad 74 (.if_icmp .ne 5) 3 77 := ⟨by decide +kernel, rfl⟩
theorem dX3_readRoad_77 : dc cX3_readRoad 77 (.iconst 0) 1 78 := ⟨by decide +kernel, rfl⟩
theorem dX3_readRoad_78 : dc cX3_readRoad 78 (.ireturn) 1 79 := ⟨by decide +kernel, rfl⟩
theorem dX3_readRoad_79 : dc cX3_readRoad 79 (.aload_n 1) 1 80 := ⟨by decide +kernel, rfl⟩
theorem dX3_readRoad_80 : dc cX3_readRoad 80 (.iload_n 2) 1 81 := ⟨by decide +kernel, rfl⟩
theorem dX3_readRoad_81 : dc cX3_readRoad 81 (.iload_n 3) 1 82 := ⟨by decide +kernel, rfl⟩
theorem dX3_readRoad_82 : dc cX3_readRoad 82 (.iload 4) 2 84 := ⟨by decide +kernel, rfl⟩
theorem dX3_readRoad_84 : dc cX3_readRoad 84 (.aload_n 0) 1 85 := ⟨by decide +kernel, rfl⟩
theorem dX3_readRoad_85 : dc cX3_readRoad 85 (.bipush 9) 2 87 := ⟨by decide +kernel, rfl⟩
theorem dX3_readRoad_87 : dc cX3_readRoad 87 (.invokevirtual 143) 3 90 := ⟨by decide +kernel, rfl⟩
theorem dX3_readRoad_90 : dc cX3_readRoad 90 (.invokevirtual 146) 3 93 := ⟨by decide +kernel, rfl⟩
theorem dX3_readRoad_93 : dc cX3_readRoad 93 (.aload_n 0) 1 94 := ⟨by decide +kernel, rfl⟩
theorem dX3_readRoad_94 : dc cX3_readRoad 94 (.invokevirtual 110) 3 97 := ⟨by decide +kernel, rfl⟩
theorem dX3_readRoad_97 : dc cX3_readRoad 97 (.ireturn) 1 98 := ⟨by decide +kernel, rfl⟩
theorem nm_X3_readRoad : (yX3_readRoad).cls ≠ "java/lang/invoke/MethodHandle" ∧ (yX3_readRoad).cls ≠ "java/lang/invoke/VarHandle" ∧ (parseMethodDescriptor (yX3_readRoad).desc).map (fun d => d.parameters.length) = some 1 := ⟨by decide +kernel, by decide +kernel, by decide +kernel⟩
set_option maxRecDepth 100000 in
theorem z_X3_readRoad (n : Nat) {a0 : Nat} {a1 : Nat} {M : KM} {y : (Int32 × KM)} (hf : f_X3_readRoad n a0 a1 M = some y) : (y.1 = 0 ∨ y.1 = 1) := by
  unfold f_X3_readRoad at hf
  obtain ⟨v1, hcv1, hf⟩ := bd_e hf
  obtain ⟨j20, ej20, hf⟩ := lt_j hf
  have hj20 : ∀ (x2 : Int32) (M3 : KM), j20 x2 M3 = some y → (y.1 = 0 ∨ y.1 = 1) := by
    intro x2 M3 hf
    rw [ej20] at hf
    by_cases h17 : x2 = (-1 : Int32)
    · replace hf := (if_pos h17).symm.trans hf
      obtain rfl := Option.some.inj hf
      exact (Or.inl rfl)
    · replace hf := (if_neg h17).symm.trans hf
      obtain ⟨j43, ej43, hf⟩ := lt_j hf
      have hj43 : j43 = some y → (y.1 = 0 ∨ y.1 = 1) := by
        intro hf
        rw [ej43] at hf
        obtain ⟨v4, hcv4⟩ : ∃ q, f_X9_failTaken a0 (5 : Int32) M3 = q := ⟨_, rfl⟩
        replace hf := lt_e hf hcv4.symm
        obtain rfl := Option.some.inj hf
        exact (z_X9_failTaken hcv4)
      by_cases h16 : v1.1 = x2
      · replace hf := (if_pos h16).symm.trans hf
        exact hj43 hf
      · replace hf := (if_neg h16).symm.trans hf
        obtain ⟨v5, hcv5, hf⟩ := bd_e hf
        by_cases h15 : v5 = (-1 : Int32)
        · replace hf := (if_pos h15).symm.trans hf
          obtain ⟨v6, hcv6, hf⟩ := bd_e hf
          obtain ⟨j69, ej69, hf⟩ := lt_j hf
          have hj69 : ∀ (x7 : Int32) (M8 : KM), j69 x7 M8 = some y → (y.1 = 0 ∨ y.1 = 1) := by
            intro x7 M8 hf
            rw [ej69] at hf
            by_cases h12 : x7 = (-1 : Int32)
            · replace hf := (if_pos h12).symm.trans hf
              obtain rfl := Option.some.inj hf
              exact (Or.inl rfl)
            · replace hf := (if_neg h12).symm.trans hf
              obtain ⟨v9, hcv9, hf⟩ := bd_e hf
              obtain ⟨v10, hcv10, hf⟩ := bd_e hf
              obtain ⟨v11, hcv11, hf⟩ := bd_e hf
              obtain rfl := Option.some.inj hf
              exact (z_X9_takeSemicolon n hcv11)
          by_cases h14 : v6.1 = 0
          · replace hf := (if_pos h14).symm.trans hf
            exact hj69 (-1 : Int32) v6.2 hf
          · replace hf := (if_neg h14).symm.trans hf
            obtain ⟨v13, hcv13, hf⟩ := bd_e hf
            exact hj69 v13.1 v13.2 hf
        · replace hf := (if_neg h15).symm.trans hf
          exact hj43 hf
  by_cases h19 : v1.1 = (-1 : Int32)
  · replace hf := (if_pos h19).symm.trans hf
    exact hj20 (-1 : Int32) v1.2 hf
  · replace hf := (if_neg h19).symm.trans hf
    obtain ⟨v18, hcv18, hf⟩ := bd_e hf
    exact hj20 v18.1 v18.2 hf
set_option maxRecDepth 100000 in
set_option maxHeartbeats 4000000 in
theorem c_X3_readRoad {l : Launch} {ad : Nat → Nat} {cy : Nat → ClassId} {D : va_G} {z : Nat} (n : Nat) {a0 : Nat} {a1 : Nat} {M : KM} {y : (Int32 × KM)} (h0 : kty a0 = 4) (h1 : kty a1 = 3) (hf : f_X3_readRoad n a0 a1 M = some y) : KC l ad cy D z yX3_readRoad cX3_readRoad 5 (some .boolean) 5 [.ref (ad a0), .ref (ad a1)] M (some (.int y.1), y.2) := by
  refine kv_enter (by decide +kernel) (Nat.le_of_ble_eq_true rfl) ?_
  intro x hl hD hz G
  subst hl hD hz
  unfold f_X3_readRoad at hf
  have G : KG ad cy x cX3_readRoad "NoonGuides$LandReader" 5 (some (some .boolean)) 5 := G
  show KV ad cy x (some (.int y.1), y.2) 0 [(0, .ref (ad a0)), (1, .ref (ad a1))] [] M
  refine v_aload_n G dX3_readRoad_0 0 rfl ?_
  refine v_aload_n G dX3_readRoad_1 1 rfl ?_
  obtain ⟨v1, hcv1, hf⟩ := bd_e hf
  refine v_callU (owner := "NoonGuides$TextReader") [.ref (ad a1)] G (c_X9_takePlace_L n h0 h1 hcv1) h0 (by decide) rfl rfl t_1126 t_1127 t_1130 t_1129 t_2 t_1131 rfl nm_X9_takePlace (by decide) (by decide) rfl rfl (Nat.le_of_ble_eq_true rfl) dX3_readRoad_2 (kv_ri ?_)
  refine v_istore_n [(2, .int v1.1), (0, .ref (ad a0)), (1, .ref (ad a1))] G dX3_readRoad_5 (by decide) rfl ?_
  refine v_iload_n G dX3_readRoad_6 0 rfl ?_
  refine v_iconst (-1 : Int32) G dX3_readRoad_7 (by decide) ?_
  obtain ⟨j20, ej20, hf⟩ := lt_j hf
  have hj20 : ∀ (x2 : Int32) (M3 : KM), j20 x2 M3 = some y → KV ad cy x (some (.int y.1), y.2) 20 [(0, .ref (ad a0)), (1, .ref (ad a1)), (2, .int v1.1)] [.int x2] M3 := by
    intro x2 M3 hf
    rw [ej20] at hf
    refine v_istore_n [(3, .int x2), (0, .ref (ad a0)), (1, .ref (ad a1)), (2, .int v1.1)] G dX3_readRoad_20 (by decide) rfl ?_
    refine v_iload_n G dX3_readRoad_21 0 rfl ?_
    refine v_iconst (-1 : Int32) G dX3_readRoad_22 (by decide) ?_
    refine v_icmp_ne 28 G dX3_readRoad_23 (by decide) (fun h17 => ?_) (fun h17 => ?_)
    · replace hf := (if_neg h17).symm.trans hf
      refine v_iload_n G dX3_readRoad_28 3 rfl ?_
      refine v_iload_n G dX3_readRoad_29 0 rfl ?_
      obtain ⟨j43, ej43, hf⟩ := lt_j hf
      have hj43 : j43 = some y → KV ad cy x (some (.int y.1), y.2) 43 [(0, .ref (ad a0))] [] M3 := by
        intro hf
        rw [ej43] at hf
        refine v_aload_n G dX3_readRoad_43 0 rfl ?_
        refine v_iconst (5 : Int32) G dX3_readRoad_44 (by decide) ?_
        obtain ⟨v4, hcv4⟩ : ∃ q, f_X9_failTaken a0 (5 : Int32) M3 = q := ⟨_, rfl⟩
        replace hf := lt_e hf hcv4.symm
        refine v_callU (owner := "NoonGuides$TextReader") [.int (5 : Int32)] G (c_X9_failTaken_L h0 hcv4) h0 (by decide) rfl rfl t_1137 t_1138 t_1141 t_1140 t_2 t_1142 rfl nm_X9_failTaken (by decide) (by decide) rfl rfl (Nat.le_of_ble_eq_true rfl) dX3_readRoad_45 (kv_ri ?_)
        obtain rfl := Option.some.inj hf
        exact v_zret G (z_X9_failTaken hcv4) dX3_readRoad_48
      refine v_icmp_eq 43 G dX3_readRoad_30 (by decide) (fun h16 => ?_) (fun h16 => ?_)
      · replace hf := (if_pos h16).symm.trans hf
        refine v_sub _ [1] rfl ?_
        exact hj43 hf
      · replace hf := (if_neg h16).symm.trans hf
        refine v_aload_n G dX3_readRoad_33 2 rfl ?_
        refine v_iload_n G dX3_readRoad_34 3 rfl ?_
        refine v_iload_n G dX3_readRoad_35 0 rfl ?_
        obtain ⟨v5, hcv5, hf⟩ := bd_e hf
        refine v_callV [.int v1.1, .int x2] G (c_X2_roadBetween n h1 hcv5) h1 (by decide) rfl rfl rfl t_1136 t_570 t_571 t_13 t_572 nm_X2_roadBetween (by decide) (by decide) rfl rfl (Nat.le_of_ble_eq_true rfl) dX3_readRoad_36 (kv_ri ?_)
        refine v_iconst (-1 : Int32) G dX3_readRoad_39 (by decide) ?_
        refine v_icmp_eq 49 G dX3_readRoad_40 (by decide) (fun h15 => ?_) (fun h15 => ?_)
        · replace hf := (if_pos h15).symm.trans hf
          refine v_aload_n G dX3_readRoad_49 1 rfl ?_
          refine v_bipush (8 : Int32) G dX3_readRoad_50 (by decide) ?_
          obtain ⟨v6, hcv6, hf⟩ := bd_e hf
          refine v_callU (owner := "NoonGuides$TextReader") [.int (8 : Int32)] G (c_X9_takeWord_L n h0 hcv6) h0 (by decide) rfl rfl t_1061 t_1062 t_1065 t_1064 t_2 t_1066 rfl nm_X9_takeWord (by decide) (by decide) rfl rfl (Nat.le_of_ble_eq_true rfl) dX3_readRoad_52 (kv_ri ?_)
          obtain ⟨j69, ej69, hf⟩ := lt_j hf
          have hj69 : ∀ (x7 : Int32) (M8 : KM), j69 x7 M8 = some y → KV ad cy x (some (.int y.1), y.2) 69 [(0, .ref (ad a0)), (1, .ref (ad a1)), (2, .int v1.1), (3, .int x2)] [.int x7] M8 := by
            intro x7 M8 hf
            rw [ej69] at hf
            refine v_istore [(4, .int x7), (0, .ref (ad a0)), (1, .ref (ad a1)), (2, .int v1.1), (3, .int x2)] G dX3_readRoad_69 (by decide) rfl ?_
            refine v_iload G dX3_readRoad_71 0 rfl ?_
            refine v_iconst (-1 : Int32) G dX3_readRoad_73 (by decide) ?_
            refine v_icmp_ne 79 G dX3_readRoad_74 (by decide) (fun h12 => ?_) (fun h12 => ?_)
            · replace hf := (if_neg h12).symm.trans hf
              refine v_aload_n G dX3_readRoad_79 2 rfl ?_
              refine v_iload_n G dX3_readRoad_80 3 rfl ?_
              refine v_iload_n G dX3_readRoad_81 4 rfl ?_
              refine v_iload G dX3_readRoad_82 0 rfl ?_
              refine v_aload_n G dX3_readRoad_84 1 rfl ?_
              refine v_bipush (9 : Int32) G dX3_readRoad_85 (by decide) ?_
              obtain ⟨v9, hcv9, hf⟩ := bd_e hf
              refine v_callU (owner := "NoonGuides$TextReader") [.int (9 : Int32)] G (c_X9_skipWord_L n h0 hcv9) h0 (by decide) rfl rfl t_1143 t_1144 t_1068 t_1146 t_2 t_1072 rfl nm_X9_skipWord (by decide) (by decide) rfl rfl (Nat.le_of_ble_eq_true rfl) dX3_readRoad_87 (kv_ri ?_)
              obtain ⟨v10, hcv10, hf⟩ := bd_e hf
              refine v_callV [.int v1.1, .int x2, .int x7, .int v9.1] G (c_X2_addRoad n h1 hcv10) h1 (by decide) rfl rfl rfl t_1147 t_1148 t_1149 t_13 t_1150 nm_X2_addRoad (by decide) (by decide) rfl rfl (Nat.le_of_ble_eq_true rfl) dX3_readRoad_90 (kv_rv ?_)
              refine v_aload_n G dX3_readRoad_93 1 rfl ?_
              obtain ⟨v11, hcv11, hf⟩ := bd_e hf
              refine v_callU (owner := "NoonGuides$TextReader") [] G (c_X9_takeSemicolon_L n h0 hcv11) h0 (by decide) rfl rfl t_1074 t_1075 t_1078 t_1077 t_2 t_1079 rfl nm_X9_takeSemicolon (by decide) (by decide) rfl rfl (Nat.le_of_ble_eq_true rfl) dX3_readRoad_94 (kv_ri ?_)
              obtain rfl := Option.some.inj hf
              exact v_zret G (z_X9_takeSemicolon n hcv11) dX3_readRoad_97
            · replace hf := (if_pos h12).symm.trans hf
              refine v_iconst (0 : Int32) G dX3_readRoad_77 (by decide) ?_
              obtain rfl := Option.some.inj hf
              exact v_zret G (Or.inl rfl) dX3_readRoad_78
          refine v_if_eq 68 G dX3_readRoad_55 (by decide) (fun h14 => ?_) (fun h14 => ?_)
          · replace hf := (if_pos h14).symm.trans hf
            refine v_iconst (-1 : Int32) G dX3_readRoad_68 (by decide) ?_
            refine v_sub _ [1, 2, 3, 0] rfl ?_
            exact hj69 (-1 : Int32) v6.2 hf
          · replace hf := (if_neg h14).symm.trans hf
            refine v_aload_n G dX3_readRoad_58 1 rfl ?_
            refine v_iconst (1 : Int32) G dX3_readRoad_59 (by decide) ?_
            refine v_bipush (99 : Int32) G dX3_readRoad_60 (by decide) ?_
            obtain ⟨v13, hcv13, hf⟩ := bd_e hf
            refine v_callU (owner := "NoonGuides$TextReader") [.int (1 : Int32), .int (99 : Int32)] G (c_X9_takeNumber_L n h0 hcv13) h0 (by decide) rfl rfl t_1048 t_1049 t_1052 t_1051 t_2 t_1053 rfl nm_X9_takeNumber (by decide) (by decide) rfl rfl (Nat.le_of_ble_eq_true rfl) dX3_readRoad_62 (kv_ri ?_)
            refine v_goto 69 G dX3_readRoad_65 (by decide) ?_
            refine v_sub _ [1, 2, 3, 0] rfl ?_
            exact hj69 v13.1 v13.2 hf
        · replace hf := (if_neg h15).symm.trans hf
          refine v_sub _ [1] rfl ?_
          exact hj43 hf
    · replace hf := (if_pos h17).symm.trans hf
      refine v_iconst (0 : Int32) G dX3_readRoad_26 (by decide) ?_
      obtain rfl := Option.some.inj hf
      exact v_zret G (Or.inl rfl) dX3_readRoad_27
  refine v_icmp_ne 15 G dX3_readRoad_8 (by decide) (fun h19 => ?_) (fun h19 => ?_)
  · replace hf := (if_neg h19).symm.trans hf
    refine v_aload_n G dX3_readRoad_15 1 rfl ?_
    refine v_aload_n G dX3_readRoad_16 2 rfl ?_
    obtain ⟨v18, hcv18, hf⟩ := bd_e hf
    refine v_callU (owner := "NoonGuides$TextReader") [.ref (ad a1)] G (c_X9_takePlace_L n h0 h1 hcv18) h0 (by decide) rfl rfl t_1126 t_1127 t_1130 t_1129 t_2 t_1131 rfl nm_X9_takePlace (by decide) (by decide) rfl rfl (Nat.le_of_ble_eq_true rfl) dX3_readRoad_17 (kv_ri ?_)
    refine v_sub _ [1, 2, 0] rfl ?_
    exact hj20 v18.1 v18.2 hf
  · replace hf := (if_pos h19).symm.trans hf
    refine v_iconst (-1 : Int32) G dX3_readRoad_11 (by decide) ?_
    refine v_goto 20 G dX3_readRoad_12 (by decide) ?_
    refine v_sub _ [1, 2, 0] rfl ?_
    exact hj20 (-1 : Int32) v1.2 hf
abbrev cX3_readPerson : ByteArray := prog_5_method_13_code
def yX3_readPerson : MethodName := ⟨RX3, "readPerson", "(LNoonGuides$Land;Z)Z"⟩
theorem dX3_readPerson_0 : dc cX3_readPerson 0 (.aload_n 0) 1 1 := ⟨by decide +kernel, rfl⟩
theorem dX3_readPerson_1 : dc cX3_readPerson 1 (.aload_n 1) 1 2 := ⟨by decide +kernel, rfl⟩
theorem dX3_readPerson_2 : dc cX3_readPerson 2 (.invokevirtual 125) 3 5 := ⟨by decide +kernel, rfl⟩
theorem dX3_readPerson_5 : dc cX3_readPerson 5 (.lstore_n 3) 1 6 := ⟨by decide +kernel, rfl⟩
theorem dX3_readPerson_6 : dc cX3_readPerson 6 (.lload_n 3) 1 7 := ⟨by decide +kernel, rfl⟩
theorem dX3_readPerson_7 : dc cX3_readPerson 7 (.lconst 0) 1 8 := ⟨by decide +kernel, rfl⟩
theorem dX3_readPerson_8 : dc cX3_readPerson 8 (.lcmp) 1 9 := ⟨by decide +kernel, rfl⟩
theorem dX3_readPerson_9 : dc cX3_readPerson 9 (.ifCond .eq 12) 3 12 := ⟨by decide +kernel, rfl⟩
theorem dX3_readPerson_12 : dc cX3_readPerson 12 (.aload_n 0) 1 13 := ⟨by decide +kernel, rfl⟩
theorem dX3_readPerson_13 : dc cX3_readPerson 13 (.bipush 11) 2 15 := ⟨by decide +kernel, rfl⟩
theorem dX3_readPerson_15 : dc cX3_readPerson 15 (.invokevirtual 97) 3 18 := ⟨by decide +kernel, rfl⟩
theorem dX3_readPerson_18 : dc cX3_readPerson 18 (.ifCond .ne 5) 3 21 := ⟨by decide +kernel, rfl⟩
theorem dX3_readPerson_21 : dc cX3_readPerson 21 (.iconst 0) 1 22 := ⟨by decide +kernel, rfl⟩
theorem dX3_readPerson_22 : dc cX3_readPerson 22 (.ireturn) 1 23 := ⟨by decide +kernel, rfl⟩
theorem dX3_readPerson_23 : dc cX3_readPerson 23 (.aload_n 0) 1 24 := ⟨by decide +kernel, rfl⟩
theorem dX3_readPerson_24 : dc cX3_readPerson 24 (.aload_n 1) 1 25 := ⟨by decide +kernel, rfl⟩
theorem dX3_readPerson_25 : dc cX3_readPerson 25 (.invokevirtual 133) 3 28 := ⟨by decide +kernel, rfl⟩
theorem dX3_readPerson_28 : dc cX3_readPerson 28 (.istore 5) 2 30 := ⟨by decide +kernel, rfl⟩
theorem dX3_readPerson_30 : dc cX3_readPerson 30 (.iload 5) 2 32 := ⟨by decide +kernel, rfl⟩
theorem dX3_readPerson_32 : dc cX3_readPerson 32 (.iconst (-1)) 1 33 := ⟨by decide +kernel, rfl⟩
theorem dX3_readPerson_33 : dc cX3_readPerson 33 (.if_icmp .ne 5) 3 36 := ⟨by decide +kernel, rfl⟩
theorem dX3_readPerson_36 : dc cX3_readPerson 36 (.iconst 0) 1 37 := ⟨by decide +kernel, rfl⟩
theorem dX3_readPerson_37 : dc cX3_readPerson 37 (.ireturn) 1 38 := ⟨by decide +kernel, rfl⟩
theorem dX3_readPerson_38 : dc cX3_readPerson 38 (.aload_n 1) 1 39 := ⟨by decide +kernel, rfl⟩
theorem dX3_readPerson_39 : dc cX3_readPerson 39 (.lload_n 3) 1 40 := ⟨by decide +kernel, rfl⟩
theorem dX3_readPerson_40 : dc cX3_readPerson 40 (.iload_n 2) 1 41 := ⟨by decide +kernel, rfl⟩
theorem dX3_readPerson_41 : dc cX3_readPerson 41 (.iload_n 2) 1 42 := ⟨by decide +kernel, rfl⟩
theorem dX3_readPerson_42 : dc cX3_readPerson 42 (.ifCond .eq 16) 3 45 := ⟨by decide +kernel, rfl⟩
theorem dX3_readPerson_45 : dc cX3_readPerson 45 (.aload_n 0) 1 46 := ⟨by decide +kernel, rfl⟩
theorem dX3_readPerson_46 : dc cX3_readPerson 46 (.bipush 12) 2 48 := ⟨by decide +kernel, rfl⟩
theorem dX3_readPerson_48 : dc cX3_readPerson 48 (.invokevirtual 143) 3 51 := ⟨by decide +kernel, rfl⟩
theorem dX3_readPerson_51 : dc cX3_readPerson 51 (.ifCond .eq 7) 3 54 := ⟨by decide +kernel, rfl⟩
theorem dX3_readPerson_54 : dc cX3_readPerson 54 (.iconst 1) 1 55 := ⟨by decide +kernel, rfl⟩
theorem dX3_readPerson_55 : dc cX3_readPerson 55 (.goto 4) 3 58 := ⟨by decide +kernel, rfl⟩
theorem dX3_readPerson_58 : dc cX3_readPerson 58 (.iconst 0) 1 59 := ⟨by decide +kernel, rfl⟩
theorem dX3_readPerson_59 : dc cX3_readPerson 59 (.iload 5) 2 61 := ⟨by decide +kernel, rfl⟩
theorem dX3_readPerson_61 : dc cX3_readPerson 61 (.invokevirtual 150) 3 64 := ⟨by decide +kernel, rfl⟩
theorem dX3_readPerson_64 : dc cX3_readPerson 64 (.aload_n 0) 1 65 := ⟨by decide +kernel, rfl⟩
theorem dX3_readPerson_65 : dc cX3_readPerson 65 (.invokevirtual 110) 3 68 := ⟨by decide +kernel, rfl⟩
theorem dX3_readPerson_68 : dc cX3_readPerson 68 (.ireturn) 1 69 := ⟨by decide +kernel, rfl⟩
theorem nm_X3_readPerson : (yX3_readPerson).cls ≠ "java/lang/invoke/MethodHandle" ∧ (yX3_readPerson).cls ≠ "java/lang/invoke/VarHandle" ∧ (parseMethodDescriptor (yX3_readPerson).desc).map (fun d => d.parameters.length) = some 2 := ⟨by decide +kernel, by decide +kernel, by decide +kernel⟩
set_option maxRecDepth 100000 in
theorem z_X3_readPerson (n : Nat) {a0 : Nat} {a1 : Nat} {p2 : Int32} {M : KM} {y : (Int32 × KM)} (hf : f_X3_readPerson n a0 a1 p2 M = some y) : (y.1 = 0 ∨ y.1 = 1) := by
  unfold f_X3_readPerson at hf
  obtain ⟨v1, hcv1, hf⟩ := bd_e hf
  by_cases h14 : (lg_cmp v1.1 (0 : Int64)) = 0
  · replace hf := (if_pos h14).symm.trans hf
    obtain rfl := Option.some.inj hf
    exact (Or.inl rfl)
  · replace hf := (if_neg h14).symm.trans hf
    obtain ⟨v2, hcv2, hf⟩ := bd_e hf
    by_cases h13 : v2.1 = 0
    · replace hf := (if_pos h13).symm.trans hf
      obtain rfl := Option.some.inj hf
      exact (Or.inl rfl)
    · replace hf := (if_neg h13).symm.trans hf
      obtain ⟨v3, hcv3, hf⟩ := bd_e hf
      by_cases h12 : v3.1 = (-1 : Int32)
      · replace hf := (if_pos h12).symm.trans hf
        obtain rfl := Option.some.inj hf
        exact (Or.inl rfl)
      · replace hf := (if_neg h12).symm.trans hf
        obtain ⟨j59, ej59, hf⟩ := lt_j hf
        have hj59 : ∀ (x4 : Int32) (M5 : KM), j59 x4 M5 = some y → (y.1 = 0 ∨ y.1 = 1) := by
          intro x4 M5 hf
          rw [ej59] at hf
          obtain ⟨v6, hcv6, hf⟩ := bd_e hf
          obtain ⟨v7, hcv7, hf⟩ := bd_e hf
          obtain rfl := Option.some.inj hf
          exact (z_X9_takeSemicolon n hcv7)
        obtain ⟨j58, ej58, hf⟩ := lt_j hf
        have hj58 : ∀ (M8 : KM), j58 M8 = some y → (y.1 = 0 ∨ y.1 = 1) := by
          intro M8 hf
          rw [ej58] at hf
          exact hj59 (0 : Int32) M8 hf
        by_cases h11 : p2 = 0
        · replace hf := (if_pos h11).symm.trans hf
          exact hj58 v3.2 hf
        · replace hf := (if_neg h11).symm.trans hf
          obtain ⟨v9, hcv9, hf⟩ := bd_e hf
          by_cases h10 : v9.1 = 0
          · replace hf := (if_pos h10).symm.trans hf
            exact hj58 v9.2 hf
          · replace hf := (if_neg h10).symm.trans hf
            exact hj59 (1 : Int32) v9.2 hf
set_option maxRecDepth 100000 in
set_option maxHeartbeats 4000000 in
theorem c_X3_readPerson {l : Launch} {ad : Nat → Nat} {cy : Nat → ClassId} {D : va_G} {z : Nat} (n : Nat) {a0 : Nat} {a1 : Nat} {p2 : Int32} {M : KM} {y : (Int32 × KM)} (h0 : kty a0 = 4) (h1 : kty a1 = 3) (hf : f_X3_readPerson n a0 a1 p2 M = some y) : KC l ad cy D z yX3_readPerson cX3_readPerson 6 (some .boolean) 5 [.ref (ad a0), .ref (ad a1), .int p2] M (some (.int y.1), y.2) := by
  refine kv_enter (by decide +kernel) (Nat.le_of_ble_eq_true rfl) ?_
  intro x hl hD hz G
  subst hl hD hz
  unfold f_X3_readPerson at hf
  have G : KG ad cy x cX3_readPerson "NoonGuides$LandReader" 6 (some (some .boolean)) 5 := G
  show KV ad cy x (some (.int y.1), y.2) 0 [(0, .ref (ad a0)), (1, .ref (ad a1)), (2, .int p2)] [] M
  refine v_aload_n G dX3_readPerson_0 0 rfl ?_
  refine v_aload_n G dX3_readPerson_1 1 rfl ?_
  obtain ⟨v1, hcv1, hf⟩ := bd_e hf
  refine v_callU (owner := "NoonGuides$TextReader") [.ref (ad a1)] G (c_X9_takeNewName_L n h0 h1 hcv1) h0 (by decide) rfl rfl t_1104 t_1105 t_1108 t_1107 t_2 t_1109 rfl nm_X9_takeNewName (by decide) (by decide) rfl rfl (Nat.le_of_ble_eq_true rfl) dX3_readPerson_2 (kv_rl ?_)
  refine v_lstore_n [(3, .long v1.1), (0, .ref (ad a0)), (1, .ref (ad a1)), (2, .int p2)] G dX3_readPerson_5 (by decide) rfl ?_
  refine v_lload_n G dX3_readPerson_6 0 rfl ?_
  refine v_lconst (0 : Int64) G dX3_readPerson_7 (by decide) ?_
  refine v_lcmp G dX3_readPerson_8 ?_
  refine v_if_eq 21 G dX3_readPerson_9 (by decide) (fun h14 => ?_) (fun h14 => ?_)
  · replace hf := (if_pos h14).symm.trans hf
    refine v_iconst (0 : Int32) G dX3_readPerson_21 (by decide) ?_
    obtain rfl := Option.some.inj hf
    exact v_zret G (Or.inl rfl) dX3_readPerson_22
  · replace hf := (if_neg h14).symm.trans hf
    refine v_aload_n G dX3_readPerson_12 1 rfl ?_
    refine v_bipush (11 : Int32) G dX3_readPerson_13 (by decide) ?_
    obtain ⟨v2, hcv2, hf⟩ := bd_e hf
    refine v_callU (owner := "NoonGuides$TextReader") [.int (11 : Int32)] G (c_X9_takeWord_L n h0 hcv2) h0 (by decide) rfl rfl t_1061 t_1062 t_1065 t_1064 t_2 t_1066 rfl nm_X9_takeWord (by decide) (by decide) rfl rfl (Nat.le_of_ble_eq_true rfl) dX3_readPerson_15 (kv_ri ?_)
    refine v_if_ne 23 G dX3_readPerson_18 (by decide) (fun h13 => ?_) (fun h13 => ?_)
    · replace hf := (if_neg h13).symm.trans hf
      refine v_aload_n G dX3_readPerson_23 1 rfl ?_
      refine v_aload_n G dX3_readPerson_24 2 rfl ?_
      obtain ⟨v3, hcv3, hf⟩ := bd_e hf
      refine v_callU (owner := "NoonGuides$TextReader") [.ref (ad a1)] G (c_X9_takePlace_L n h0 h1 hcv3) h0 (by decide) rfl rfl t_1126 t_1127 t_1130 t_1129 t_2 t_1131 rfl nm_X9_takePlace (by decide) (by decide) rfl rfl (Nat.le_of_ble_eq_true rfl) dX3_readPerson_25 (kv_ri ?_)
      refine v_istore [(5, .int v3.1), (3, .long v1.1), (0, .ref (ad a0)), (1, .ref (ad a1)), (2, .int p2)] G dX3_readPerson_28 (by decide) rfl ?_
      refine v_iload G dX3_readPerson_30 0 rfl ?_
      refine v_iconst (-1 : Int32) G dX3_readPerson_32 (by decide) ?_
      refine v_icmp_ne 38 G dX3_readPerson_33 (by decide) (fun h12 => ?_) (fun h12 => ?_)
      · replace hf := (if_neg h12).symm.trans hf
        refine v_aload_n G dX3_readPerson_38 3 rfl ?_
        refine v_lload_n G dX3_readPerson_39 1 rfl ?_
        refine v_iload_n G dX3_readPerson_40 4 rfl ?_
        refine v_iload_n G dX3_readPerson_41 4 rfl ?_
        obtain ⟨j59, ej59, hf⟩ := lt_j hf
        have hj59 : ∀ (x4 : Int32) (M5 : KM), j59 x4 M5 = some y → KV ad cy x (some (.int y.1), y.2) 59 [(0, .ref (ad a0)), (5, .int v3.1)] [.int x4, .int p2, .long v1.1, .ref (ad a1)] M5 := by
          intro x4 M5 hf
          rw [ej59] at hf
          refine v_iload G dX3_readPerson_59 1 rfl ?_
          obtain ⟨v6, hcv6, hf⟩ := bd_e hf
          refine v_callV [.long v1.1, .int p2, .int x4, .int v3.1] G (c_X2_addPerson n h1 hcv6) h1 (by decide) rfl rfl rfl t_1155 t_1156 t_1157 t_13 t_1158 nm_X2_addPerson (by decide) (by decide) rfl rfl (Nat.le_of_ble_eq_true rfl) dX3_readPerson_61 (kv_rv ?_)
          refine v_aload_n G dX3_readPerson_64 0 rfl ?_
          obtain ⟨v7, hcv7, hf⟩ := bd_e hf
          refine v_callU (owner := "NoonGuides$TextReader") [] G (c_X9_takeSemicolon_L n h0 hcv7) h0 (by decide) rfl rfl t_1074 t_1075 t_1078 t_1077 t_2 t_1079 rfl nm_X9_takeSemicolon (by decide) (by decide) rfl rfl (Nat.le_of_ble_eq_true rfl) dX3_readPerson_65 (kv_ri ?_)
          obtain rfl := Option.some.inj hf
          exact v_zret G (z_X9_takeSemicolon n hcv7) dX3_readPerson_68
        obtain ⟨j58, ej58, hf⟩ := lt_j hf
        have hj58 : ∀ (M8 : KM), j58 M8 = some y → KV ad cy x (some (.int y.1), y.2) 58 [(0, .ref (ad a0)), (5, .int v3.1)] [.int p2, .long v1.1, .ref (ad a1)] M8 := by
          intro M8 hf
          rw [ej58] at hf
          refine v_iconst (0 : Int32) G dX3_readPerson_58 (by decide) ?_
          refine v_sub _ [0, 1] rfl ?_
          exact hj59 (0 : Int32) M8 hf
        refine v_if_eq 58 G dX3_readPerson_42 (by decide) (fun h11 => ?_) (fun h11 => ?_)
        · replace hf := (if_pos h11).symm.trans hf
          refine v_sub _ [2, 0] rfl ?_
          exact hj58 v3.2 hf
        · replace hf := (if_neg h11).symm.trans hf
          refine v_aload_n G dX3_readPerson_45 2 rfl ?_
          refine v_bipush (12 : Int32) G dX3_readPerson_46 (by decide) ?_
          obtain ⟨v9, hcv9, hf⟩ := bd_e hf
          refine v_callU (owner := "NoonGuides$TextReader") [.int (12 : Int32)] G (c_X9_skipWord_L n h0 hcv9) h0 (by decide) rfl rfl t_1143 t_1144 t_1068 t_1146 t_2 t_1072 rfl nm_X9_skipWord (by decide) (by decide) rfl rfl (Nat.le_of_ble_eq_true rfl) dX3_readPerson_48 (kv_ri ?_)
          refine v_if_eq 58 G dX3_readPerson_51 (by decide) (fun h10 => ?_) (fun h10 => ?_)
          · replace hf := (if_pos h10).symm.trans hf
            refine v_sub _ [2, 0] rfl ?_
            exact hj58 v9.2 hf
          · replace hf := (if_neg h10).symm.trans hf
            refine v_iconst (1 : Int32) G dX3_readPerson_54 (by decide) ?_
            refine v_goto 59 G dX3_readPerson_55 (by decide) ?_
            refine v_sub _ [2, 0] rfl ?_
            exact hj59 (1 : Int32) v9.2 hf
      · replace hf := (if_pos h12).symm.trans hf
        refine v_iconst (0 : Int32) G dX3_readPerson_36 (by decide) ?_
        obtain rfl := Option.some.inj hf
        exact v_zret G (Or.inl rfl) dX3_readPerson_37
    · replace hf := (if_pos h13).symm.trans hf
      refine v_iconst (0 : Int32) G dX3_readPerson_21 (by decide) ?_
      obtain rfl := Option.some.inj hf
      exact v_zret G (Or.inl rfl) dX3_readPerson_22
abbrev cX3_readKnows : ByteArray := prog_5_method_14_code
def yX3_readKnows : MethodName := ⟨RX3, "readKnows", "(LNoonGuides$Land;)Z"⟩
theorem dX3_readKnows_0 : dc cX3_readKnows 0 (.aload_n 0) 1 1 := ⟨by decide +kernel, rfl⟩
theorem dX3_readKnows_1 : dc cX3_readKnows 1 (.iconst 1) 1 2 := ⟨by decide +kernel, rfl⟩
theorem dX3_readKnows_2 : dc cX3_readKnows 2 (.putfield 20) 3 5 := ⟨by decide +kernel, rfl⟩
theorem dX3_readKnows_5 : dc cX3_readKnows 5 (.aload_n 0) 1 6 := ⟨by decide +kernel, rfl⟩
theorem dX3_readKnows_6 : dc cX3_readKnows 6 (.invokevirtual 90) 3 9 := ⟨by decide +kernel, rfl⟩
theorem dX3_readKnows_9 : dc cX3_readKnows 9 (.aload_n 0) 1 10 := ⟨by decide +kernel, rfl⟩
theorem dX3_readKnows_10 : dc cX3_readKnows 10 (.aload_n 1) 1 11 := ⟨by decide +kernel, rfl⟩
theorem dX3_readKnows_11 : dc cX3_readKnows 11 (.invokevirtual 154) 3 14 := ⟨by decide +kernel, rfl⟩
theorem dX3_readKnows_14 : dc cX3_readKnows 14 (.istore_n 2) 1 15 := ⟨by decide +kernel, rfl⟩
theorem dX3_readKnows_15 : dc cX3_readKnows 15 (.iload_n 2) 1 16 := ⟨by decide +kernel, rfl⟩
theorem dX3_readKnows_16 : dc cX3_readKnows 16 (.iconst (-1)) 1 17 := ⟨by decide +kernel, rfl⟩
theorem dX3_readKnows_17 : dc cX3_readKnows 17 (.if_icmp .ne 7) 3 20 := ⟨by decide +kernel, rfl⟩
theorem dX3_readKnows_20 : dc cX3_readKnows 20 (.iconst (-1)) 1 21 := ⟨by decide +kernel, rfl⟩
theorem dX3_readKnows_21 : dc cX3_readKnows 21 (.goto 8) 3 24 := ⟨by decide +kernel, rfl⟩
theorem dX3_readKnows_24 : dc cX3_readKnows 24 (.aload_n 0) 1 25 := ⟨by decide +kernel, rfl⟩
theorem dX3_readKnows_25 : dc cX3_readKnows 25 (.aload_n 1) 1 26 := ⟨by decide +kernel, rfl⟩
theorem dX3_readKnows_26 : dc cX3_readKnows 26 (.invokevirtual 133) 3 29 := ⟨by decide +kernel, rfl⟩
theorem dX3_readKnows_29 : dc cX3_readKnows 29 (.istore_n 3) 1 30 := ⟨by decide +kernel, rfl⟩
theorem dX3_readKnows_30 : dc cX3_readKnows 30 (.iload_n 3) 1 31 := ⟨by decide +kernel, rfl⟩
theorem dX3_readKnows_31 : dc cX3_readKnows 31 (.iconst (-1)) 1 32 := ⟨by decide +kernel, rfl⟩
theorem dX3_readKnows_32 : dc cX3_readKnows 32 (.if_icmp .ne 7) 3 35 := ⟨by decide +kernel, rfl⟩
theorem dX3_readKnows_35 : dc cX3_readKnows 35 (.iconst (-1)) 1 36 := ⟨by decide +kernel, rfl⟩
theorem dX3_readKnows_36 : dc cX3_readKnows 36 (.goto 8) 3 39 := ⟨by decide +kernel, rfl⟩
theorem dX3_readKnows_39 : dc cX3_readKnows 39 (.aload_n 0) 1 40 := ⟨by decide +kernel, rfl⟩
theorem dX3_readKnows_40 : dc cX3_readKnows 40 (.aload_n 1) 1 41 := ⟨by decide +kernel, rfl⟩
theorem dX3_readKnows_41 : dc cX3_readKnows 41 (.invokevirtual 133) 3 44 := ⟨by decide +kernel, rfl⟩
theorem dX3_readKnows_44 : dc cX3_readKnows 44 (.istore 4) 2 46 := ⟨by decide +kernel, rfl⟩
theorem dX3_readKnows_46 : dc cX3_readKnows 46 (.iload 4) 2 48 := ⟨by decide +kernel, rfl⟩
theorem dX3_readKnows_48 : dc cX3_readKnows 48 (.iconst (-1)) 1 49 := ⟨by decide +kernel, rfl⟩
theorem dX3_readKnows_49 : dc cX3_readKnows 49 (.if_icmp .ne 5) 3 52 := ⟨by decide +kernel, rfl⟩
theorem dX3_readKnows_52 : dc cX3_readKnows 52 (.iconst 0) 1 53 := ⟨by decide +kernel, rfl⟩
theorem dX3_readKnows_53 : dc cX3_readKnows 53 (.ireturn) 1 54 := ⟨by decide +kernel, rfl⟩
theorem dX3_readKnows_54 : dc cX3_readKnows 54 (.aload_n 1) 1 55 := ⟨by decide +kernel, rfl⟩
theorem dX3_readKnows_55 : dc cX3_readKnows 55 (.iload_n 3) 1 56 := ⟨by decide +kernel, rfl⟩
theorem dX3_readKnows_56 : dc cX3_readKnows 56 (.iload 4) 2 58 := ⟨by decide +kernel, rfl⟩
theorem dX3_readKnows_58 : dc cX3_readKnows 58 (.invokevirtual 137) 3 61 := ⟨by decide +kernel, rfl⟩
theorem dX3_readKnows_61 : dc cX3_readKnows 61 (.istore 5) 2 63 := ⟨by decide +kernel, rfl⟩
theorem dX3_readKnows_63 : dc cX3_readKnows 63 (.iload 5) 2 65 := ⟨by decide +kernel, rfl⟩
theorem dX3_readKnows_65 : dc cX3_readKnows 65 (.iconst (-1)) 1 66 := ⟨by decide +kernel, rfl⟩
theorem dX3_readKnows_66 : dc cX3_readKnows 66 (.if_icmp .ne 9) 3 69 := ⟨by decide +kernel, rfl⟩
theorem dX3_readKnows_69 : dc cX3_readKnows 69 (.aload_n 0) 1 70 := ⟨by decide +kernel, rfl⟩
theorem dX3_readKnows_70 : dc cX3_readKnows 70 (.iconst 3) 1 71 := ⟨by decide +kernel, rfl⟩
theorem dX3_readKnows_71 : dc cX3_readKnows 71 (.invokevirtual 140) 3 74 := ⟨by decide +kernel, rfl⟩
theorem dX3_readKnows_74 : dc cX3_readKnows 74 (.ireturn) 1 75 := ⟨by decide +kernel, rfl⟩
theorem dX3_readKnows_75 : dc cX3_readKnows 75 (.aload_n 1) 1 76 := ⟨by decide +kernel, rfl⟩
theorem dX3_readKnows_76 : dc cX3_readKnows 76 (.getfield 157) 3 79 := ⟨by decide +kernel, rfl⟩
theorem dX3_readKnows_79 : dc cX3_readKnows 79 (.iload_n 2) 1 80 := ⟨by decide +kernel, rfl⟩
theorem dX3_readKnows_80 : dc cX3_readKnows 80 (.aaload) 1 81 := ⟨by decide +kernel, rfl⟩
theorem dX3_readKnows_81 : dc cX3_readKnows 81 (.getfield 161) 3 84 := ⟨by decide +kernel, rfl⟩
theorem dX3_readKnows_84 : dc cX3_readKnows 84 (.iload 5) 2 86 := ⟨by decide +kernel, rfl⟩
theorem dX3_readKnows_86 : dc cX3_readKnows 86 (.aload_n 1) 1 87 := ⟨by decide +kernel, rfl⟩
theorem dX3_readKnows_87 : dc cX3_readKnows 87 (.getfield 119) 3 90 := ⟨by decide +kernel, rfl⟩
theorem dX3_readKnows_90 : dc cX3_readKnows 90 (.iastore) 1 91 := ⟨by decide +kernel, rfl⟩
theorem dX3_readKnows_91 : dc cX3_readKnows 91 (.aload_n 0) 1 92 := ⟨by decide +kernel, rfl⟩
theorem dX3_readKnows_92 : dc cX3_readKnows 92 (.invokevirtual 110) 3 95 := ⟨by decide +kernel, rfl⟩
theorem dX3_readKnows_95 : dc cX3_readKnows 95 (.ireturn) 1 96 := ⟨by decide +kernel, rfl⟩
theorem nm_X3_readKnows : (yX3_readKnows).cls ≠ "java/lang/invoke/MethodHandle" ∧ (yX3_readKnows).cls ≠ "java/lang/invoke/VarHandle" ∧ (parseMethodDescriptor (yX3_readKnows).desc).map (fun d => d.parameters.length) = some 1 := ⟨by decide +kernel, by decide +kernel, by decide +kernel⟩
set_option maxRecDepth 100000 in
theorem z_X3_readKnows (n : Nat) {a0 : Nat} {a1 : Nat} {M : KM} {y : (Int32 × KM)} (hf : f_X3_readKnows n a0 a1 M = some y) : (y.1 = 0 ∨ y.1 = 1) := by
  unfold f_X3_readKnows at hf
  obtain ⟨M1, eM1⟩ : ∃ q : KM, q = (uI M a0 13 (1 : Int32)) := ⟨_, rfl⟩
  replace hf := lt_e hf eM1
  obtain ⟨v2, hcv2, hf⟩ := bd_e hf
  obtain ⟨v3, hcv3, hf⟩ := bd_e hf
  obtain ⟨j29, ej29, hf⟩ := lt_j hf
  have hj29 : ∀ (x4 : Int32) (M5 : KM), j29 x4 M5 = some y → (y.1 = 0 ∨ y.1 = 1) := by
    intro x4 M5 hf
    rw [ej29] at hf
    obtain ⟨j44, ej44, hf⟩ := lt_j hf
    have hj44 : ∀ (x6 : Int32) (M7 : KM), j44 x6 M7 = some y → (y.1 = 0 ∨ y.1 = 1) := by
      intro x6 M7 hf
      rw [ej44] at hf
      by_cases h15 : x6 = (-1 : Int32)
      · replace hf := (if_pos h15).symm.trans hf
        obtain rfl := Option.some.inj hf
        exact (Or.inl rfl)
      · replace hf := (if_neg h15).symm.trans hf
        obtain ⟨v8, hcv8, hf⟩ := bd_e hf
        by_cases h14 : v8 = (-1 : Int32)
        · replace hf := (if_pos h14).symm.trans hf
          obtain ⟨v13, hcv13⟩ : ∃ q, f_X9_failTaken a0 (3 : Int32) M7 = q := ⟨_, rfl⟩
          replace hf := lt_e hf hcv13.symm
          obtain rfl := Option.some.inj hf
          exact (z_X9_failTaken hcv13)
        · replace hf := (if_neg h14).symm.trans hf
          obtain ⟨g9, hf⟩ := gd_e hf
          obtain ⟨g10, hf⟩ := gd_e hf
          obtain ⟨M11, eM11⟩ : ∃ q : KM, q = (uI M7 (((a1 + 6) + 8 + 3 * (v3.1).toNatClampNeg) + 1) (v8).toNatClampNeg (M7.1 a1 13)) := ⟨_, rfl⟩
          replace hf := lt_e hf eM11
          obtain ⟨v12, hcv12, hf⟩ := bd_e hf
          obtain rfl := Option.some.inj hf
          exact (z_X9_takeSemicolon n hcv12)
    by_cases h17 : x4 = (-1 : Int32)
    · replace hf := (if_pos h17).symm.trans hf
      exact hj44 (-1 : Int32) M5 hf
    · replace hf := (if_neg h17).symm.trans hf
      obtain ⟨v16, hcv16, hf⟩ := bd_e hf
      exact hj44 v16.1 v16.2 hf
  by_cases h19 : v3.1 = (-1 : Int32)
  · replace hf := (if_pos h19).symm.trans hf
    exact hj29 (-1 : Int32) v3.2 hf
  · replace hf := (if_neg h19).symm.trans hf
    obtain ⟨v18, hcv18, hf⟩ := bd_e hf
    exact hj29 v18.1 v18.2 hf
set_option maxRecDepth 100000 in
set_option maxHeartbeats 4000000 in
theorem c_X3_readKnows {l : Launch} {ad : Nat → Nat} {cy : Nat → ClassId} {D : va_G} {z : Nat} (n : Nat) {a0 : Nat} {a1 : Nat} {M : KM} {y : (Int32 × KM)} (h0 : kty a0 = 4) (h1 : kty a1 = 3) (hf : f_X3_readKnows n a0 a1 M = some y) : KC l ad cy D z yX3_readKnows cX3_readKnows 6 (some .boolean) 5 [.ref (ad a0), .ref (ad a1)] M (some (.int y.1), y.2) := by
  refine kv_enter (by decide +kernel) (Nat.le_of_ble_eq_true rfl) ?_
  intro x hl hD hz G
  subst hl hD hz
  unfold f_X3_readKnows at hf
  have G : KG ad cy x cX3_readKnows "NoonGuides$LandReader" 6 (some (some .boolean)) 5 := G
  show KV ad cy x (some (.int y.1), y.2) 0 [(0, .ref (ad a0)), (1, .ref (ad a1))] [] M
  refine v_aload_n G dX3_readKnows_0 0 rfl ?_
  refine v_iconst (1 : Int32) G dX3_readKnows_1 (by decide) ?_
  refine pf_3_13 G h0 (Or.inr rfl) t_93 (Or.inl rfl) dX3_readKnows_2 ?_
  refine v_nmM (fun M1 eM1 => ?_)
  replace hf := lt_e hf eM1
  refine v_aload_n G dX3_readKnows_5 0 rfl ?_
  obtain ⟨v2, hcv2, hf⟩ := bd_e hf
  refine v_callU (owner := "NoonGuides$TextReader") [] G (c_X9_skip_L n h0 hcv2) h0 (by decide) rfl rfl t_1038 t_1039 t_1042 t_1041 t_2 t_1043 rfl nm_X9_skip (by decide) (by decide) rfl rfl (Nat.le_of_ble_eq_true rfl) dX3_readKnows_6 (kv_rv ?_)
  refine v_aload_n G dX3_readKnows_9 0 rfl ?_
  refine v_aload_n G dX3_readKnows_10 1 rfl ?_
  obtain ⟨v3, hcv3, hf⟩ := bd_e hf
  refine v_callU (owner := "NoonGuides$TextReader") [.ref (ad a1)] G (c_X9_takePerson_L n h0 h1 hcv3) h0 (by decide) rfl rfl t_1168 t_1169 t_1172 t_1171 t_2 t_1173 rfl nm_X9_takePerson (by decide) (by decide) rfl rfl (Nat.le_of_ble_eq_true rfl) dX3_readKnows_11 (kv_ri ?_)
  refine v_istore_n [(2, .int v3.1), (0, .ref (ad a0)), (1, .ref (ad a1))] G dX3_readKnows_14 (by decide) rfl ?_
  refine v_iload_n G dX3_readKnows_15 0 rfl ?_
  refine v_iconst (-1 : Int32) G dX3_readKnows_16 (by decide) ?_
  obtain ⟨j29, ej29, hf⟩ := lt_j hf
  have hj29 : ∀ (x4 : Int32) (M5 : KM), j29 x4 M5 = some y → KV ad cy x (some (.int y.1), y.2) 29 [(0, .ref (ad a0)), (1, .ref (ad a1)), (2, .int v3.1)] [.int x4] M5 := by
    intro x4 M5 hf
    rw [ej29] at hf
    refine v_istore_n [(3, .int x4), (0, .ref (ad a0)), (1, .ref (ad a1)), (2, .int v3.1)] G dX3_readKnows_29 (by decide) rfl ?_
    refine v_iload_n G dX3_readKnows_30 0 rfl ?_
    refine v_iconst (-1 : Int32) G dX3_readKnows_31 (by decide) ?_
    obtain ⟨j44, ej44, hf⟩ := lt_j hf
    have hj44 : ∀ (x6 : Int32) (M7 : KM), j44 x6 M7 = some y → KV ad cy x (some (.int y.1), y.2) 44 [(0, .ref (ad a0)), (1, .ref (ad a1)), (2, .int v3.1), (3, .int x4)] [.int x6] M7 := by
      intro x6 M7 hf
      rw [ej44] at hf
      refine v_istore [(4, .int x6), (0, .ref (ad a0)), (1, .ref (ad a1)), (2, .int v3.1), (3, .int x4)] G dX3_readKnows_44 (by decide) rfl ?_
      refine v_iload G dX3_readKnows_46 0 rfl ?_
      refine v_iconst (-1 : Int32) G dX3_readKnows_48 (by decide) ?_
      refine v_icmp_ne 54 G dX3_readKnows_49 (by decide) (fun h15 => ?_) (fun h15 => ?_)
      · replace hf := (if_neg h15).symm.trans hf
        refine v_aload_n G dX3_readKnows_54 2 rfl ?_
        refine v_iload_n G dX3_readKnows_55 4 rfl ?_
        refine v_iload G dX3_readKnows_56 0 rfl ?_
        obtain ⟨v8, hcv8, hf⟩ := bd_e hf
        refine v_callV [.int x4, .int x6] G (c_X2_roadBetween n h1 hcv8) h1 (by decide) rfl rfl rfl t_1136 t_570 t_571 t_13 t_572 nm_X2_roadBetween (by decide) (by decide) rfl rfl (Nat.le_of_ble_eq_true rfl) dX3_readKnows_58 (kv_ri ?_)
        refine v_istore [(5, .int v8), (4, .int x6), (0, .ref (ad a0)), (1, .ref (ad a1)), (2, .int v3.1), (3, .int x4)] G dX3_readKnows_61 (by decide) rfl ?_
        refine v_iload G dX3_readKnows_63 0 rfl ?_
        refine v_iconst (-1 : Int32) G dX3_readKnows_65 (by decide) ?_
        refine v_icmp_ne 75 G dX3_readKnows_66 (by decide) (fun h14 => ?_) (fun h14 => ?_)
        · replace hf := (if_neg h14).symm.trans hf
          refine v_aload_n G dX3_readKnows_75 3 rfl ?_
          refine gf_2_5 G h1 t_374 (Or.inl rfl) dX3_readKnows_76 ?_
          refine v_iload_n G dX3_readKnows_79 4 rfl ?_
          obtain ⟨g9, hf⟩ := gd_e hf
          refine al_Person G (kf_2_6 h1) g9 dX3_readKnows_80 ?_
          refine gf_7_0 G (ke_Person (kf_2_6 h1) (ix_lt g9)) t_305 (Or.inl rfl) dX3_readKnows_81 ?_
          refine v_iload G dX3_readKnows_84 0 rfl ?_
          refine v_aload_n G dX3_readKnows_86 3 rfl ?_
          refine gf_2_13 G h1 t_401 (Or.inl rfl) dX3_readKnows_87 ?_
          obtain ⟨g10, hf⟩ := gd_e hf
          refine as_30 G (kf_7_1 (ke_Person (kf_2_6 h1) (ix_lt g9))) g10 dX3_readKnows_90 ?_
          refine v_nmM (fun M11 eM11 => ?_)
          replace hf := lt_e hf eM11
          refine v_aload_n G dX3_readKnows_91 2 rfl ?_
          obtain ⟨v12, hcv12, hf⟩ := bd_e hf
          refine v_callU (owner := "NoonGuides$TextReader") [] G (c_X9_takeSemicolon_L n h0 hcv12) h0 (by decide) rfl rfl t_1074 t_1075 t_1078 t_1077 t_2 t_1079 rfl nm_X9_takeSemicolon (by decide) (by decide) rfl rfl (Nat.le_of_ble_eq_true rfl) dX3_readKnows_92 (kv_ri ?_)
          obtain rfl := Option.some.inj hf
          exact v_zret G (z_X9_takeSemicolon n hcv12) dX3_readKnows_95
        · replace hf := (if_pos h14).symm.trans hf
          refine v_aload_n G dX3_readKnows_69 2 rfl ?_
          refine v_iconst (3 : Int32) G dX3_readKnows_70 (by decide) ?_
          obtain ⟨v13, hcv13⟩ : ∃ q, f_X9_failTaken a0 (3 : Int32) M7 = q := ⟨_, rfl⟩
          replace hf := lt_e hf hcv13.symm
          refine v_callU (owner := "NoonGuides$TextReader") [.int (3 : Int32)] G (c_X9_failTaken_L h0 hcv13) h0 (by decide) rfl rfl t_1137 t_1138 t_1141 t_1140 t_2 t_1142 rfl nm_X9_failTaken (by decide) (by decide) rfl rfl (Nat.le_of_ble_eq_true rfl) dX3_readKnows_71 (kv_ri ?_)
          obtain rfl := Option.some.inj hf
          exact v_zret G (z_X9_failTaken hcv13) dX3_readKnows_74
      · replace hf := (if_pos h15).symm.trans hf
        refine v_iconst (0 : Int32) G dX3_readKnows_52 (by decide) ?_
        obtain rfl := Option.some.inj hf
        exact v_zret G (Or.inl rfl) dX3_readKnows_53
    refine v_icmp_ne 39 G dX3_readKnows_32 (by decide) (fun h17 => ?_) (fun h17 => ?_)
    · replace hf := (if_neg h17).symm.trans hf
      refine v_aload_n G dX3_readKnows_39 1 rfl ?_
      refine v_aload_n G dX3_readKnows_40 2 rfl ?_
      obtain ⟨v16, hcv16, hf⟩ := bd_e hf
      refine v_callU (owner := "NoonGuides$TextReader") [.ref (ad a1)] G (c_X9_takePlace_L n h0 h1 hcv16) h0 (by decide) rfl rfl t_1126 t_1127 t_1130 t_1129 t_2 t_1131 rfl nm_X9_takePlace (by decide) (by decide) rfl rfl (Nat.le_of_ble_eq_true rfl) dX3_readKnows_41 (kv_ri ?_)
      refine v_sub _ [1, 2, 3, 0] rfl ?_
      exact hj44 v16.1 v16.2 hf
    · replace hf := (if_pos h17).symm.trans hf
      refine v_iconst (-1 : Int32) G dX3_readKnows_35 (by decide) ?_
      refine v_goto 44 G dX3_readKnows_36 (by decide) ?_
      refine v_sub _ [1, 2, 3, 0] rfl ?_
      exact hj44 (-1 : Int32) M5 hf
  refine v_icmp_ne 24 G dX3_readKnows_17 (by decide) (fun h19 => ?_) (fun h19 => ?_)
  · replace hf := (if_neg h19).symm.trans hf
    refine v_aload_n G dX3_readKnows_24 1 rfl ?_
    refine v_aload_n G dX3_readKnows_25 2 rfl ?_
    obtain ⟨v18, hcv18, hf⟩ := bd_e hf
    refine v_callU (owner := "NoonGuides$TextReader") [.ref (ad a1)] G (c_X9_takePlace_L n h0 h1 hcv18) h0 (by decide) rfl rfl t_1126 t_1127 t_1130 t_1129 t_2 t_1131 rfl nm_X9_takePlace (by decide) (by decide) rfl rfl (Nat.le_of_ble_eq_true rfl) dX3_readKnows_26 (kv_ri ?_)
    refine v_sub _ [1, 2, 0] rfl ?_
    exact hj29 v18.1 v18.2 hf
  · replace hf := (if_pos h19).symm.trans hf
    refine v_iconst (-1 : Int32) G dX3_readKnows_20 (by decide) ?_
    refine v_goto 29 G dX3_readKnows_21 (by decide) ?_
    refine v_sub _ [1, 2, 0] rfl ?_
    exact hj29 (-1 : Int32) v3.2 hf
abbrev cX3_readPart : ByteArray := prog_5_method_3_code
def yX3_readPart : MethodName := ⟨RX3, "readPart", "(LNoonGuides$Land;)Z"⟩
theorem dX3_readPart_0 : dc cX3_readPart 0 (.aload_n 0) 1 1 := ⟨by decide +kernel, rfl⟩
theorem dX3_readPart_1 : dc cX3_readPart 1 (.getfield 36) 3 4 := ⟨by decide +kernel, rfl⟩
theorem dX3_readPart_4 : dc cX3_readPart 4 (.tableswitch 297 0 14 #[76, 297, 97, 118, 139, 160, 181, 208, 297, 297, 235, 297, 297, 263, 291]) 76 80 := ⟨by decide +kernel, rfl⟩
theorem dX3_readPart_80 : dc cX3_readPart 80 (.aload_n 0) 1 81 := ⟨by decide +kernel, rfl⟩
theorem dX3_readPart_81 : dc cX3_readPart 81 (.invokevirtual 39) 3 84 := ⟨by decide +kernel, rfl⟩
theorem dX3_readPart_84 : dc cX3_readPart 84 (.ifCond .eq 15) 3 87 := ⟨by decide +kernel, rfl⟩
theorem dX3_readPart_87 : dc cX3_readPart 87 (.aload_n 0) 1 88 := ⟨by decide +kernel, rfl⟩
theorem dX3_readPart_88 : dc cX3_readPart 88 (.aload_n 1) 1 89 := ⟨by decide +kernel, rfl⟩
theorem dX3_readPart_89 : dc cX3_readPart 89 (.invokevirtual 42) 3 92 := ⟨by decide +kernel, rfl⟩
theorem dX3_readPart_92 : dc cX3_readPart 92 (.ifCond .eq 7) 3 95 := ⟨by decide +kernel, rfl⟩
theorem dX3_readPart_95 : dc cX3_readPart 95 (.iconst 1) 1 96 := ⟨by decide +kernel, rfl⟩
theorem dX3_readPart_96 : dc cX3_readPart 96 (.goto 4) 3 99 := ⟨by decide +kernel, rfl⟩
theorem dX3_readPart_99 : dc cX3_readPart 99 (.iconst 0) 1 100 := ⟨by decide +kernel, rfl⟩
theorem dX3_readPart_100 : dc cX3_readPart 100 (.ireturn) 1 101 := ⟨by decide +kernel, rfl⟩
theorem dX3_readPart_101 : dc cX3_readPart 101 (.aload_n 0) 1 102 := ⟨by decide +kernel, rfl⟩
theorem dX3_readPart_102 : dc cX3_readPart 102 (.invokevirtual 39) 3 105 := ⟨by decide +kernel, rfl⟩
theorem dX3_readPart_105 : dc cX3_readPart 105 (.ifCond .eq 15) 3 108 := ⟨by decide +kernel, rfl⟩
theorem dX3_readPart_108 : dc cX3_readPart 108 (.aload_n 0) 1 109 := ⟨by decide +kernel, rfl⟩
theorem dX3_readPart_109 : dc cX3_readPart 109 (.aload_n 1) 1 110 := ⟨by decide +kernel, rfl⟩
theorem dX3_readPart_110 : dc cX3_readPart 110 (.invokevirtual 45) 3 113 := ⟨by decide +kernel, rfl⟩
theorem dX3_readPart_113 : dc cX3_readPart 113 (.ifCond .eq 7) 3 116 := ⟨by decide +kernel, rfl⟩
theorem dX3_readPart_116 : dc cX3_readPart 116 (.iconst 1) 1 117 := ⟨by decide +kernel, rfl⟩
theorem dX3_readPart_117 : dc cX3_readPart 117 (.goto 4) 3 120 := ⟨by decide +kernel, rfl⟩
theorem dX3_readPart_120 : dc cX3_readPart 120 (.iconst 0) 1 121 := ⟨by decide +kernel, rfl⟩
theorem dX3_readPart_121 : dc cX3_readPart 121 (.ireturn) 1 122 := ⟨by decide +kernel, rfl⟩
theorem dX3_readPart_122 : dc cX3_readPart 122 (.aload_n 0) 1 123 := ⟨by decide +kernel, rfl⟩
theorem dX3_readPart_123 : dc cX3_readPart 123 (.invokevirtual 39) 3 126 := ⟨by decide +kernel, rfl⟩
theorem dX3_readPart_126 : dc cX3_readPart 126 (.ifCond .eq 15) 3 129 := ⟨by decide +kernel, rfl⟩
theorem dX3_readPart_129 : dc cX3_readPart 129 (.aload_n 0) 1 130 := ⟨by decide +kernel, rfl⟩
theorem dX3_readPart_130 : dc cX3_readPart 130 (.aload_n 1) 1 131 := ⟨by decide +kernel, rfl⟩
theorem dX3_readPart_131 : dc cX3_readPart 131 (.invokevirtual 48) 3 134 := ⟨by decide +kernel, rfl⟩
theorem dX3_readPart_134 : dc cX3_readPart 134 (.ifCond .eq 7) 3 137 := ⟨by decide +kernel, rfl⟩
theorem dX3_readPart_137 : dc cX3_readPart 137 (.iconst 1) 1 138 := ⟨by decide +kernel, rfl⟩
theorem dX3_readPart_138 : dc cX3_readPart 138 (.goto 4) 3 141 := ⟨by decide +kernel, rfl⟩
theorem dX3_readPart_141 : dc cX3_readPart 141 (.iconst 0) 1 142 := ⟨by decide +kernel, rfl⟩
theorem dX3_readPart_142 : dc cX3_readPart 142 (.ireturn) 1 143 := ⟨by decide +kernel, rfl⟩
theorem dX3_readPart_143 : dc cX3_readPart 143 (.aload_n 0) 1 144 := ⟨by decide +kernel, rfl⟩
theorem dX3_readPart_144 : dc cX3_readPart 144 (.invokevirtual 39) 3 147 := ⟨by decide +kernel, rfl⟩
theorem dX3_readPart_147 : dc cX3_readPart 147 (.ifCond .eq 15) 3 150 := ⟨by decide +kernel, rfl⟩
theorem dX3_readPart_150 : dc cX3_readPart 150 (.aload_n 0) 1 151 := ⟨by decide +kernel, rfl⟩
theorem dX3_readPart_151 : dc cX3_readPart 151 (.aload_n 1) 1 152 := ⟨by decide +kernel, rfl⟩
theorem dX3_readPart_152 : dc cX3_readPart 152 (.invokevirtual 51) 3 155 := ⟨by decide +kernel, rfl⟩
theorem dX3_readPart_155 : dc cX3_readPart 155 (.ifCond .eq 7) 3 158 := ⟨by decide +kernel, rfl⟩
theorem dX3_readPart_158 : dc cX3_readPart 158 (.iconst 1) 1 159 := ⟨by decide +kernel, rfl⟩
theorem dX3_readPart_159 : dc cX3_readPart 159 (.goto 4) 3 162 := ⟨by decide +kernel, rfl⟩
theorem dX3_readPart_162 : dc cX3_readPart 162 (.iconst 0) 1 163 := ⟨by decide +kernel, rfl⟩
theorem dX3_readPart_163 : dc cX3_readPart 163 (.ireturn) 1 164 := ⟨by decide +kernel, rfl⟩
theorem dX3_readPart_164 : dc cX3_readPart 164 (.aload_n 0) 1 165 := ⟨by decide +kernel, rfl⟩
theorem dX3_readPart_165 : dc cX3_readPart 165 (.invokevirtual 39) 3 168 := ⟨by decide +kernel, rfl⟩
theorem dX3_readPart_168 : dc cX3_readPart 168 (.ifCond .eq 15) 3 171 := ⟨by decide +kernel, rfl⟩
theorem dX3_readPart_171 : dc cX3_readPart 171 (.aload_n 0) 1 172 := ⟨by decide +kernel, rfl⟩
theorem dX3_readPart_172 : dc cX3_readPart 172 (.aload_n 1) 1 173 := ⟨by decide +kernel, rfl⟩
theorem dX3_readPart_173 : dc cX3_readPart 173 (.invokevirtual 54) 3 176 := ⟨by decide +kernel, rfl⟩
theorem dX3_readPart_176 : dc cX3_readPart 176 (.ifCond .eq 7) 3 179 := ⟨by decide +kernel, rfl⟩
theorem dX3_readPart_179 : dc cX3_readPart 179 (.iconst 1) 1 180 := ⟨by decide +kernel, rfl⟩
theorem dX3_readPart_180 : dc cX3_readPart 180 (.goto 4) 3 183 := ⟨by decide +kernel, rfl⟩
theorem dX3_readPart_183 : dc cX3_readPart 183 (.iconst 0) 1 184 := ⟨by decide +kernel, rfl⟩
theorem dX3_readPart_184 : dc cX3_readPart 184 (.ireturn) 1 185 := ⟨by decide +kernel, rfl⟩
theorem dX3_readPart_185 : dc cX3_readPart 185 (.aload_n 0) 1 186 := ⟨by decide +kernel, rfl⟩
theorem dX3_readPart_186 : dc cX3_readPart 186 (.aload_n 1) 1 187 := ⟨by decide +kernel, rfl⟩
theorem dX3_readPart_187 : dc cX3_readPart 187 (.getfield 57) 3 190 := ⟨by decide +kernel, rfl⟩
theorem dX3_readPart_190 : dc cX3_readPart 190 (.bipush 8) 2 192 := ⟨by decide +kernel, rfl⟩
theorem dX3_readPart_192 : dc cX3_readPart 192 (.invokevirtual 60) 3 195 := ⟨by decide +kernel, rfl⟩
theorem dX3_readPart_195 : dc cX3_readPart 195 (.ifCond .eq 15) 3 198 := ⟨by decide +kernel, rfl⟩
theorem dX3_readPart_198 : dc cX3_readPart 198 (.aload_n 0) 1 199 := ⟨by decide +kernel, rfl⟩
theorem dX3_readPart_199 : dc cX3_readPart 199 (.aload_n 1) 1 200 := ⟨by decide +kernel, rfl⟩
theorem dX3_readPart_200 : dc cX3_readPart 200 (.invokevirtual 64) 3 203 := ⟨by decide +kernel, rfl⟩
theorem dX3_readPart_203 : dc cX3_readPart 203 (.ifCond .eq 7) 3 206 := ⟨by decide +kernel, rfl⟩
theorem dX3_readPart_206 : dc cX3_readPart 206 (.iconst 1) 1 207 := ⟨by decide +kernel, rfl⟩
theorem dX3_readPart_207 : dc cX3_readPart 207 (.goto 4) 3 210 := ⟨by decide +kernel, rfl⟩
theorem dX3_readPart_210 : dc cX3_readPart 210 (.iconst 0) 1 211 := ⟨by decide +kernel, rfl⟩
theorem dX3_readPart_211 : dc cX3_readPart 211 (.ireturn) 1 212 := ⟨by decide +kernel, rfl⟩
theorem dX3_readPart_212 : dc cX3_readPart 212 (.aload_n 0) 1 213 := ⟨by decide +kernel, rfl⟩
theorem dX3_readPart_213 : dc cX3_readPart 213 (.aload_n 1) 1 214 := ⟨by decide +kernel, rfl⟩
theorem dX3_readPart_214 : dc cX3_readPart 214 (.getfield 67) 3 217 := ⟨by decide +kernel, rfl⟩
theorem dX3_readPart_217 : dc cX3_readPart 217 (.bipush 12) 2 219 := ⟨by decide +kernel, rfl⟩
theorem dX3_readPart_219 : dc cX3_readPart 219 (.invokevirtual 60) 3 222 := ⟨by decide +kernel, rfl⟩
theorem dX3_readPart_222 : dc cX3_readPart 222 (.ifCond .eq 15) 3 225 := ⟨by decide +kernel, rfl⟩
theorem dX3_readPart_225 : dc cX3_readPart 225 (.aload_n 0) 1 226 := ⟨by decide +kernel, rfl⟩
theorem dX3_readPart_226 : dc cX3_readPart 226 (.aload_n 1) 1 227 := ⟨by decide +kernel, rfl⟩
theorem dX3_readPart_227 : dc cX3_readPart 227 (.invokevirtual 70) 3 230 := ⟨by decide +kernel, rfl⟩
theorem dX3_readPart_230 : dc cX3_readPart 230 (.ifCond .eq 7) 3 233 := ⟨by decide +kernel, rfl⟩
theorem dX3_readPart_233 : dc cX3_readPart 233 (.iconst 1) 1 234 := ⟨by decide +kernel, rfl⟩
theorem dX3_readPart_234 : dc cX3_readPart 234 (.goto 4) 3 237 := ⟨by decide +kernel, rfl⟩
theorem dX3_readPart_237 : dc cX3_readPart 237 (.iconst 0) 1 238 := ⟨by decide +kernel, rfl⟩
theorem dX3_readPart_238 : dc cX3_readPart 238 (.ireturn) 1 239 := ⟨by decide +kernel, rfl⟩
theorem dX3_readPart_239 : dc cX3_readPart 239 (.aload_n 0) 1 240 := ⟨by decide +kernel, rfl⟩
theorem dX3_readPart_240 : dc cX3_readPart 240 (.aload_n 1) 1 241 := ⟨by decide +kernel, rfl⟩
theorem dX3_readPart_241 : dc cX3_readPart 241 (.getfield 73) 3 244 := ⟨by decide +kernel, rfl⟩
theorem dX3_readPart_244 : dc cX3_readPart 244 (.bipush 8) 2 246 := ⟨by decide +kernel, rfl⟩
theorem dX3_readPart_246 : dc cX3_readPart 246 (.invokevirtual 60) 3 249 := ⟨by decide +kernel, rfl⟩
theorem dX3_readPart_249 : dc cX3_readPart 249 (.ifCond .eq 16) 3 252 := ⟨by decide +kernel, rfl⟩
theorem dX3_readPart_252 : dc cX3_readPart 252 (.aload_n 0) 1 253 := ⟨by decide +kernel, rfl⟩
theorem dX3_readPart_253 : dc cX3_readPart 253 (.aload_n 1) 1 254 := ⟨by decide +kernel, rfl⟩
theorem dX3_readPart_254 : dc cX3_readPart 254 (.iconst 1) 1 255 := ⟨by decide +kernel, rfl⟩
theorem dX3_readPart_255 : dc cX3_readPart 255 (.invokevirtual 76) 3 258 := ⟨by decide +kernel, rfl⟩
theorem dX3_readPart_258 : dc cX3_readPart 258 (.ifCond .eq 7) 3 261 := ⟨by decide +kernel, rfl⟩
theorem dX3_readPart_261 : dc cX3_readPart 261 (.iconst 1) 1 262 := ⟨by decide +kernel, rfl⟩
theorem dX3_readPart_262 : dc cX3_readPart 262 (.goto 4) 3 265 := ⟨by decide +kernel, rfl⟩
theorem dX3_readPart_265 : dc cX3_readPart 265 (.iconst 0) 1 266 := ⟨by decide +kernel, rfl⟩
theorem dX3_readPart_266 : dc cX3_readPart 266 (.ireturn) 1 267 := ⟨by decide +kernel, rfl⟩
theorem dX3_readPart_267 : dc cX3_readPart 267 (.aload_n 0) 1 268 := ⟨by decide +kernel, rfl⟩
theorem dX3_readPart_268 : dc cX3_readPart 268 (.aload_n 1) 1 269 := ⟨by decide +kernel, rfl⟩
theorem dX3_readPart_269 : dc cX3_readPart 269 (.getfield 73) 3 272 := ⟨by decide +kernel, rfl⟩
theorem dX3_readPart_272 : dc cX3_readPart 272 (.bipush 8) 2 274 := ⟨by decide +kernel, rfl⟩
theorem dX3_readPart_274 : dc cX3_readPart 274 (.invokevirtual 60) 3 277 := ⟨by decide +kernel, rfl⟩
theorem dX3_readPart_277 : dc cX3_readPart 277 (.ifCond .eq 16) 3 280 := ⟨by decide +kernel, rfl⟩
theorem dX3_readPart_280 : dc cX3_readPart 280 (.aload_n 0) 1 281 := ⟨by decide +kernel, rfl⟩
theorem dX3_readPart_281 : dc cX3_readPart 281 (.aload_n 1) 1 282 := ⟨by decide +kernel, rfl⟩
theorem dX3_readPart_282 : dc cX3_readPart 282 (.iconst 0) 1 283 := ⟨by decide +kernel, rfl⟩
theorem dX3_readPart_283 : dc cX3_readPart 283 (.invokevirtual 76) 3 286 := ⟨by decide +kernel, rfl⟩
theorem dX3_readPart_286 : dc cX3_readPart 286 (.ifCond .eq 7) 3 289 := ⟨by decide +kernel, rfl⟩
theorem dX3_readPart_289 : dc cX3_readPart 289 (.iconst 1) 1 290 := ⟨by decide +kernel, rfl⟩
theorem dX3_readPart_290 : dc cX3_readPart 290 (.goto 4) 3 293 := ⟨by decide +kernel, rfl⟩
theorem dX3_readPart_293 : dc cX3_readPart 293 (.iconst 0) 1 294 := ⟨by decide +kernel, rfl⟩
theorem dX3_readPart_294 : dc cX3_readPart 294 (.ireturn) 1 295 := ⟨by decide +kernel, rfl⟩
theorem dX3_readPart_295 : dc cX3_readPart 295 (.aload_n 0) 1 296 := ⟨by decide +kernel, rfl⟩
theorem dX3_readPart_296 : dc cX3_readPart 296 (.aload_n 1) 1 297 := ⟨by decide +kernel, rfl⟩
theorem dX3_readPart_297 : dc cX3_readPart 297 (.invokevirtual 80) 3 300 := ⟨by decide +kernel, rfl⟩
theorem dX3_readPart_300 : dc cX3_readPart 300 (.ireturn) 1 301 := ⟨by decide +kernel, rfl⟩
theorem dX3_readPart_301 : dc cX3_readPart 301 (.aload_n 0) 1 302 := ⟨by decide +kernel, rfl⟩
theorem dX3_readPart_302 : dc cX3_readPart 302 (.invokevirtual 83) 3 305 := ⟨by decide +kernel, rfl⟩
theorem dX3_readPart_305 : dc cX3_readPart 305 (.ireturn) 1 306 := ⟨by decide +kernel, rfl⟩
theorem nm_X3_readPart : (yX3_readPart).cls ≠ "java/lang/invoke/MethodHandle" ∧ (yX3_readPart).cls ≠ "java/lang/invoke/VarHandle" ∧ (parseMethodDescriptor (yX3_readPart).desc).map (fun d => d.parameters.length) = some 1 := ⟨by decide +kernel, by decide +kernel, by decide +kernel⟩
set_option maxRecDepth 100000 in
theorem z_X3_readPart (n : Nat) {a0 : Nat} {a1 : Nat} {M : KM} {y : (Int32 × KM)} (hf : f_X3_readPart n a0 a1 M = some y) : (y.1 = 0 ∨ y.1 = 1) := by
  unfold f_X3_readPart at hf
  obtain ⟨v1, ev1⟩ : ∃ q, q = ((M.1 a0 7) : Int32) := ⟨_, rfl⟩
  replace hf := lt_e hf ev1
  by_cases h6 : v1 = (0 : Int32)
  · replace hf := (if_pos h6).symm.trans hf
    obtain ⟨v2, hcv2, hf⟩ := bd_e hf
    by_cases h5 : v2.1 = 0
    · replace hf := (if_pos h5).symm.trans hf
      obtain rfl := Option.some.inj hf
      exact (Or.inl rfl)
    · replace hf := (if_neg h5).symm.trans hf
      obtain ⟨v3, hcv3, hf⟩ := bd_e hf
      by_cases h4 : v3.1 = 0
      · replace hf := (if_pos h4).symm.trans hf
        obtain rfl := Option.some.inj hf
        exact (Or.inl rfl)
      · replace hf := (if_neg h4).symm.trans hf
        obtain rfl := Option.some.inj hf
        exact (Or.inr rfl)
  replace hf := (if_neg h6).symm.trans hf
  by_cases h8 : v1 = (1 : Int32)
  · replace hf := (if_pos h8).symm.trans hf
    obtain ⟨v7, hcv7⟩ : ∃ q, f_X9_failOrder a0 M = q := ⟨_, rfl⟩
    replace hf := lt_e hf hcv7.symm
    obtain rfl := Option.some.inj hf
    exact (z_X9_failOrder hcv7)
  replace hf := (if_neg h8).symm.trans hf
  by_cases h13 : v1 = (2 : Int32)
  · replace hf := (if_pos h13).symm.trans hf
    obtain ⟨v9, hcv9, hf⟩ := bd_e hf
    by_cases h12 : v9.1 = 0
    · replace hf := (if_pos h12).symm.trans hf
      obtain rfl := Option.some.inj hf
      exact (Or.inl rfl)
    · replace hf := (if_neg h12).symm.trans hf
      obtain ⟨v10, hcv10, hf⟩ := bd_e hf
      by_cases h11 : v10.1 = 0
      · replace hf := (if_pos h11).symm.trans hf
        obtain rfl := Option.some.inj hf
        exact (Or.inl rfl)
      · replace hf := (if_neg h11).symm.trans hf
        obtain rfl := Option.some.inj hf
        exact (Or.inr rfl)
  replace hf := (if_neg h13).symm.trans hf
  by_cases h18 : v1 = (3 : Int32)
  · replace hf := (if_pos h18).symm.trans hf
    obtain ⟨v14, hcv14, hf⟩ := bd_e hf
    by_cases h17 : v14.1 = 0
    · replace hf := (if_pos h17).symm.trans hf
      obtain rfl := Option.some.inj hf
      exact (Or.inl rfl)
    · replace hf := (if_neg h17).symm.trans hf
      obtain ⟨v15, hcv15, hf⟩ := bd_e hf
      by_cases h16 : v15.1 = 0
      · replace hf := (if_pos h16).symm.trans hf
        obtain rfl := Option.some.inj hf
        exact (Or.inl rfl)
      · replace hf := (if_neg h16).symm.trans hf
        obtain rfl := Option.some.inj hf
        exact (Or.inr rfl)
  replace hf := (if_neg h18).symm.trans hf
  by_cases h23 : v1 = (4 : Int32)
  · replace hf := (if_pos h23).symm.trans hf
    obtain ⟨v19, hcv19, hf⟩ := bd_e hf
    by_cases h22 : v19.1 = 0
    · replace hf := (if_pos h22).symm.trans hf
      obtain rfl := Option.some.inj hf
      exact (Or.inl rfl)
    · replace hf := (if_neg h22).symm.trans hf
      obtain ⟨v20, hcv20, hf⟩ := bd_e hf
      by_cases h21 : v20.1 = 0
      · replace hf := (if_pos h21).symm.trans hf
        obtain rfl := Option.some.inj hf
        exact (Or.inl rfl)
      · replace hf := (if_neg h21).symm.trans hf
        obtain rfl := Option.some.inj hf
        exact (Or.inr rfl)
  replace hf := (if_neg h23).symm.trans hf
  by_cases h28 : v1 = (5 : Int32)
  · replace hf := (if_pos h28).symm.trans hf
    obtain ⟨v24, hcv24, hf⟩ := bd_e hf
    by_cases h27 : v24.1 = 0
    · replace hf := (if_pos h27).symm.trans hf
      obtain rfl := Option.some.inj hf
      exact (Or.inl rfl)
    · replace hf := (if_neg h27).symm.trans hf
      obtain ⟨v25, hcv25, hf⟩ := bd_e hf
      by_cases h26 : v25.1 = 0
      · replace hf := (if_pos h26).symm.trans hf
        obtain rfl := Option.some.inj hf
        exact (Or.inl rfl)
      · replace hf := (if_neg h26).symm.trans hf
        obtain rfl := Option.some.inj hf
        exact (Or.inr rfl)
  replace hf := (if_neg h28).symm.trans hf
  by_cases h33 : v1 = (6 : Int32)
  · replace hf := (if_pos h33).symm.trans hf
    obtain ⟨v29, hcv29, hf⟩ := bd_e hf
    by_cases h32 : v29.1 = 0
    · replace hf := (if_pos h32).symm.trans hf
      obtain rfl := Option.some.inj hf
      exact (Or.inl rfl)
    · replace hf := (if_neg h32).symm.trans hf
      obtain ⟨v30, hcv30, hf⟩ := bd_e hf
      by_cases h31 : v30.1 = 0
      · replace hf := (if_pos h31).symm.trans hf
        obtain rfl := Option.some.inj hf
        exact (Or.inl rfl)
      · replace hf := (if_neg h31).symm.trans hf
        obtain rfl := Option.some.inj hf
        exact (Or.inr rfl)
  replace hf := (if_neg h33).symm.trans hf
  by_cases h38 : v1 = (7 : Int32)
  · replace hf := (if_pos h38).symm.trans hf
    obtain ⟨v34, hcv34, hf⟩ := bd_e hf
    by_cases h37 : v34.1 = 0
    · replace hf := (if_pos h37).symm.trans hf
      obtain rfl := Option.some.inj hf
      exact (Or.inl rfl)
    · replace hf := (if_neg h37).symm.trans hf
      obtain ⟨v35, hcv35, hf⟩ := bd_e hf
      by_cases h36 : v35.1 = 0
      · replace hf := (if_pos h36).symm.trans hf
        obtain rfl := Option.some.inj hf
        exact (Or.inl rfl)
      · replace hf := (if_neg h36).symm.trans hf
        obtain rfl := Option.some.inj hf
        exact (Or.inr rfl)
  replace hf := (if_neg h38).symm.trans hf
  by_cases h40 : v1 = (8 : Int32)
  · replace hf := (if_pos h40).symm.trans hf
    obtain ⟨v39, hcv39⟩ : ∃ q, f_X9_failOrder a0 M = q := ⟨_, rfl⟩
    replace hf := lt_e hf hcv39.symm
    obtain rfl := Option.some.inj hf
    exact (z_X9_failOrder hcv39)
  replace hf := (if_neg h40).symm.trans hf
  by_cases h42 : v1 = (9 : Int32)
  · replace hf := (if_pos h42).symm.trans hf
    obtain ⟨v41, hcv41⟩ : ∃ q, f_X9_failOrder a0 M = q := ⟨_, rfl⟩
    replace hf := lt_e hf hcv41.symm
    obtain rfl := Option.some.inj hf
    exact (z_X9_failOrder hcv41)
  replace hf := (if_neg h42).symm.trans hf
  by_cases h47 : v1 = (10 : Int32)
  · replace hf := (if_pos h47).symm.trans hf
    obtain ⟨v43, hcv43, hf⟩ := bd_e hf
    by_cases h46 : v43.1 = 0
    · replace hf := (if_pos h46).symm.trans hf
      obtain rfl := Option.some.inj hf
      exact (Or.inl rfl)
    · replace hf := (if_neg h46).symm.trans hf
      obtain ⟨v44, hcv44, hf⟩ := bd_e hf
      by_cases h45 : v44.1 = 0
      · replace hf := (if_pos h45).symm.trans hf
        obtain rfl := Option.some.inj hf
        exact (Or.inl rfl)
      · replace hf := (if_neg h45).symm.trans hf
        obtain rfl := Option.some.inj hf
        exact (Or.inr rfl)
  replace hf := (if_neg h47).symm.trans hf
  by_cases h49 : v1 = (11 : Int32)
  · replace hf := (if_pos h49).symm.trans hf
    obtain ⟨v48, hcv48⟩ : ∃ q, f_X9_failOrder a0 M = q := ⟨_, rfl⟩
    replace hf := lt_e hf hcv48.symm
    obtain rfl := Option.some.inj hf
    exact (z_X9_failOrder hcv48)
  replace hf := (if_neg h49).symm.trans hf
  by_cases h51 : v1 = (12 : Int32)
  · replace hf := (if_pos h51).symm.trans hf
    obtain ⟨v50, hcv50⟩ : ∃ q, f_X9_failOrder a0 M = q := ⟨_, rfl⟩
    replace hf := lt_e hf hcv50.symm
    obtain rfl := Option.some.inj hf
    exact (z_X9_failOrder hcv50)
  replace hf := (if_neg h51).symm.trans hf
  by_cases h56 : v1 = (13 : Int32)
  · replace hf := (if_pos h56).symm.trans hf
    obtain ⟨v52, hcv52, hf⟩ := bd_e hf
    by_cases h55 : v52.1 = 0
    · replace hf := (if_pos h55).symm.trans hf
      obtain rfl := Option.some.inj hf
      exact (Or.inl rfl)
    · replace hf := (if_neg h55).symm.trans hf
      obtain ⟨v53, hcv53, hf⟩ := bd_e hf
      by_cases h54 : v53.1 = 0
      · replace hf := (if_pos h54).symm.trans hf
        obtain rfl := Option.some.inj hf
        exact (Or.inl rfl)
      · replace hf := (if_neg h54).symm.trans hf
        obtain rfl := Option.some.inj hf
        exact (Or.inr rfl)
  replace hf := (if_neg h56).symm.trans hf
  by_cases h58 : v1 = (14 : Int32)
  · replace hf := (if_pos h58).symm.trans hf
    obtain ⟨v57, hcv57, hf⟩ := bd_e hf
    obtain rfl := Option.some.inj hf
    exact (z_X3_readKnows n hcv57)
  replace hf := (if_neg h58).symm.trans hf
  obtain ⟨v59, hcv59⟩ : ∃ q, f_X9_failOrder a0 M = q := ⟨_, rfl⟩
  replace hf := lt_e hf hcv59.symm
  obtain rfl := Option.some.inj hf
  exact (z_X9_failOrder hcv59)
set_option maxRecDepth 100000 in
set_option maxHeartbeats 4000000 in
theorem c_X3_readPart {l : Launch} {ad : Nat → Nat} {cy : Nat → ClassId} {D : va_G} {z : Nat} (n : Nat) {a0 : Nat} {a1 : Nat} {M : KM} {y : (Int32 × KM)} (h0 : kty a0 = 4) (h1 : kty a1 = 3) (hf : f_X3_readPart n a0 a1 M = some y) : KC l ad cy D z yX3_readPart cX3_readPart 2 (some .boolean) 6 [.ref (ad a0), .ref (ad a1)] M (some (.int y.1), y.2) := by
  refine kv_enter (by decide +kernel) (Nat.le_of_ble_eq_true rfl) ?_
  intro x hl hD hz G
  subst hl hD hz
  unfold f_X3_readPart at hf
  have G : KG ad cy x cX3_readPart "NoonGuides$LandReader" 2 (some (some .boolean)) 6 := G
  show KV ad cy x (some (.int y.1), y.2) 0 [(0, .ref (ad a0)), (1, .ref (ad a1))] [] M
  refine v_aload_n G dX3_readPart_0 0 rfl ?_
  refine gf_3_7 G h0 t_106 (Or.inr t_107) dX3_readPart_1 ?_
  refine v_nmi (fun v1 ev1 => ?_)
  replace hf := lt_e hf ev1
  by_cases h6 : v1 = (0 : Int32)
  · replace hf := (if_pos h6).symm.trans hf
    refine v_tabIn (off := 76) 80 G dX3_readPart_4 (by rw [h6]; decide) (by rw [h6]; decide) (by rw [h6]; rfl) (by decide) ?_
    refine v_aload_n G dX3_readPart_80 0 rfl ?_
    obtain ⟨v2, hcv2, hf⟩ := bd_e hf
    refine v_callV [] G (c_X3_startOnce n h0 hcv2) h0 (by decide) rfl rfl rfl t_1028 t_1030 t_p25 t_3 t_1031 nm_X3_startOnce (by decide) (by decide) rfl rfl (Nat.le_of_ble_eq_true rfl) dX3_readPart_81 (kv_ri ?_)
    refine v_if_eq 99 G dX3_readPart_84 (by decide) (fun h5 => ?_) (fun h5 => ?_)
    · replace hf := (if_pos h5).symm.trans hf
      refine v_iconst (0 : Int32) G dX3_readPart_99 (by decide) ?_
      obtain rfl := Option.some.inj hf
      exact v_zret G (Or.inl rfl) dX3_readPart_100
    · replace hf := (if_neg h5).symm.trans hf
      refine v_aload_n G dX3_readPart_87 0 rfl ?_
      refine v_aload_n G dX3_readPart_88 1 rfl ?_
      obtain ⟨v3, hcv3, hf⟩ := bd_e hf
      refine v_callV [.ref (ad a1)] G (c_X3_readGlare n h0 h1 hcv3) h0 (by decide) rfl rfl rfl t_1044 t_1046 t_p26 t_3 t_1047 nm_X3_readGlare (by decide) (by decide) rfl rfl (Nat.le_of_ble_eq_true rfl) dX3_readPart_89 (kv_ri ?_)
      refine v_if_eq 99 G dX3_readPart_92 (by decide) (fun h4 => ?_) (fun h4 => ?_)
      · replace hf := (if_pos h4).symm.trans hf
        refine v_iconst (0 : Int32) G dX3_readPart_99 (by decide) ?_
        obtain rfl := Option.some.inj hf
        exact v_zret G (Or.inl rfl) dX3_readPart_100
      · replace hf := (if_neg h4).symm.trans hf
        refine v_iconst (1 : Int32) G dX3_readPart_95 (by decide) ?_
        refine v_goto 100 G dX3_readPart_96 (by decide) ?_
        obtain rfl := Option.some.inj hf
        exact v_zret G (Or.inr rfl) dX3_readPart_100
  replace hf := (if_neg h6).symm.trans hf
  by_cases h8 : v1 = (1 : Int32)
  · replace hf := (if_pos h8).symm.trans hf
    refine v_tabIn (off := 297) 301 G dX3_readPart_4 (by rw [h8]; decide) (by rw [h8]; decide) (by rw [h8]; rfl) (by decide) ?_
    refine v_aload_n G dX3_readPart_301 0 rfl ?_
    obtain ⟨v7, hcv7⟩ : ∃ q, f_X9_failOrder a0 M = q := ⟨_, rfl⟩
    replace hf := lt_e hf hcv7.symm
    refine v_callU (owner := "NoonGuides$TextReader") [] G (c_X9_failOrder_L h0 hcv7) h0 (by decide) rfl rfl t_1174 t_1175 t_1055 t_1177 t_2 t_1059 rfl nm_X9_failOrder (by decide) (by decide) rfl rfl (Nat.le_of_ble_eq_true rfl) dX3_readPart_302 (kv_ri ?_)
    obtain rfl := Option.some.inj hf
    exact v_zret G (z_X9_failOrder hcv7) dX3_readPart_305
  replace hf := (if_neg h8).symm.trans hf
  by_cases h13 : v1 = (2 : Int32)
  · replace hf := (if_pos h13).symm.trans hf
    refine v_tabIn (off := 97) 101 G dX3_readPart_4 (by rw [h13]; decide) (by rw [h13]; decide) (by rw [h13]; rfl) (by decide) ?_
    refine v_aload_n G dX3_readPart_101 0 rfl ?_
    obtain ⟨v9, hcv9, hf⟩ := bd_e hf
    refine v_callV [] G (c_X3_startOnce n h0 hcv9) h0 (by decide) rfl rfl rfl t_1028 t_1030 t_p25 t_3 t_1031 nm_X3_startOnce (by decide) (by decide) rfl rfl (Nat.le_of_ble_eq_true rfl) dX3_readPart_102 (kv_ri ?_)
    refine v_if_eq 120 G dX3_readPart_105 (by decide) (fun h12 => ?_) (fun h12 => ?_)
    · replace hf := (if_pos h12).symm.trans hf
      refine v_iconst (0 : Int32) G dX3_readPart_120 (by decide) ?_
      obtain rfl := Option.some.inj hf
      exact v_zret G (Or.inl rfl) dX3_readPart_121
    · replace hf := (if_neg h12).symm.trans hf
      refine v_aload_n G dX3_readPart_108 0 rfl ?_
      refine v_aload_n G dX3_readPart_109 1 rfl ?_
      obtain ⟨v10, hcv10, hf⟩ := bd_e hf
      refine v_callV [.ref (ad a1)] G (c_X3_readClock n h0 h1 hcv10) h0 (by decide) rfl rfl rfl t_1080 t_1082 t_p27 t_3 t_1083 nm_X3_readClock (by decide) (by decide) rfl rfl (Nat.le_of_ble_eq_true rfl) dX3_readPart_110 (kv_ri ?_)
      refine v_if_eq 120 G dX3_readPart_113 (by decide) (fun h11 => ?_) (fun h11 => ?_)
      · replace hf := (if_pos h11).symm.trans hf
        refine v_iconst (0 : Int32) G dX3_readPart_120 (by decide) ?_
        obtain rfl := Option.some.inj hf
        exact v_zret G (Or.inl rfl) dX3_readPart_121
      · replace hf := (if_neg h11).symm.trans hf
        refine v_iconst (1 : Int32) G dX3_readPart_116 (by decide) ?_
        refine v_goto 121 G dX3_readPart_117 (by decide) ?_
        obtain rfl := Option.some.inj hf
        exact v_zret G (Or.inr rfl) dX3_readPart_121
  replace hf := (if_neg h13).symm.trans hf
  by_cases h18 : v1 = (3 : Int32)
  · replace hf := (if_pos h18).symm.trans hf
    refine v_tabIn (off := 118) 122 G dX3_readPart_4 (by rw [h18]; decide) (by rw [h18]; decide) (by rw [h18]; rfl) (by decide) ?_
    refine v_aload_n G dX3_readPart_122 0 rfl ?_
    obtain ⟨v14, hcv14, hf⟩ := bd_e hf
    refine v_callV [] G (c_X3_startOnce n h0 hcv14) h0 (by decide) rfl rfl rfl t_1028 t_1030 t_p25 t_3 t_1031 nm_X3_startOnce (by decide) (by decide) rfl rfl (Nat.le_of_ble_eq_true rfl) dX3_readPart_123 (kv_ri ?_)
    refine v_if_eq 141 G dX3_readPart_126 (by decide) (fun h17 => ?_) (fun h17 => ?_)
    · replace hf := (if_pos h17).symm.trans hf
      refine v_iconst (0 : Int32) G dX3_readPart_141 (by decide) ?_
      obtain rfl := Option.some.inj hf
      exact v_zret G (Or.inl rfl) dX3_readPart_142
    · replace hf := (if_neg h17).symm.trans hf
      refine v_aload_n G dX3_readPart_129 0 rfl ?_
      refine v_aload_n G dX3_readPart_130 1 rfl ?_
      obtain ⟨v15, hcv15, hf⟩ := bd_e hf
      refine v_callV [.ref (ad a1)] G (c_X3_readRope n h0 h1 hcv15) h0 (by decide) rfl rfl rfl t_1084 t_1086 t_p28 t_3 t_1087 nm_X3_readRope (by decide) (by decide) rfl rfl (Nat.le_of_ble_eq_true rfl) dX3_readPart_131 (kv_ri ?_)
      refine v_if_eq 141 G dX3_readPart_134 (by decide) (fun h16 => ?_) (fun h16 => ?_)
      · replace hf := (if_pos h16).symm.trans hf
        refine v_iconst (0 : Int32) G dX3_readPart_141 (by decide) ?_
        obtain rfl := Option.some.inj hf
        exact v_zret G (Or.inl rfl) dX3_readPart_142
      · replace hf := (if_neg h16).symm.trans hf
        refine v_iconst (1 : Int32) G dX3_readPart_137 (by decide) ?_
        refine v_goto 142 G dX3_readPart_138 (by decide) ?_
        obtain rfl := Option.some.inj hf
        exact v_zret G (Or.inr rfl) dX3_readPart_142
  replace hf := (if_neg h18).symm.trans hf
  by_cases h23 : v1 = (4 : Int32)
  · replace hf := (if_pos h23).symm.trans hf
    refine v_tabIn (off := 139) 143 G dX3_readPart_4 (by rw [h23]; decide) (by rw [h23]; decide) (by rw [h23]; rfl) (by decide) ?_
    refine v_aload_n G dX3_readPart_143 0 rfl ?_
    obtain ⟨v19, hcv19, hf⟩ := bd_e hf
    refine v_callV [] G (c_X3_startOnce n h0 hcv19) h0 (by decide) rfl rfl rfl t_1028 t_1030 t_p25 t_3 t_1031 nm_X3_startOnce (by decide) (by decide) rfl rfl (Nat.le_of_ble_eq_true rfl) dX3_readPart_144 (kv_ri ?_)
    refine v_if_eq 162 G dX3_readPart_147 (by decide) (fun h22 => ?_) (fun h22 => ?_)
    · replace hf := (if_pos h22).symm.trans hf
      refine v_iconst (0 : Int32) G dX3_readPart_162 (by decide) ?_
      obtain rfl := Option.some.inj hf
      exact v_zret G (Or.inl rfl) dX3_readPart_163
    · replace hf := (if_neg h22).symm.trans hf
      refine v_aload_n G dX3_readPart_150 0 rfl ?_
      refine v_aload_n G dX3_readPart_151 1 rfl ?_
      obtain ⟨v20, hcv20, hf⟩ := bd_e hf
      refine v_callV [.ref (ad a1)] G (c_X3_readHabit n h0 h1 hcv20) h0 (by decide) rfl rfl rfl t_1088 t_1090 t_p29 t_3 t_1091 nm_X3_readHabit (by decide) (by decide) rfl rfl (Nat.le_of_ble_eq_true rfl) dX3_readPart_152 (kv_ri ?_)
      refine v_if_eq 162 G dX3_readPart_155 (by decide) (fun h21 => ?_) (fun h21 => ?_)
      · replace hf := (if_pos h21).symm.trans hf
        refine v_iconst (0 : Int32) G dX3_readPart_162 (by decide) ?_
        obtain rfl := Option.some.inj hf
        exact v_zret G (Or.inl rfl) dX3_readPart_163
      · replace hf := (if_neg h21).symm.trans hf
        refine v_iconst (1 : Int32) G dX3_readPart_158 (by decide) ?_
        refine v_goto 163 G dX3_readPart_159 (by decide) ?_
        obtain rfl := Option.some.inj hf
        exact v_zret G (Or.inr rfl) dX3_readPart_163
  replace hf := (if_neg h23).symm.trans hf
  by_cases h28 : v1 = (5 : Int32)
  · replace hf := (if_pos h28).symm.trans hf
    refine v_tabIn (off := 160) 164 G dX3_readPart_4 (by rw [h28]; decide) (by rw [h28]; decide) (by rw [h28]; rfl) (by decide) ?_
    refine v_aload_n G dX3_readPart_164 0 rfl ?_
    obtain ⟨v24, hcv24, hf⟩ := bd_e hf
    refine v_callV [] G (c_X3_startOnce n h0 hcv24) h0 (by decide) rfl rfl rfl t_1028 t_1030 t_p25 t_3 t_1031 nm_X3_startOnce (by decide) (by decide) rfl rfl (Nat.le_of_ble_eq_true rfl) dX3_readPart_165 (kv_ri ?_)
    refine v_if_eq 183 G dX3_readPart_168 (by decide) (fun h27 => ?_) (fun h27 => ?_)
    · replace hf := (if_pos h27).symm.trans hf
      refine v_iconst (0 : Int32) G dX3_readPart_183 (by decide) ?_
      obtain rfl := Option.some.inj hf
      exact v_zret G (Or.inl rfl) dX3_readPart_184
    · replace hf := (if_neg h27).symm.trans hf
      refine v_aload_n G dX3_readPart_171 0 rfl ?_
      refine v_aload_n G dX3_readPart_172 1 rfl ?_
      obtain ⟨v25, hcv25, hf⟩ := bd_e hf
      refine v_callV [.ref (ad a1)] G (c_X3_readOdds n h0 h1 hcv25) h0 (by decide) rfl rfl rfl t_1092 t_1094 t_p30 t_3 t_1095 nm_X3_readOdds (by decide) (by decide) rfl rfl (Nat.le_of_ble_eq_true rfl) dX3_readPart_173 (kv_ri ?_)
      refine v_if_eq 183 G dX3_readPart_176 (by decide) (fun h26 => ?_) (fun h26 => ?_)
      · replace hf := (if_pos h26).symm.trans hf
        refine v_iconst (0 : Int32) G dX3_readPart_183 (by decide) ?_
        obtain rfl := Option.some.inj hf
        exact v_zret G (Or.inl rfl) dX3_readPart_184
      · replace hf := (if_neg h26).symm.trans hf
        refine v_iconst (1 : Int32) G dX3_readPart_179 (by decide) ?_
        refine v_goto 184 G dX3_readPart_180 (by decide) ?_
        obtain rfl := Option.some.inj hf
        exact v_zret G (Or.inr rfl) dX3_readPart_184
  replace hf := (if_neg h28).symm.trans hf
  by_cases h33 : v1 = (6 : Int32)
  · replace hf := (if_pos h33).symm.trans hf
    refine v_tabIn (off := 181) 185 G dX3_readPart_4 (by rw [h33]; decide) (by rw [h33]; decide) (by rw [h33]; rfl) (by decide) ?_
    refine v_aload_n G dX3_readPart_185 0 rfl ?_
    refine v_aload_n G dX3_readPart_186 1 rfl ?_
    refine gf_2_8 G h1 t_382 (Or.inl rfl) dX3_readPart_187 ?_
    refine v_bipush (8 : Int32) G dX3_readPart_190 (by decide) ?_
    obtain ⟨v29, hcv29, hf⟩ := bd_e hf
    refine v_callV [.int (M.1 a1 8), .int (8 : Int32)] G (c_X3_start n h0 hcv29) h0 (by decide) rfl rfl rfl t_1096 t_1098 t_p31 t_3 t_1099 nm_X3_start (by decide) (by decide) rfl rfl (Nat.le_of_ble_eq_true rfl) dX3_readPart_192 (kv_ri ?_)
    refine v_if_eq 210 G dX3_readPart_195 (by decide) (fun h32 => ?_) (fun h32 => ?_)
    · replace hf := (if_pos h32).symm.trans hf
      refine v_iconst (0 : Int32) G dX3_readPart_210 (by decide) ?_
      obtain rfl := Option.some.inj hf
      exact v_zret G (Or.inl rfl) dX3_readPart_211
    · replace hf := (if_neg h32).symm.trans hf
      refine v_aload_n G dX3_readPart_198 0 rfl ?_
      refine v_aload_n G dX3_readPart_199 1 rfl ?_
      obtain ⟨v30, hcv30, hf⟩ := bd_e hf
      refine v_callV [.ref (ad a1)] G (c_X3_readPlace n h0 h1 hcv30) h0 (by decide) rfl rfl rfl t_1100 t_1102 t_p32 t_3 t_1103 nm_X3_readPlace (by decide) (by decide) rfl rfl (Nat.le_of_ble_eq_true rfl) dX3_readPart_200 (kv_ri ?_)
      refine v_if_eq 210 G dX3_readPart_203 (by decide) (fun h31 => ?_) (fun h31 => ?_)
      · replace hf := (if_pos h31).symm.trans hf
        refine v_iconst (0 : Int32) G dX3_readPart_210 (by decide) ?_
        obtain rfl := Option.some.inj hf
        exact v_zret G (Or.inl rfl) dX3_readPart_211
      · replace hf := (if_neg h31).symm.trans hf
        refine v_iconst (1 : Int32) G dX3_readPart_206 (by decide) ?_
        refine v_goto 211 G dX3_readPart_207 (by decide) ?_
        obtain rfl := Option.some.inj hf
        exact v_zret G (Or.inr rfl) dX3_readPart_211
  replace hf := (if_neg h33).symm.trans hf
  by_cases h38 : v1 = (7 : Int32)
  · replace hf := (if_pos h38).symm.trans hf
    refine v_tabIn (off := 208) 212 G dX3_readPart_4 (by rw [h38]; decide) (by rw [h38]; decide) (by rw [h38]; rfl) (by decide) ?_
    refine v_aload_n G dX3_readPart_212 0 rfl ?_
    refine v_aload_n G dX3_readPart_213 1 rfl ?_
    refine gf_2_9 G h1 t_386 (Or.inl rfl) dX3_readPart_214 ?_
    refine v_bipush (12 : Int32) G dX3_readPart_217 (by decide) ?_
    obtain ⟨v34, hcv34, hf⟩ := bd_e hf
    refine v_callV [.int (M.1 a1 9), .int (12 : Int32)] G (c_X3_start n h0 hcv34) h0 (by decide) rfl rfl rfl t_1096 t_1098 t_p31 t_3 t_1099 nm_X3_start (by decide) (by decide) rfl rfl (Nat.le_of_ble_eq_true rfl) dX3_readPart_219 (kv_ri ?_)
    refine v_if_eq 237 G dX3_readPart_222 (by decide) (fun h37 => ?_) (fun h37 => ?_)
    · replace hf := (if_pos h37).symm.trans hf
      refine v_iconst (0 : Int32) G dX3_readPart_237 (by decide) ?_
      obtain rfl := Option.some.inj hf
      exact v_zret G (Or.inl rfl) dX3_readPart_238
    · replace hf := (if_neg h37).symm.trans hf
      refine v_aload_n G dX3_readPart_225 0 rfl ?_
      refine v_aload_n G dX3_readPart_226 1 rfl ?_
      obtain ⟨v35, hcv35, hf⟩ := bd_e hf
      refine v_callV [.ref (ad a1)] G (c_X3_readRoad n h0 h1 hcv35) h0 (by decide) rfl rfl rfl t_1122 t_1124 t_p33 t_3 t_1125 nm_X3_readRoad (by decide) (by decide) rfl rfl (Nat.le_of_ble_eq_true rfl) dX3_readPart_227 (kv_ri ?_)
      refine v_if_eq 237 G dX3_readPart_230 (by decide) (fun h36 => ?_) (fun h36 => ?_)
      · replace hf := (if_pos h36).symm.trans hf
        refine v_iconst (0 : Int32) G dX3_readPart_237 (by decide) ?_
        obtain rfl := Option.some.inj hf
        exact v_zret G (Or.inl rfl) dX3_readPart_238
      · replace hf := (if_neg h36).symm.trans hf
        refine v_iconst (1 : Int32) G dX3_readPart_233 (by decide) ?_
        refine v_goto 238 G dX3_readPart_234 (by decide) ?_
        obtain rfl := Option.some.inj hf
        exact v_zret G (Or.inr rfl) dX3_readPart_238
  replace hf := (if_neg h38).symm.trans hf
  by_cases h40 : v1 = (8 : Int32)
  · replace hf := (if_pos h40).symm.trans hf
    refine v_tabIn (off := 297) 301 G dX3_readPart_4 (by rw [h40]; decide) (by rw [h40]; decide) (by rw [h40]; rfl) (by decide) ?_
    refine v_aload_n G dX3_readPart_301 0 rfl ?_
    obtain ⟨v39, hcv39⟩ : ∃ q, f_X9_failOrder a0 M = q := ⟨_, rfl⟩
    replace hf := lt_e hf hcv39.symm
    refine v_callU (owner := "NoonGuides$TextReader") [] G (c_X9_failOrder_L h0 hcv39) h0 (by decide) rfl rfl t_1174 t_1175 t_1055 t_1177 t_2 t_1059 rfl nm_X9_failOrder (by decide) (by decide) rfl rfl (Nat.le_of_ble_eq_true rfl) dX3_readPart_302 (kv_ri ?_)
    obtain rfl := Option.some.inj hf
    exact v_zret G (z_X9_failOrder hcv39) dX3_readPart_305
  replace hf := (if_neg h40).symm.trans hf
  by_cases h42 : v1 = (9 : Int32)
  · replace hf := (if_pos h42).symm.trans hf
    refine v_tabIn (off := 297) 301 G dX3_readPart_4 (by rw [h42]; decide) (by rw [h42]; decide) (by rw [h42]; rfl) (by decide) ?_
    refine v_aload_n G dX3_readPart_301 0 rfl ?_
    obtain ⟨v41, hcv41⟩ : ∃ q, f_X9_failOrder a0 M = q := ⟨_, rfl⟩
    replace hf := lt_e hf hcv41.symm
    refine v_callU (owner := "NoonGuides$TextReader") [] G (c_X9_failOrder_L h0 hcv41) h0 (by decide) rfl rfl t_1174 t_1175 t_1055 t_1177 t_2 t_1059 rfl nm_X9_failOrder (by decide) (by decide) rfl rfl (Nat.le_of_ble_eq_true rfl) dX3_readPart_302 (kv_ri ?_)
    obtain rfl := Option.some.inj hf
    exact v_zret G (z_X9_failOrder hcv41) dX3_readPart_305
  replace hf := (if_neg h42).symm.trans hf
  by_cases h47 : v1 = (10 : Int32)
  · replace hf := (if_pos h47).symm.trans hf
    refine v_tabIn (off := 235) 239 G dX3_readPart_4 (by rw [h47]; decide) (by rw [h47]; decide) (by rw [h47]; rfl) (by decide) ?_
    refine v_aload_n G dX3_readPart_239 0 rfl ?_
    refine v_aload_n G dX3_readPart_240 1 rfl ?_
    refine gf_2_10 G h1 t_391 (Or.inl rfl) dX3_readPart_241 ?_
    refine v_bipush (8 : Int32) G dX3_readPart_244 (by decide) ?_
    obtain ⟨v43, hcv43, hf⟩ := bd_e hf
    refine v_callV [.int (M.1 a1 10), .int (8 : Int32)] G (c_X3_start n h0 hcv43) h0 (by decide) rfl rfl rfl t_1096 t_1098 t_p31 t_3 t_1099 nm_X3_start (by decide) (by decide) rfl rfl (Nat.le_of_ble_eq_true rfl) dX3_readPart_246 (kv_ri ?_)
    refine v_if_eq 265 G dX3_readPart_249 (by decide) (fun h46 => ?_) (fun h46 => ?_)
    · replace hf := (if_pos h46).symm.trans hf
      refine v_iconst (0 : Int32) G dX3_readPart_265 (by decide) ?_
      obtain rfl := Option.some.inj hf
      exact v_zret G (Or.inl rfl) dX3_readPart_266
    · replace hf := (if_neg h46).symm.trans hf
      refine v_aload_n G dX3_readPart_252 0 rfl ?_
      refine v_aload_n G dX3_readPart_253 1 rfl ?_
      refine v_iconst (1 : Int32) G dX3_readPart_254 (by decide) ?_
      obtain ⟨v44, hcv44, hf⟩ := bd_e hf
      refine v_callV [.ref (ad a1), .int (1 : Int32)] G (c_X3_readPerson n h0 h1 hcv44) h0 (by decide) rfl rfl rfl t_1151 t_1153 t_p34 t_3 t_1154 nm_X3_readPerson (by decide) (by decide) rfl rfl (Nat.le_of_ble_eq_true rfl) dX3_readPart_255 (kv_ri ?_)
      refine v_if_eq 265 G dX3_readPart_258 (by decide) (fun h45 => ?_) (fun h45 => ?_)
      · replace hf := (if_pos h45).symm.trans hf
        refine v_iconst (0 : Int32) G dX3_readPart_265 (by decide) ?_
        obtain rfl := Option.some.inj hf
        exact v_zret G (Or.inl rfl) dX3_readPart_266
      · replace hf := (if_neg h45).symm.trans hf
        refine v_iconst (1 : Int32) G dX3_readPart_261 (by decide) ?_
        refine v_goto 266 G dX3_readPart_262 (by decide) ?_
        obtain rfl := Option.some.inj hf
        exact v_zret G (Or.inr rfl) dX3_readPart_266
  replace hf := (if_neg h47).symm.trans hf
  by_cases h49 : v1 = (11 : Int32)
  · replace hf := (if_pos h49).symm.trans hf
    refine v_tabIn (off := 297) 301 G dX3_readPart_4 (by rw [h49]; decide) (by rw [h49]; decide) (by rw [h49]; rfl) (by decide) ?_
    refine v_aload_n G dX3_readPart_301 0 rfl ?_
    obtain ⟨v48, hcv48⟩ : ∃ q, f_X9_failOrder a0 M = q := ⟨_, rfl⟩
    replace hf := lt_e hf hcv48.symm
    refine v_callU (owner := "NoonGuides$TextReader") [] G (c_X9_failOrder_L h0 hcv48) h0 (by decide) rfl rfl t_1174 t_1175 t_1055 t_1177 t_2 t_1059 rfl nm_X9_failOrder (by decide) (by decide) rfl rfl (Nat.le_of_ble_eq_true rfl) dX3_readPart_302 (kv_ri ?_)
    obtain rfl := Option.some.inj hf
    exact v_zret G (z_X9_failOrder hcv48) dX3_readPart_305
  replace hf := (if_neg h49).symm.trans hf
  by_cases h51 : v1 = (12 : Int32)
  · replace hf := (if_pos h51).symm.trans hf
    refine v_tabIn (off := 297) 301 G dX3_readPart_4 (by rw [h51]; decide) (by rw [h51]; decide) (by rw [h51]; rfl) (by decide) ?_
    refine v_aload_n G dX3_readPart_301 0 rfl ?_
    obtain ⟨v50, hcv50⟩ : ∃ q, f_X9_failOrder a0 M = q := ⟨_, rfl⟩
    replace hf := lt_e hf hcv50.symm
    refine v_callU (owner := "NoonGuides$TextReader") [] G (c_X9_failOrder_L h0 hcv50) h0 (by decide) rfl rfl t_1174 t_1175 t_1055 t_1177 t_2 t_1059 rfl nm_X9_failOrder (by decide) (by decide) rfl rfl (Nat.le_of_ble_eq_true rfl) dX3_readPart_302 (kv_ri ?_)
    obtain rfl := Option.some.inj hf
    exact v_zret G (z_X9_failOrder hcv50) dX3_readPart_305
  replace hf := (if_neg h51).symm.trans hf
  by_cases h56 : v1 = (13 : Int32)
  · replace hf := (if_pos h56).symm.trans hf
    refine v_tabIn (off := 263) 267 G dX3_readPart_4 (by rw [h56]; decide) (by rw [h56]; decide) (by rw [h56]; rfl) (by decide) ?_
    refine v_aload_n G dX3_readPart_267 0 rfl ?_
    refine v_aload_n G dX3_readPart_268 1 rfl ?_
    refine gf_2_10 G h1 t_391 (Or.inl rfl) dX3_readPart_269 ?_
    refine v_bipush (8 : Int32) G dX3_readPart_272 (by decide) ?_
    obtain ⟨v52, hcv52, hf⟩ := bd_e hf
    refine v_callV [.int (M.1 a1 10), .int (8 : Int32)] G (c_X3_start n h0 hcv52) h0 (by decide) rfl rfl rfl t_1096 t_1098 t_p31 t_3 t_1099 nm_X3_start (by decide) (by decide) rfl rfl (Nat.le_of_ble_eq_true rfl) dX3_readPart_274 (kv_ri ?_)
    refine v_if_eq 293 G dX3_readPart_277 (by decide) (fun h55 => ?_) (fun h55 => ?_)
    · replace hf := (if_pos h55).symm.trans hf
      refine v_iconst (0 : Int32) G dX3_readPart_293 (by decide) ?_
      obtain rfl := Option.some.inj hf
      exact v_zret G (Or.inl rfl) dX3_readPart_294
    · replace hf := (if_neg h55).symm.trans hf
      refine v_aload_n G dX3_readPart_280 0 rfl ?_
      refine v_aload_n G dX3_readPart_281 1 rfl ?_
      refine v_iconst (0 : Int32) G dX3_readPart_282 (by decide) ?_
      obtain ⟨v53, hcv53, hf⟩ := bd_e hf
      refine v_callV [.ref (ad a1), .int (0 : Int32)] G (c_X3_readPerson n h0 h1 hcv53) h0 (by decide) rfl rfl rfl t_1151 t_1153 t_p34 t_3 t_1154 nm_X3_readPerson (by decide) (by decide) rfl rfl (Nat.le_of_ble_eq_true rfl) dX3_readPart_283 (kv_ri ?_)
      refine v_if_eq 293 G dX3_readPart_286 (by decide) (fun h54 => ?_) (fun h54 => ?_)
      · replace hf := (if_pos h54).symm.trans hf
        refine v_iconst (0 : Int32) G dX3_readPart_293 (by decide) ?_
        obtain rfl := Option.some.inj hf
        exact v_zret G (Or.inl rfl) dX3_readPart_294
      · replace hf := (if_neg h54).symm.trans hf
        refine v_iconst (1 : Int32) G dX3_readPart_289 (by decide) ?_
        refine v_goto 294 G dX3_readPart_290 (by decide) ?_
        obtain rfl := Option.some.inj hf
        exact v_zret G (Or.inr rfl) dX3_readPart_294
  replace hf := (if_neg h56).symm.trans hf
  by_cases h58 : v1 = (14 : Int32)
  · replace hf := (if_pos h58).symm.trans hf
    refine v_tabIn (off := 291) 295 G dX3_readPart_4 (by rw [h58]; decide) (by rw [h58]; decide) (by rw [h58]; rfl) (by decide) ?_
    refine v_aload_n G dX3_readPart_295 0 rfl ?_
    refine v_aload_n G dX3_readPart_296 1 rfl ?_
    obtain ⟨v57, hcv57, hf⟩ := bd_e hf
    refine v_callV [.ref (ad a1)] G (c_X3_readKnows n h0 h1 hcv57) h0 (by decide) rfl rfl rfl t_1164 t_1166 t_p35 t_3 t_1167 nm_X3_readKnows (by decide) (by decide) rfl rfl (Nat.le_of_ble_eq_true rfl) dX3_readPart_297 (kv_ri ?_)
    obtain rfl := Option.some.inj hf
    exact v_zret G (z_X3_readKnows n hcv57) dX3_readPart_300
  replace hf := (if_neg h58).symm.trans hf
  refine v_tabOut 301 G dX3_readPart_4 (sw_out 0 14 (by decide) (sw_s h6 (sw_s h8 (sw_s h13 (sw_s h18 (sw_s h23 (sw_s h28 (sw_s h33 (sw_s h38 (sw_s h40 (sw_s h42 (sw_s h47 (sw_s h49 (sw_s h51 (sw_s h56 (sw_s h58 sw_e)))))))))))))))) (by decide) ?_
  refine v_aload_n G dX3_readPart_301 0 rfl ?_
  obtain ⟨v59, hcv59⟩ : ∃ q, f_X9_failOrder a0 M = q := ⟨_, rfl⟩
  replace hf := lt_e hf hcv59.symm
  refine v_callU (owner := "NoonGuides$TextReader") [] G (c_X9_failOrder_L h0 hcv59) h0 (by decide) rfl rfl t_1174 t_1175 t_1055 t_1177 t_2 t_1059 rfl nm_X9_failOrder (by decide) (by decide) rfl rfl (Nat.le_of_ble_eq_true rfl) dX3_readPart_302 (kv_ri ?_)
  obtain rfl := Option.some.inj hf
  exact v_zret G (z_X9_failOrder hcv59) dX3_readPart_305
abbrev cX3_readInto : ByteArray := prog_5_method_2_code
def yX3_readInto : MethodName := ⟨RX3, "readInto", "(LNoonGuides$Land;[BI)Z"⟩
theorem dX3_readInto_0 : dc cX3_readInto 0 (.aload_n 1) 1 1 := ⟨by decide +kernel, rfl⟩
theorem dX3_readInto_1 : dc cX3_readInto 1 (.invokevirtual 9) 3 4 := ⟨by decide +kernel, rfl⟩
theorem dX3_readInto_4 : dc cX3_readInto 4 (.aload_n 0) 1 5 := ⟨by decide +kernel, rfl⟩
theorem dX3_readInto_5 : dc cX3_readInto 5 (.iconst 0) 1 6 := ⟨by decide +kernel, rfl⟩
theorem dX3_readInto_6 : dc cX3_readInto 6 (.putfield 14) 3 9 := ⟨by decide +kernel, rfl⟩
theorem dX3_readInto_9 : dc cX3_readInto 9 (.aload_n 0) 1 10 := ⟨by decide +kernel, rfl⟩
theorem dX3_readInto_10 : dc cX3_readInto 10 (.iconst 0) 1 11 := ⟨by decide +kernel, rfl⟩
theorem dX3_readInto_11 : dc cX3_readInto 11 (.putfield 20) 3 14 := ⟨by decide +kernel, rfl⟩
theorem dX3_readInto_14 : dc cX3_readInto 14 (.aload_n 0) 1 15 := ⟨by decide +kernel, rfl⟩
theorem dX3_readInto_15 : dc cX3_readInto 15 (.aload_n 2) 1 16 := ⟨by decide +kernel, rfl⟩
theorem dX3_readInto_16 : dc cX3_readInto 16 (.iload_n 3) 1 17 := ⟨by decide +kernel, rfl⟩
theorem dX3_readInto_17 : dc cX3_readInto 17 (.invokevirtual 24) 3 20 := ⟨by decide +kernel, rfl⟩
theorem dX3_readInto_20 : dc cX3_readInto 20 (.iconst 0) 1 21 := ⟨by decide +kernel, rfl⟩
theorem dX3_readInto_21 : dc cX3_readInto 21 (.istore 4) 2 23 := ⟨by decide +kernel, rfl⟩
theorem dX3_readInto_23 : dc cX3_readInto 23 (.iload 4) 2 25 := ⟨by decide +kernel, rfl⟩
theorem dX3_readInto_25 : dc cX3_readInto 25 (.sipush 900) 3 28 := ⟨by decide +kernel, rfl⟩
theorem dX3_readInto_28 : dc cX3_readInto 28 (.if_icmp .ge 26) 3 31 := ⟨by decide +kernel, rfl⟩
theorem dX3_readInto_31 : dc cX3_readInto 31 (.aload_n 0) 1 32 := ⟨by decide +kernel, rfl⟩
theorem dX3_readInto_32 : dc cX3_readInto 32 (.invokevirtual 28) 3 35 := ⟨by decide +kernel, rfl⟩
theorem dX3_readInto_35 : dc cX3_readInto 35 (.ifCond .ne 19) 3 38 := ⟨by decide +kernel, rfl⟩
theorem dX3_readInto_38 : dc cX3_readInto 38 (.aload_n 0) 1 39 := ⟨by decide +kernel, rfl⟩
theorem dX3_readInto_39 : dc cX3_readInto 39 (.aload_n 1) 1 40 := ⟨by decide +kernel, rfl⟩
theorem dX3_readInto_40 : dc cX3_readInto 40 (.invokevirtual 32) 3 43 := ⟨by decide +kernel, rfl⟩
theorem dX3_readInto_43 : dc cX3_readInto 43 (.ifCond .ne 5) 3 46 := ⟨by decide +kernel, rfl⟩
theorem dX3_readInto_46 : dc cX3_readInto 46 (.iconst 0) 1 47 := ⟨by decide +kernel, rfl⟩
theorem dX3_readInto_47 : dc cX3_readInto 47 (.ireturn) 1 48 := ⟨by decide +kernel, rfl⟩
theorem dX3_readInto_48 : dc cX3_readInto 48 (.iinc 4 1) 3 51 := ⟨by decide +kernel, rfl⟩
theorem dX3_readInto_51 : dc cX3_readInto 51 (.goto (-28)) 3 54 := ⟨by decide +kernel, rfl⟩
theorem dX3_readInto_54 : dc cX3_readInto 54 (.iconst 1) 1 55 := ⟨by decide +kernel, rfl⟩
theorem dX3_readInto_55 : dc cX3_readInto 55 (.ireturn) 1 56 := ⟨by decide +kernel, rfl⟩
theorem nm_X3_readInto : (yX3_readInto).cls ≠ "java/lang/invoke/MethodHandle" ∧ (yX3_readInto).cls ≠ "java/lang/invoke/VarHandle" ∧ (parseMethodDescriptor (yX3_readInto).desc).map (fun d => d.parameters.length) = some 3 := ⟨by decide +kernel, by decide +kernel, by decide +kernel⟩
theorem zs_X3_readInto_23 {a0 : Nat} {a1 : Nat} {y : (Int32 × KM)} : ∀ (n : Nat) (w4 : Int32) (M : KM), lp_X3_readInto_23 n a0 a1 w4 M = some y → (y.1 = 0 ∨ y.1 = 1) := by
  intro n
  induction n with
  | zero =>
    intro w4 M hf
    cases hf
  | succ n ih =>
    intro w4 M hf
    rw [lp_X3_readInto_23] at hf
    by_cases h10 : (900 : Int32) ≤ w4
    · replace hf := (if_pos h10).symm.trans hf
      obtain rfl := Option.some.inj hf
      exact (Or.inr rfl)
    · replace hf := (if_neg h10).symm.trans hf
      obtain ⟨v5, hcv5⟩ : ∃ q, f_X9_isAtEnd a0 M = q := ⟨_, rfl⟩
      replace hf := lt_e hf hcv5.symm
      by_cases h9 : v5 = 0
      · replace hf := (if_pos h9).symm.trans hf
        obtain ⟨v6, hcv6, hf⟩ := bd_e hf
        by_cases h8 : v6.1 = 0
        · replace hf := (if_pos h8).symm.trans hf
          obtain rfl := Option.some.inj hf
          exact (Or.inl rfl)
        · replace hf := (if_neg h8).symm.trans hf
          obtain ⟨v7, ev7⟩ : ∃ q : Int32, q = w4 + (1 : Int32) := ⟨_, rfl⟩
          replace hf := lt_e hf ev7
          exact ih v7 v6.2 hf
      · replace hf := (if_neg h9).symm.trans hf
        obtain rfl := Option.some.inj hf
        exact (Or.inr rfl)
set_option maxRecDepth 100000 in
theorem z_X3_readInto (n : Nat) {a0 : Nat} {a1 : Nat} {a2 : Nat} {p3 : Int32} {M : KM} {y : (Int32 × KM)} (hf : f_X3_readInto n a0 a1 a2 p3 M = some y) : (y.1 = 0 ∨ y.1 = 1) := by
  unfold f_X3_readInto at hf
  obtain ⟨v1, hcv1⟩ : ∃ q, f_X2_clear a1 M = q := ⟨_, rfl⟩
  replace hf := lt_e hf hcv1.symm
  obtain ⟨M2, eM2⟩ : ∃ q : KM, q = (uI v1 a0 12 (0 : Int32)) := ⟨_, rfl⟩
  replace hf := lt_e hf eM2
  obtain ⟨M3, eM3⟩ : ∃ q : KM, q = (uI M2 a0 13 (0 : Int32)) := ⟨_, rfl⟩
  replace hf := lt_e hf eM3
  obtain ⟨v4, hcv4, hf⟩ := bd_e hf
  refine zs_X3_readInto_23 n (0 : Int32) v4 hf
set_option maxRecDepth 100000 in
set_option maxHeartbeats 4000000 in
theorem s_X3_readInto_23 {ad : Nat → Nat} {cy : Nat → ClassId} {x : KX} (G : KG ad cy x cX3_readInto "NoonGuides$LandReader" 5 (some (some .boolean)) 7) {a0 : Nat} {a1 : Nat} (h0 : kty a0 = 4) (h1 : kty a1 = 3) {y : (Int32 × KM)} : ∀ (n : Nat) (w4 : Int32) (M : KM), lp_X3_readInto_23 n a0 a1 w4 M = some y → KV ad cy x (some (.int y.1), y.2) 23 [(0, .ref (ad a0)), (1, .ref (ad a1)), (4, .int w4)] [] M := by
  intro n
  induction n with
  | zero =>
    intro w4 M hf
    cases hf
  | succ n ih =>
    intro w4 M hf
    rw [lp_X3_readInto_23] at hf
    refine v_iload G dX3_readInto_23 2 rfl ?_
    refine v_sipush (900 : Int32) G dX3_readInto_25 (by decide) ?_
    refine v_icmp_ge 54 G dX3_readInto_28 (by decide) (fun h10 => ?_) (fun h10 => ?_)
    · replace hf := (if_pos h10).symm.trans hf
      refine v_iconst (1 : Int32) G dX3_readInto_54 (by decide) ?_
      obtain rfl := Option.some.inj hf
      exact v_zret G (Or.inr rfl) dX3_readInto_55
    · replace hf := (if_neg h10).symm.trans hf
      refine v_aload_n G dX3_readInto_31 0 rfl ?_
      obtain ⟨v5, hcv5⟩ : ∃ q, f_X9_isAtEnd a0 M = q := ⟨_, rfl⟩
      replace hf := lt_e hf hcv5.symm
      refine v_callU (owner := "NoonGuides$TextReader") [] G (c_X9_isAtEnd_L h0 hcv5) h0 (by decide) rfl rfl t_1018 t_1019 t_1022 t_1021 t_2 t_1023 rfl nm_X9_isAtEnd (by decide) (by decide) rfl rfl (Nat.le_of_ble_eq_true rfl) dX3_readInto_32 (kv_ri ?_)
      refine v_if_ne 54 G dX3_readInto_35 (by decide) (fun h9 => ?_) (fun h9 => ?_)
      · replace hf := (if_neg h9).symm.trans hf
        refine v_iconst (1 : Int32) G dX3_readInto_54 (by decide) ?_
        obtain rfl := Option.some.inj hf
        exact v_zret G (Or.inr rfl) dX3_readInto_55
      · replace hf := (if_pos h9).symm.trans hf
        refine v_aload_n G dX3_readInto_38 0 rfl ?_
        refine v_aload_n G dX3_readInto_39 1 rfl ?_
        obtain ⟨v6, hcv6, hf⟩ := bd_e hf
        refine v_callV [.ref (ad a1)] G (c_X3_readPart n h0 h1 hcv6) h0 (by decide) rfl rfl rfl t_1024 t_1026 t_p24 t_3 t_1027 nm_X3_readPart (by decide) (by decide) rfl rfl (Nat.le_of_ble_eq_true rfl) dX3_readInto_40 (kv_ri ?_)
        refine v_if_ne 48 G dX3_readInto_43 (by decide) (fun h8 => ?_) (fun h8 => ?_)
        · replace hf := (if_neg h8).symm.trans hf
          obtain ⟨v7, ev7⟩ : ∃ q : Int32, q = w4 + (1 : Int32) := ⟨_, rfl⟩
          replace hf := lt_e hf ev7
          refine v_iinc v7 [(4, .int v7), (0, .ref (ad a0)), (1, .ref (ad a1))] G dX3_readInto_48 2 rfl (by rw [ev7]; rfl) (by decide) rfl ?_
          refine v_goto 23 G dX3_readInto_51 (by decide) ?_
          refine v_sub _ [1, 2, 0] rfl ?_
          exact ih v7 v6.2 hf
        · replace hf := (if_pos h8).symm.trans hf
          refine v_iconst (0 : Int32) G dX3_readInto_46 (by decide) ?_
          obtain rfl := Option.some.inj hf
          exact v_zret G (Or.inl rfl) dX3_readInto_47
set_option maxRecDepth 100000 in
set_option maxHeartbeats 4000000 in
theorem c_X3_readInto {l : Launch} {ad : Nat → Nat} {cy : Nat → ClassId} {D : va_G} {z : Nat} (n : Nat) {a0 : Nat} {a1 : Nat} {a2 : Nat} {p3 : Int32} {M : KM} {y : (Int32 × KM)} (h0 : kty a0 = 4) (h1 : kty a1 = 3) (h2 : kty a2 = 21 ∨ kty a2 = 25) (hf : f_X3_readInto n a0 a1 a2 p3 M = some y) : KC l ad cy D z yX3_readInto cX3_readInto 5 (some .boolean) 7 [.ref (ad a0), .ref (ad a1), .ref (ad a2), .int p3] M (some (.int y.1), y.2) := by
  refine kv_enter (by decide +kernel) (Nat.le_of_ble_eq_true rfl) ?_
  intro x hl hD hz G
  subst hl hD hz
  unfold f_X3_readInto at hf
  have G : KG ad cy x cX3_readInto "NoonGuides$LandReader" 5 (some (some .boolean)) 7 := G
  show KV ad cy x (some (.int y.1), y.2) 0 [(0, .ref (ad a0)), (1, .ref (ad a1)), (2, .ref (ad a2)), (3, .int p3)] [] M
  refine v_aload_n G dX3_readInto_0 1 rfl ?_
  obtain ⟨v1, hcv1⟩ : ∃ q, f_X2_clear a1 M = q := ⟨_, rfl⟩
  replace hf := lt_e hf hcv1.symm
  refine v_callV [] G (c_X2_clear h1 hcv1) h1 (by decide) rfl rfl rfl t_991 t_992 t_993 t_13 t_994 nm_X2_clear (by decide) (by decide) rfl rfl (Nat.le_of_ble_eq_true rfl) dX3_readInto_1 (kv_rv ?_)
  refine v_aload_n G dX3_readInto_4 0 rfl ?_
  refine v_iconst (0 : Int32) G dX3_readInto_5 (by decide) ?_
  refine pf_3_12 G h0 t_92 (Or.inl rfl) dX3_readInto_6 ?_
  refine v_nmM (fun M2 eM2 => ?_)
  replace hf := lt_e hf eM2
  refine v_aload_n G dX3_readInto_9 0 rfl ?_
  refine v_iconst (0 : Int32) G dX3_readInto_10 (by decide) ?_
  refine pf_3_13 G h0 (Or.inl rfl) t_93 (Or.inl rfl) dX3_readInto_11 ?_
  refine v_nmM (fun M3 eM3 => ?_)
  replace hf := lt_e hf eM3
  refine v_aload_n G dX3_readInto_14 0 rfl ?_
  refine v_aload_n G dX3_readInto_15 2 rfl ?_
  refine v_iload_n G dX3_readInto_16 3 rfl ?_
  obtain ⟨v4, hcv4, hf⟩ := bd_e hf
  refine v_callU (owner := "NoonGuides$TextReader") [.ref (ad a2), .int p3] G (c_X9_begin_L n h0 h2 hcv4) h0 (by decide) rfl rfl t_999 t_1000 t_1003 t_1002 t_2 t_1004 rfl nm_X9_begin (by decide) (by decide) rfl rfl (Nat.le_of_ble_eq_true rfl) dX3_readInto_17 (kv_rv ?_)
  refine v_iconst (0 : Int32) G dX3_readInto_20 (by decide) ?_
  refine v_istore [(4, .int (0 : Int32)), (0, .ref (ad a0)), (1, .ref (ad a1)), (2, .ref (ad a2)), (3, .int p3)] G dX3_readInto_21 (by decide) rfl ?_
  refine v_sub _ [1, 2, 0] rfl ?_
  refine s_X3_readInto_23 G h0 h1 n (0 : Int32) v4 hf
abbrev cX0_readEnd : ByteArray := prog_2_method_3_code
def yX0_readEnd : MethodName := ⟨RX0, "readEnd", "(LNoonGuides$Plan;)Z"⟩
theorem dX0_readEnd_0 : dc cX0_readEnd 0 (.aload_n 0) 1 1 := ⟨by decide +kernel, rfl⟩
theorem dX0_readEnd_1 : dc cX0_readEnd 1 (.getfield 20) 3 4 := ⟨by decide +kernel, rfl⟩
theorem dX0_readEnd_4 : dc cX0_readEnd 4 (.ifCond .le 11) 3 7 := ⟨by decide +kernel, rfl⟩
theorem dX0_readEnd_7 : dc cX0_readEnd 7 (.aload_n 0) 1 8 := ⟨by decide +kernel, rfl⟩
theorem dX0_readEnd_8 : dc cX0_readEnd 8 (.getfield 20) 3 11 := ⟨by decide +kernel, rfl⟩
theorem dX0_readEnd_11 : dc cX0_readEnd 11 (.iconst 3) 1 12 := ⟨by decide +kernel, rfl⟩
theorem dX0_readEnd_12 : dc cX0_readEnd 12 (.if_icmp .le 8) 3 15 := ⟨by decide +kernel, rfl⟩
theorem dX0_readEnd_15 : dc cX0_readEnd 15 (.aload_n 0) 1 16 := ⟨by decide +kernel, rfl⟩
theorem dX0_readEnd_16 : dc cX0_readEnd 16 (.invokevirtual 43) 3 19 := ⟨by decide +kernel, rfl⟩
theorem dX0_readEnd_19 : dc cX0_readEnd 19 (.ireturn) 1 20 := ⟨by decide +kernel, rfl⟩
theorem dX0_readEnd_20 : dc cX0_readEnd 20 (.aload_n 0) 1 21 := ⟨by decide +kernel, rfl⟩
theorem dX0_readEnd_21 : dc cX0_readEnd 21 (.dup) 1 22 := ⟨by decide +kernel, rfl⟩
theorem dX0_readEnd_22 : dc cX0_readEnd 22 (.getfield 20) 3 25 := ⟨by decide +kernel, rfl⟩
theorem dX0_readEnd_25 : dc cX0_readEnd 25 (.iconst 1) 1 26 := ⟨by decide +kernel, rfl⟩
theorem dX0_readEnd_26 : dc cX0_readEnd 26 (.isub) 1 27 := ⟨by decide +kernel, rfl⟩
theorem dX0_readEnd_27 : dc cX0_readEnd 27 (.putfield 20) 3 30 := ⟨by decide +kernel, rfl⟩
theorem dX0_readEnd_30 : dc cX0_readEnd 30 (.aload_n 0) 1 31 := ⟨by decide +kernel, rfl⟩
theorem dX0_readEnd_31 : dc cX0_readEnd 31 (.invokevirtual 50) 3 34 := ⟨by decide +kernel, rfl⟩
theorem dX0_readEnd_34 : dc cX0_readEnd 34 (.aload_n 1) 1 35 := ⟨by decide +kernel, rfl⟩
theorem dX0_readEnd_35 : dc cX0_readEnd 35 (.bipush 10) 2 37 := ⟨by decide +kernel, rfl⟩
theorem dX0_readEnd_37 : dc cX0_readEnd 37 (.iconst 0) 1 38 := ⟨by decide +kernel, rfl⟩
theorem dX0_readEnd_38 : dc cX0_readEnd 38 (.iconst 0) 1 39 := ⟨by decide +kernel, rfl⟩
theorem dX0_readEnd_39 : dc cX0_readEnd 39 (.iconst 0) 1 40 := ⟨by decide +kernel, rfl⟩
theorem dX0_readEnd_40 : dc cX0_readEnd 40 (.invokevirtual 53) 3 43 := ⟨by decide +kernel, rfl⟩
theorem dX0_readEnd_43 : dc cX0_readEnd 43 (.pop) 1 44 := ⟨by decide +kernel, rfl⟩
theorem dX0_readEnd_44 : dc cX0_readEnd 44 (.aload_n 1) 1 45 := ⟨by decide +kernel, rfl⟩
theorem dX0_readEnd_45 : dc cX0_readEnd 45 (.aload_n 0) 1 46 := ⟨by decide +kernel, rfl⟩
theorem dX0_readEnd_46 : dc cX0_readEnd 46 (.getfield 11) 3 49 := ⟨by decide +kernel, rfl⟩
theorem dX0_readEnd_49 : dc cX0_readEnd 49 (.aload_n 0) 1 50 := ⟨by decide +kernel, rfl⟩
theorem dX0_readEnd_50 : dc cX0_readEnd 50 (.getfield 20) 3 53 := ⟨by decide +kernel, rfl⟩
theorem dX0_readEnd_53 : dc cX0_readEnd 53 (.iaload) 1 54 := ⟨by decide +kernel, rfl⟩
theorem dX0_readEnd_54 : dc cX0_readEnd 54 (.invokevirtual 57) 3 57 := ⟨by decide +kernel, rfl⟩
theorem dX0_readEnd_57 : dc cX0_readEnd 57 (.aload_n 0) 1 58 := ⟨by decide +kernel, rfl⟩
theorem dX0_readEnd_58 : dc cX0_readEnd 58 (.invokevirtual 61) 3 61 := ⟨by decide +kernel, rfl⟩
theorem dX0_readEnd_61 : dc cX0_readEnd 61 (.ireturn) 1 62 := ⟨by decide +kernel, rfl⟩
theorem nm_X0_readEnd : (yX0_readEnd).cls ≠ "java/lang/invoke/MethodHandle" ∧ (yX0_readEnd).cls ≠ "java/lang/invoke/VarHandle" ∧ (parseMethodDescriptor (yX0_readEnd).desc).map (fun d => d.parameters.length) = some 1 := ⟨by decide +kernel, by decide +kernel, by decide +kernel⟩
set_option maxRecDepth 100000 in
theorem z_X0_readEnd (n : Nat) {a0 : Nat} {a1 : Nat} {M : KM} {y : (Int32 × KM)} (hf : f_X0_readEnd n a0 a1 M = some y) : (y.1 = 0 ∨ y.1 = 1) := by
  unfold f_X0_readEnd at hf
  obtain ⟨j15, ej15, hf⟩ := lt_j hf
  have hj15 : j15 = some y → (y.1 = 0 ∨ y.1 = 1) := by
    intro hf
    rw [ej15] at hf
    obtain ⟨v1, hcv1⟩ : ∃ q, f_X9_failOrder a0 M = q := ⟨_, rfl⟩
    replace hf := lt_e hf hcv1.symm
    obtain rfl := Option.some.inj hf
    exact (z_X9_failOrder hcv1)
  by_cases h9 : (M.1 a0 13) ≤ 0
  · replace hf := (if_pos h9).symm.trans hf
    exact hj15 hf
  · replace hf := (if_neg h9).symm.trans hf
    by_cases h8 : (M.1 a0 13) ≤ (3 : Int32)
    · replace hf := (if_pos h8).symm.trans hf
      obtain ⟨M2, eM2⟩ : ∃ q : KM, q = (uI M a0 13 ((M.1 a0 13) - (1 : Int32))) := ⟨_, rfl⟩
      replace hf := lt_e hf eM2
      obtain ⟨v3, hcv3, hf⟩ := bd_e hf
      obtain ⟨v4, hcv4, hf⟩ := bd_e hf
      obtain ⟨g5, hf⟩ := gd_e hf
      obtain ⟨v6, hcv6, hf⟩ := bd_e hf
      obtain ⟨v7, hcv7, hf⟩ := bd_e hf
      obtain rfl := Option.some.inj hf
      exact (z_X9_takeSemicolon n hcv7)
    · replace hf := (if_neg h8).symm.trans hf
      exact hj15 hf
set_option maxRecDepth 100000 in
set_option maxHeartbeats 4000000 in
theorem c_X0_readEnd {l : Launch} {ad : Nat → Nat} {cy : Nat → ClassId} {D : va_G} {z : Nat} (n : Nat) {a0 : Nat} {a1 : Nat} {M : KM} {y : (Int32 × KM)} (h0 : kty a0 = 1) (h1 : kty a1 = 9) (hf : f_X0_readEnd n a0 a1 M = some y) : KC l ad cy D z yX0_readEnd cX0_readEnd 2 (some .boolean) 4 [.ref (ad a0), .ref (ad a1)] M (some (.int y.1), y.2) := by
  refine kv_enter (by decide +kernel) (Nat.le_of_ble_eq_true rfl) ?_
  intro x hl hD hz G
  subst hl hD hz
  unfold f_X0_readEnd at hf
  have G : KG ad cy x cX0_readEnd "NoonGuides$DaysReader" 2 (some (some .boolean)) 4 := G
  show KV ad cy x (some (.int y.1), y.2) 0 [(0, .ref (ad a0)), (1, .ref (ad a1))] [] M
  refine v_aload_n G dX0_readEnd_0 0 rfl ?_
  refine gf_0_13 G h0 t_151 (Or.inl rfl) dX0_readEnd_1 ?_
  obtain ⟨j15, ej15, hf⟩ := lt_j hf
  have hj15 : j15 = some y → KV ad cy x (some (.int y.1), y.2) 15 [(0, .ref (ad a0))] [] M := by
    intro hf
    rw [ej15] at hf
    refine v_aload_n G dX0_readEnd_15 0 rfl ?_
    obtain ⟨v1, hcv1⟩ : ∃ q, f_X9_failOrder a0 M = q := ⟨_, rfl⟩
    replace hf := lt_e hf hcv1.symm
    refine v_callU (owner := "NoonGuides$TextReader") [] G (c_X9_failOrder_D h0 hcv1) h0 (by decide) rfl rfl t_1201 t_1202 t_1055 t_1203 t_2 t_1059 rfl nm_X9_failOrder (by decide) (by decide) rfl rfl (Nat.le_of_ble_eq_true rfl) dX0_readEnd_16 (kv_ri ?_)
    obtain rfl := Option.some.inj hf
    exact v_zret G (z_X9_failOrder hcv1) dX0_readEnd_19
  refine v_if_le 15 G dX0_readEnd_4 (by decide) (fun h9 => ?_) (fun h9 => ?_)
  · replace hf := (if_pos h9).symm.trans hf
    refine v_sub _ [0] rfl ?_
    exact hj15 hf
  · replace hf := (if_neg h9).symm.trans hf
    refine v_aload_n G dX0_readEnd_7 0 rfl ?_
    refine gf_0_13 G h0 t_151 (Or.inl rfl) dX0_readEnd_8 ?_
    refine v_iconst (3 : Int32) G dX0_readEnd_11 (by decide) ?_
    refine v_icmp_le 20 G dX0_readEnd_12 (by decide) (fun h8 => ?_) (fun h8 => ?_)
    · replace hf := (if_pos h8).symm.trans hf
      refine v_aload_n G dX0_readEnd_20 0 rfl ?_
      refine v_dup G dX0_readEnd_21 rfl ?_
      refine gf_0_13 G h0 t_151 (Or.inl rfl) dX0_readEnd_22 ?_
      refine v_iconst (1 : Int32) G dX0_readEnd_25 (by decide) ?_
      refine v_isub G dX0_readEnd_26 ?_
      refine pf_0_13 G h0 t_151 (Or.inl rfl) dX0_readEnd_27 ?_
      refine v_nmM (fun M2 eM2 => ?_)
      replace hf := lt_e hf eM2
      refine v_aload_n G dX0_readEnd_30 0 rfl ?_
      obtain ⟨v3, hcv3, hf⟩ := bd_e hf
      refine v_callU (owner := "NoonGuides$TextReader") [] G (c_X9_skip_D n h0 hcv3) h0 (by decide) rfl rfl t_1204 t_1205 t_1042 t_1206 t_2 t_1043 rfl nm_X9_skip (by decide) (by decide) rfl rfl (Nat.le_of_ble_eq_true rfl) dX0_readEnd_31 (kv_rv ?_)
      refine v_aload_n G dX0_readEnd_34 1 rfl ?_
      refine v_bipush (10 : Int32) G dX0_readEnd_35 (by decide) ?_
      refine v_iconst (0 : Int32) G dX0_readEnd_37 (by decide) ?_
      refine v_iconst (0 : Int32) G dX0_readEnd_38 (by decide) ?_
      refine v_iconst (0 : Int32) G dX0_readEnd_39 (by decide) ?_
      obtain ⟨v4, hcv4, hf⟩ := bd_e hf
      refine v_callV [.int (10 : Int32), .int (0 : Int32), .int (0 : Int32), .int (0 : Int32)] G (c_X8_add n h1 hcv4) h1 (by decide) rfl rfl rfl t_1207 t_1208 t_1209 t_14 t_1210 nm_X8_add (by decide) (by decide) rfl rfl (Nat.le_of_ble_eq_true rfl) dX0_readEnd_40 (kv_ri ?_)
      refine v_pop G dX0_readEnd_43 rfl ?_
      refine v_aload_n G dX0_readEnd_44 1 rfl ?_
      refine v_aload_n G dX0_readEnd_45 0 rfl ?_
      refine gf_0_12 G h0 t_150 (Or.inl rfl) dX0_readEnd_46 ?_
      refine v_aload_n G dX0_readEnd_49 0 rfl ?_
      refine gf_0_13 G h0 t_151 (Or.inl rfl) dX0_readEnd_50 ?_
      obtain ⟨g5, hf⟩ := gd_e hf
      refine al_26 G (kf_0_3 h0) g5 dX0_readEnd_53 ?_
      obtain ⟨v6, hcv6, hf⟩ := bd_e hf
      refine v_callV [.int (v4.2.1 (a0 + 3) ((v4.2.1 a0 13)).toNatClampNeg)] G (c_X8_close n h1 hcv6) h1 (by decide) rfl rfl rfl t_1211 t_1212 t_1213 t_14 t_1214 nm_X8_close (by decide) (by decide) rfl rfl (Nat.le_of_ble_eq_true rfl) dX0_readEnd_54 (kv_rv ?_)
      refine v_aload_n G dX0_readEnd_57 0 rfl ?_
      obtain ⟨v7, hcv7, hf⟩ := bd_e hf
      refine v_callU (owner := "NoonGuides$TextReader") [] G (c_X9_takeSemicolon_D n h0 hcv7) h0 (by decide) rfl rfl t_1215 t_1216 t_1078 t_1217 t_2 t_1079 rfl nm_X9_takeSemicolon (by decide) (by decide) rfl rfl (Nat.le_of_ble_eq_true rfl) dX0_readEnd_58 (kv_ri ?_)
      obtain rfl := Option.some.inj hf
      exact v_zret G (z_X9_takeSemicolon n hcv7) dX0_readEnd_61
    · replace hf := (if_neg h8).symm.trans hf
      refine v_sub _ [0] rfl ?_
      exact hj15 hf
abbrev cX0_start : ByteArray := prog_2_method_5_code
def yX0_start : MethodName := ⟨RX0, "start", "(LNoonGuides$Plan;)Z"⟩
theorem dX0_start_0 : dc cX0_start 0 (.aload_n 1) 1 1 := ⟨by decide +kernel, rfl⟩
theorem dX0_start_1 : dc cX0_start 1 (.getfield 87) 3 4 := ⟨by decide +kernel, rfl⟩
theorem dX0_start_4 : dc cX0_start 4 (.bipush 30) 2 6 := ⟨by decide +kernel, rfl⟩
theorem dX0_start_6 : dc cX0_start 6 (.if_icmp .lt 10) 3 9 := ⟨by decide +kernel, rfl⟩
theorem dX0_start_9 : dc cX0_start 9 (.aload_n 0) 1 10 := ⟨by decide +kernel, rfl⟩
theorem dX0_start_10 : dc cX0_start 10 (.bipush 6) 2 12 := ⟨by decide +kernel, rfl⟩
theorem dX0_start_12 : dc cX0_start 12 (.invokevirtual 90) 3 15 := ⟨by decide +kernel, rfl⟩
theorem dX0_start_15 : dc cX0_start 15 (.ireturn) 1 16 := ⟨by decide +kernel, rfl⟩
theorem dX0_start_16 : dc cX0_start 16 (.aload_n 0) 1 17 := ⟨by decide +kernel, rfl⟩
theorem dX0_start_17 : dc cX0_start 17 (.invokevirtual 50) 3 20 := ⟨by decide +kernel, rfl⟩
theorem dX0_start_20 : dc cX0_start 20 (.iconst 1) 1 21 := ⟨by decide +kernel, rfl⟩
theorem dX0_start_21 : dc cX0_start 21 (.ireturn) 1 22 := ⟨by decide +kernel, rfl⟩
theorem nm_X0_start : (yX0_start).cls ≠ "java/lang/invoke/MethodHandle" ∧ (yX0_start).cls ≠ "java/lang/invoke/VarHandle" ∧ (parseMethodDescriptor (yX0_start).desc).map (fun d => d.parameters.length) = some 1 := ⟨by decide +kernel, by decide +kernel, by decide +kernel⟩
set_option maxRecDepth 100000 in
theorem z_X0_start (n : Nat) {a0 : Nat} {a1 : Nat} {M : KM} {y : (Int32 × KM)} (hf : f_X0_start n a0 a1 M = some y) : (y.1 = 0 ∨ y.1 = 1) := by
  unfold f_X0_start at hf
  by_cases h3 : (M.1 a1 6) < (30 : Int32)
  · replace hf := (if_pos h3).symm.trans hf
    obtain ⟨v1, hcv1, hf⟩ := bd_e hf
    obtain rfl := Option.some.inj hf
    exact (Or.inr rfl)
  · replace hf := (if_neg h3).symm.trans hf
    obtain ⟨v2, hcv2⟩ : ∃ q, f_X9_fail a0 (6 : Int32) M = q := ⟨_, rfl⟩
    replace hf := lt_e hf hcv2.symm
    obtain rfl := Option.some.inj hf
    exact (z_X9_fail hcv2)
set_option maxRecDepth 100000 in
set_option maxHeartbeats 4000000 in
theorem c_X0_start {l : Launch} {ad : Nat → Nat} {cy : Nat → ClassId} {D : va_G} {z : Nat} (n : Nat) {a0 : Nat} {a1 : Nat} {M : KM} {y : (Int32 × KM)} (h0 : kty a0 = 1) (h1 : kty a1 = 9) (hf : f_X0_start n a0 a1 M = some y) : KC l ad cy D z yX0_start cX0_start 2 (some .boolean) 4 [.ref (ad a0), .ref (ad a1)] M (some (.int y.1), y.2) := by
  refine kv_enter (by decide +kernel) (Nat.le_of_ble_eq_true rfl) ?_
  intro x hl hD hz G
  subst hl hD hz
  unfold f_X0_start at hf
  have G : KG ad cy x cX0_start "NoonGuides$DaysReader" 2 (some (some .boolean)) 4 := G
  show KV ad cy x (some (.int y.1), y.2) 0 [(0, .ref (ad a0)), (1, .ref (ad a1))] [] M
  refine v_aload_n G dX0_start_0 1 rfl ?_
  refine gf_8_6 G h1 t_277 (Or.inl rfl) dX0_start_1 ?_
  refine v_bipush (30 : Int32) G dX0_start_4 (by decide) ?_
  refine v_icmp_lt 16 G dX0_start_6 (by decide) (fun h3 => ?_) (fun h3 => ?_)
  · replace hf := (if_pos h3).symm.trans hf
    refine v_aload_n G dX0_start_16 0 rfl ?_
    obtain ⟨v1, hcv1, hf⟩ := bd_e hf
    refine v_callU (owner := "NoonGuides$TextReader") [] G (c_X9_skip_D n h0 hcv1) h0 (by decide) rfl rfl t_1204 t_1205 t_1042 t_1206 t_2 t_1043 rfl nm_X9_skip (by decide) (by decide) rfl rfl (Nat.le_of_ble_eq_true rfl) dX0_start_17 (kv_rv ?_)
    refine v_iconst (1 : Int32) G dX0_start_20 (by decide) ?_
    obtain rfl := Option.some.inj hf
    exact v_zret G (Or.inr rfl) dX0_start_21
  · replace hf := (if_neg h3).symm.trans hf
    refine v_aload_n G dX0_start_9 0 rfl ?_
    refine v_bipush (6 : Int32) G dX0_start_10 (by decide) ?_
    obtain ⟨v2, hcv2⟩ : ∃ q, f_X9_fail a0 (6 : Int32) M = q := ⟨_, rfl⟩
    replace hf := lt_e hf hcv2.symm
    refine v_callU (owner := "NoonGuides$TextReader") [.int (6 : Int32)] G (c_X9_fail_D h0 hcv2) h0 (by decide) rfl rfl t_1226 t_1227 t_1036 t_1228 t_2 t_1037 rfl nm_X9_fail (by decide) (by decide) rfl rfl (Nat.le_of_ble_eq_true rfl) dX0_start_12 (kv_ri ?_)
    obtain rfl := Option.some.inj hf
    exact v_zret G (z_X9_fail hcv2) dX0_start_15
abbrev cX0_addStep : ByteArray := prog_2_method_7_code
def yX0_addStep : MethodName := ⟨RX0, "addStep", "(LNoonGuides$Plan;IIII)Z"⟩
theorem dX0_addStep_0 : dc cX0_addStep 0 (.aload_n 0) 1 1 := ⟨by decide +kernel, rfl⟩
theorem dX0_addStep_1 : dc cX0_addStep 1 (.invokevirtual 61) 3 4 := ⟨by decide +kernel, rfl⟩
theorem dX0_addStep_4 : dc cX0_addStep 4 (.ifCond .eq 20) 3 7 := ⟨by decide +kernel, rfl⟩
theorem dX0_addStep_7 : dc cX0_addStep 7 (.aload_n 1) 1 8 := ⟨by decide +kernel, rfl⟩
theorem dX0_addStep_8 : dc cX0_addStep 8 (.iload_n 2) 1 9 := ⟨by decide +kernel, rfl⟩
theorem dX0_addStep_9 : dc cX0_addStep 9 (.iload_n 3) 1 10 := ⟨by decide +kernel, rfl⟩
theorem dX0_addStep_10 : dc cX0_addStep 10 (.iload 4) 2 12 := ⟨by decide +kernel, rfl⟩
theorem dX0_addStep_12 : dc cX0_addStep 12 (.iload 5) 2 14 := ⟨by decide +kernel, rfl⟩
theorem dX0_addStep_14 : dc cX0_addStep 14 (.invokevirtual 53) 3 17 := ⟨by decide +kernel, rfl⟩
theorem dX0_addStep_17 : dc cX0_addStep 17 (.ifCond .eq 7) 3 20 := ⟨by decide +kernel, rfl⟩
theorem dX0_addStep_20 : dc cX0_addStep 20 (.iconst 1) 1 21 := ⟨by decide +kernel, rfl⟩
theorem dX0_addStep_21 : dc cX0_addStep 21 (.goto 4) 3 24 := ⟨by decide +kernel, rfl⟩
theorem dX0_addStep_24 : dc cX0_addStep 24 (.iconst 0) 1 25 := ⟨by decide +kernel, rfl⟩
theorem dX0_addStep_25 : dc cX0_addStep 25 (.ireturn) 1 26 := ⟨by decide +kernel, rfl⟩
theorem nm_X0_addStep : (yX0_addStep).cls ≠ "java/lang/invoke/MethodHandle" ∧ (yX0_addStep).cls ≠ "java/lang/invoke/VarHandle" ∧ (parseMethodDescriptor (yX0_addStep).desc).map (fun d => d.parameters.length) = some 5 := ⟨by decide +kernel, by decide +kernel, by decide +kernel⟩
set_option maxRecDepth 100000 in
theorem z_X0_addStep (n : Nat) {a0 : Nat} {a1 : Nat} {p2 : Int32} {p3 : Int32} {p4 : Int32} {p5 : Int32} {M : KM} {y : (Int32 × KM)} (hf : f_X0_addStep n a0 a1 p2 p3 p4 p5 M = some y) : (y.1 = 0 ∨ y.1 = 1) := by
  unfold f_X0_addStep at hf
  obtain ⟨v1, hcv1, hf⟩ := bd_e hf
  by_cases h4 : v1.1 = 0
  · replace hf := (if_pos h4).symm.trans hf
    obtain rfl := Option.some.inj hf
    exact (Or.inl rfl)
  · replace hf := (if_neg h4).symm.trans hf
    obtain ⟨v2, hcv2, hf⟩ := bd_e hf
    by_cases h3 : v2.1 = 0
    · replace hf := (if_pos h3).symm.trans hf
      obtain rfl := Option.some.inj hf
      exact (Or.inl rfl)
    · replace hf := (if_neg h3).symm.trans hf
      obtain rfl := Option.some.inj hf
      exact (Or.inr rfl)
set_option maxRecDepth 100000 in
set_option maxHeartbeats 4000000 in
theorem c_X0_addStep {l : Launch} {ad : Nat → Nat} {cy : Nat → ClassId} {D : va_G} {z : Nat} (n : Nat) {a0 : Nat} {a1 : Nat} {p2 : Int32} {p3 : Int32} {p4 : Int32} {p5 : Int32} {M : KM} {y : (Int32 × KM)} (h0 : kty a0 = 1) (h1 : kty a1 = 9) (hf : f_X0_addStep n a0 a1 p2 p3 p4 p5 M = some y) : KC l ad cy D z yX0_addStep cX0_addStep 6 (some .boolean) 4 [.ref (ad a0), .ref (ad a1), .int p2, .int p3, .int p4, .int p5] M (some (.int y.1), y.2) := by
  refine kv_enter (by decide +kernel) (Nat.le_of_ble_eq_true rfl) ?_
  intro x hl hD hz G
  subst hl hD hz
  unfold f_X0_addStep at hf
  have G : KG ad cy x cX0_addStep "NoonGuides$DaysReader" 6 (some (some .boolean)) 4 := G
  show KV ad cy x (some (.int y.1), y.2) 0 [(0, .ref (ad a0)), (1, .ref (ad a1)), (2, .int p2), (3, .int p3), (4, .int p4), (5, .int p5)] [] M
  refine v_aload_n G dX0_addStep_0 0 rfl ?_
  obtain ⟨v1, hcv1, hf⟩ := bd_e hf
  refine v_callU (owner := "NoonGuides$TextReader") [] G (c_X9_takeSemicolon_D n h0 hcv1) h0 (by decide) rfl rfl t_1215 t_1216 t_1078 t_1217 t_2 t_1079 rfl nm_X9_takeSemicolon (by decide) (by decide) rfl rfl (Nat.le_of_ble_eq_true rfl) dX0_addStep_1 (kv_ri ?_)
  refine v_if_eq 24 G dX0_addStep_4 (by decide) (fun h4 => ?_) (fun h4 => ?_)
  · replace hf := (if_pos h4).symm.trans hf
    refine v_iconst (0 : Int32) G dX0_addStep_24 (by decide) ?_
    obtain rfl := Option.some.inj hf
    exact v_zret G (Or.inl rfl) dX0_addStep_25
  · replace hf := (if_neg h4).symm.trans hf
    refine v_aload_n G dX0_addStep_7 1 rfl ?_
    refine v_iload_n G dX0_addStep_8 2 rfl ?_
    refine v_iload_n G dX0_addStep_9 3 rfl ?_
    refine v_iload G dX0_addStep_10 4 rfl ?_
    refine v_iload G dX0_addStep_12 5 rfl ?_
    obtain ⟨v2, hcv2, hf⟩ := bd_e hf
    refine v_callV [.int p2, .int p3, .int p4, .int p5] G (c_X8_add n h1 hcv2) h1 (by decide) rfl rfl rfl t_1207 t_1208 t_1209 t_14 t_1210 nm_X8_add (by decide) (by decide) rfl rfl (Nat.le_of_ble_eq_true rfl) dX0_addStep_14 (kv_ri ?_)
    refine v_if_eq 24 G dX0_addStep_17 (by decide) (fun h3 => ?_) (fun h3 => ?_)
    · replace hf := (if_pos h3).symm.trans hf
      refine v_iconst (0 : Int32) G dX0_addStep_24 (by decide) ?_
      obtain rfl := Option.some.inj hf
      exact v_zret G (Or.inl rfl) dX0_addStep_25
    · replace hf := (if_neg h3).symm.trans hf
      refine v_iconst (1 : Int32) G dX0_addStep_20 (by decide) ?_
      refine v_goto 25 G dX0_addStep_21 (by decide) ?_
      obtain rfl := Option.some.inj hf
      exact v_zret G (Or.inr rfl) dX0_addStep_25
abbrev cX0_readNumberStep : ByteArray := prog_2_method_8_code
def yX0_readNumberStep : MethodName := ⟨RX0, "readNumberStep", "(LNoonGuides$Plan;II)Z"⟩
theorem dX0_readNumberStep_0 : dc cX0_readNumberStep 0 (.aload_n 0) 1 1 := ⟨by decide +kernel, rfl⟩
theorem dX0_readNumberStep_1 : dc cX0_readNumberStep 1 (.iconst 1) 1 2 := ⟨by decide +kernel, rfl⟩
theorem dX0_readNumberStep_2 : dc cX0_readNumberStep 2 (.iload_n 3) 1 3 := ⟨by decide +kernel, rfl⟩
theorem dX0_readNumberStep_3 : dc cX0_readNumberStep 3 (.invokevirtual 97) 3 6 := ⟨by decide +kernel, rfl⟩
theorem dX0_readNumberStep_6 : dc cX0_readNumberStep 6 (.istore 4) 2 8 := ⟨by decide +kernel, rfl⟩
theorem dX0_readNumberStep_8 : dc cX0_readNumberStep 8 (.iload 4) 2 10 := ⟨by decide +kernel, rfl⟩
theorem dX0_readNumberStep_10 : dc cX0_readNumberStep 10 (.iconst (-1)) 1 11 := ⟨by decide +kernel, rfl⟩
theorem dX0_readNumberStep_11 : dc cX0_readNumberStep 11 (.if_icmp .eq 20) 3 14 := ⟨by decide +kernel, rfl⟩
theorem dX0_readNumberStep_14 : dc cX0_readNumberStep 14 (.aload_n 0) 1 15 := ⟨by decide +kernel, rfl⟩
theorem dX0_readNumberStep_15 : dc cX0_readNumberStep 15 (.aload_n 1) 1 16 := ⟨by decide +kernel, rfl⟩
theorem dX0_readNumberStep_16 : dc cX0_readNumberStep 16 (.iload_n 2) 1 17 := ⟨by decide +kernel, rfl⟩
theorem dX0_readNumberStep_17 : dc cX0_readNumberStep 17 (.iload 4) 2 19 := ⟨by decide +kernel, rfl⟩
theorem dX0_readNumberStep_19 : dc cX0_readNumberStep 19 (.iconst 0) 1 20 := ⟨by decide +kernel, rfl⟩
theorem dX0_readNumberStep_20 : dc cX0_readNumberStep 20 (.iconst 0) 1 21 := ⟨by decide +kernel, rfl⟩
theorem dX0_readNumberStep_21 : dc cX0_readNumberStep 21 (.invokevirtual 77) 3 24 := ⟨by decide +kernel, rfl⟩
theorem dX0_readNumberStep_24 : dc cX0_readNumberStep 24 (.ifCond .eq 7) 3 27 := ⟨by decide +kernel, rfl⟩
theorem dX0_readNumberStep_27 : dc cX0_readNumberStep 27 (.iconst 1) 1 28 := ⟨by decide +kernel, rfl⟩
theorem dX0_readNumberStep_28 : dc cX0_readNumberStep 28 (.goto 4) 3 31 := ⟨by decide +kernel, rfl⟩
theorem dX0_readNumberStep_31 : dc cX0_readNumberStep 31 (.iconst 0) 1 32 := ⟨by decide +kernel, rfl⟩
theorem dX0_readNumberStep_32 : dc cX0_readNumberStep 32 (.ireturn) 1 33 := ⟨by decide +kernel, rfl⟩
theorem nm_X0_readNumberStep : (yX0_readNumberStep).cls ≠ "java/lang/invoke/MethodHandle" ∧ (yX0_readNumberStep).cls ≠ "java/lang/invoke/VarHandle" ∧ (parseMethodDescriptor (yX0_readNumberStep).desc).map (fun d => d.parameters.length) = some 3 := ⟨by decide +kernel, by decide +kernel, by decide +kernel⟩
set_option maxRecDepth 100000 in
theorem z_X0_readNumberStep (n : Nat) {a0 : Nat} {a1 : Nat} {p2 : Int32} {p3 : Int32} {M : KM} {y : (Int32 × KM)} (hf : f_X0_readNumberStep n a0 a1 p2 p3 M = some y) : (y.1 = 0 ∨ y.1 = 1) := by
  unfold f_X0_readNumberStep at hf
  obtain ⟨v1, hcv1, hf⟩ := bd_e hf
  by_cases h4 : v1.1 = (-1 : Int32)
  · replace hf := (if_pos h4).symm.trans hf
    obtain rfl := Option.some.inj hf
    exact (Or.inl rfl)
  · replace hf := (if_neg h4).symm.trans hf
    obtain ⟨v2, hcv2, hf⟩ := bd_e hf
    by_cases h3 : v2.1 = 0
    · replace hf := (if_pos h3).symm.trans hf
      obtain rfl := Option.some.inj hf
      exact (Or.inl rfl)
    · replace hf := (if_neg h3).symm.trans hf
      obtain rfl := Option.some.inj hf
      exact (Or.inr rfl)
set_option maxRecDepth 100000 in
set_option maxHeartbeats 4000000 in
theorem c_X0_readNumberStep {l : Launch} {ad : Nat → Nat} {cy : Nat → ClassId} {D : va_G} {z : Nat} (n : Nat) {a0 : Nat} {a1 : Nat} {p2 : Int32} {p3 : Int32} {M : KM} {y : (Int32 × KM)} (h0 : kty a0 = 1) (h1 : kty a1 = 9) (hf : f_X0_readNumberStep n a0 a1 p2 p3 M = some y) : KC l ad cy D z yX0_readNumberStep cX0_readNumberStep 5 (some .boolean) 5 [.ref (ad a0), .ref (ad a1), .int p2, .int p3] M (some (.int y.1), y.2) := by
  refine kv_enter (by decide +kernel) (Nat.le_of_ble_eq_true rfl) ?_
  intro x hl hD hz G
  subst hl hD hz
  unfold f_X0_readNumberStep at hf
  have G : KG ad cy x cX0_readNumberStep "NoonGuides$DaysReader" 5 (some (some .boolean)) 5 := G
  show KV ad cy x (some (.int y.1), y.2) 0 [(0, .ref (ad a0)), (1, .ref (ad a1)), (2, .int p2), (3, .int p3)] [] M
  refine v_aload_n G dX0_readNumberStep_0 0 rfl ?_
  refine v_iconst (1 : Int32) G dX0_readNumberStep_1 (by decide) ?_
  refine v_iload_n G dX0_readNumberStep_2 3 rfl ?_
  obtain ⟨v1, hcv1, hf⟩ := bd_e hf
  refine v_callU (owner := "NoonGuides$TextReader") [.int (1 : Int32), .int p3] G (c_X9_takeNumber_D n h0 hcv1) h0 (by decide) rfl rfl t_1233 t_1234 t_1052 t_1235 t_2 t_1053 rfl nm_X9_takeNumber (by decide) (by decide) rfl rfl (Nat.le_of_ble_eq_true rfl) dX0_readNumberStep_3 (kv_ri ?_)
  refine v_istore [(4, .int v1.1), (0, .ref (ad a0)), (1, .ref (ad a1)), (2, .int p2), (3, .int p3)] G dX0_readNumberStep_6 (by decide) rfl ?_
  refine v_iload G dX0_readNumberStep_8 0 rfl ?_
  refine v_iconst (-1 : Int32) G dX0_readNumberStep_10 (by decide) ?_
  refine v_icmp_eq 31 G dX0_readNumberStep_11 (by decide) (fun h4 => ?_) (fun h4 => ?_)
  · replace hf := (if_pos h4).symm.trans hf
    refine v_iconst (0 : Int32) G dX0_readNumberStep_31 (by decide) ?_
    obtain rfl := Option.some.inj hf
    exact v_zret G (Or.inl rfl) dX0_readNumberStep_32
  · replace hf := (if_neg h4).symm.trans hf
    refine v_aload_n G dX0_readNumberStep_14 1 rfl ?_
    refine v_aload_n G dX0_readNumberStep_15 2 rfl ?_
    refine v_iload_n G dX0_readNumberStep_16 3 rfl ?_
    refine v_iload G dX0_readNumberStep_17 0 rfl ?_
    refine v_iconst (0 : Int32) G dX0_readNumberStep_19 (by decide) ?_
    refine v_iconst (0 : Int32) G dX0_readNumberStep_20 (by decide) ?_
    obtain ⟨v2, hcv2, hf⟩ := bd_e hf
    refine v_callV [.ref (ad a1), .int p2, .int v1.1, .int (0 : Int32), .int (0 : Int32)] G (c_X0_addStep n h0 h1 hcv2) h0 (by decide) rfl rfl rfl t_1236 t_1238 t_p41 t_8 t_1239 nm_X0_addStep (by decide) (by decide) rfl rfl (Nat.le_of_ble_eq_true rfl) dX0_readNumberStep_21 (kv_ri ?_)
    refine v_if_eq 31 G dX0_readNumberStep_24 (by decide) (fun h3 => ?_) (fun h3 => ?_)
    · replace hf := (if_pos h3).symm.trans hf
      refine v_iconst (0 : Int32) G dX0_readNumberStep_31 (by decide) ?_
      obtain rfl := Option.some.inj hf
      exact v_zret G (Or.inl rfl) dX0_readNumberStep_32
    · replace hf := (if_neg h3).symm.trans hf
      refine v_iconst (1 : Int32) G dX0_readNumberStep_27 (by decide) ?_
      refine v_goto 32 G dX0_readNumberStep_28 (by decide) ?_
      obtain rfl := Option.some.inj hf
      exact v_zret G (Or.inr rfl) dX0_readNumberStep_32
abbrev cX0_readGo : ByteArray := prog_2_method_9_code
def yX0_readGo : MethodName := ⟨RX0, "readGo", "(LNoonGuides$Plan;LNoonGuides$Land;)Z"⟩
theorem dX0_readGo_0 : dc cX0_readGo 0 (.aload_n 0) 1 1 := ⟨by decide +kernel, rfl⟩
theorem dX0_readGo_1 : dc cX0_readGo 1 (.aload_n 2) 1 2 := ⟨by decide +kernel, rfl⟩
theorem dX0_readGo_2 : dc cX0_readGo 2 (.invokevirtual 101) 3 5 := ⟨by decide +kernel, rfl⟩
theorem dX0_readGo_5 : dc cX0_readGo 5 (.istore_n 3) 1 6 := ⟨by decide +kernel, rfl⟩
theorem dX0_readGo_6 : dc cX0_readGo 6 (.iload_n 3) 1 7 := ⟨by decide +kernel, rfl⟩
theorem dX0_readGo_7 : dc cX0_readGo 7 (.iconst (-1)) 1 8 := ⟨by decide +kernel, rfl⟩
theorem dX0_readGo_8 : dc cX0_readGo 8 (.if_icmp .ne 7) 3 11 := ⟨by decide +kernel, rfl⟩
theorem dX0_readGo_11 : dc cX0_readGo 11 (.iconst (-1)) 1 12 := ⟨by decide +kernel, rfl⟩
theorem dX0_readGo_12 : dc cX0_readGo 12 (.goto 8) 3 15 := ⟨by decide +kernel, rfl⟩
theorem dX0_readGo_15 : dc cX0_readGo 15 (.aload_n 0) 1 16 := ⟨by decide +kernel, rfl⟩
theorem dX0_readGo_16 : dc cX0_readGo 16 (.aload_n 2) 1 17 := ⟨by decide +kernel, rfl⟩
theorem dX0_readGo_17 : dc cX0_readGo 17 (.invokevirtual 105) 3 20 := ⟨by decide +kernel, rfl⟩
theorem dX0_readGo_20 : dc cX0_readGo 20 (.istore 4) 2 22 := ⟨by decide +kernel, rfl⟩
theorem dX0_readGo_22 : dc cX0_readGo 22 (.iload 4) 2 24 := ⟨by decide +kernel, rfl⟩
theorem dX0_readGo_24 : dc cX0_readGo 24 (.iconst (-1)) 1 25 := ⟨by decide +kernel, rfl⟩
theorem dX0_readGo_25 : dc cX0_readGo 25 (.if_icmp .eq 20) 3 28 := ⟨by decide +kernel, rfl⟩
theorem dX0_readGo_28 : dc cX0_readGo 28 (.aload_n 0) 1 29 := ⟨by decide +kernel, rfl⟩
theorem dX0_readGo_29 : dc cX0_readGo 29 (.aload_n 1) 1 30 := ⟨by decide +kernel, rfl⟩
theorem dX0_readGo_30 : dc cX0_readGo 30 (.iconst 1) 1 31 := ⟨by decide +kernel, rfl⟩
theorem dX0_readGo_31 : dc cX0_readGo 31 (.iload_n 3) 1 32 := ⟨by decide +kernel, rfl⟩
theorem dX0_readGo_32 : dc cX0_readGo 32 (.iload 4) 2 34 := ⟨by decide +kernel, rfl⟩
theorem dX0_readGo_34 : dc cX0_readGo 34 (.iconst 0) 1 35 := ⟨by decide +kernel, rfl⟩
theorem dX0_readGo_35 : dc cX0_readGo 35 (.invokevirtual 77) 3 38 := ⟨by decide +kernel, rfl⟩
theorem dX0_readGo_38 : dc cX0_readGo 38 (.ifCond .eq 7) 3 41 := ⟨by decide +kernel, rfl⟩
theorem dX0_readGo_41 : dc cX0_readGo 41 (.iconst 1) 1 42 := ⟨by decide +kernel, rfl⟩
theorem dX0_readGo_42 : dc cX0_readGo 42 (.goto 4) 3 45 := ⟨by decide +kernel, rfl⟩
theorem dX0_readGo_45 : dc cX0_readGo 45 (.iconst 0) 1 46 := ⟨by decide +kernel, rfl⟩
theorem dX0_readGo_46 : dc cX0_readGo 46 (.ireturn) 1 47 := ⟨by decide +kernel, rfl⟩
theorem nm_X0_readGo : (yX0_readGo).cls ≠ "java/lang/invoke/MethodHandle" ∧ (yX0_readGo).cls ≠ "java/lang/invoke/VarHandle" ∧ (parseMethodDescriptor (yX0_readGo).desc).map (fun d => d.parameters.length) = some 2 := ⟨by decide +kernel, by decide +kernel, by decide +kernel⟩
set_option maxRecDepth 100000 in
theorem z_X0_readGo (n : Nat) {a0 : Nat} {a1 : Nat} {a2 : Nat} {M : KM} {y : (Int32 × KM)} (hf : f_X0_readGo n a0 a1 a2 M = some y) : (y.1 = 0 ∨ y.1 = 1) := by
  unfold f_X0_readGo at hf
  obtain ⟨v1, hcv1, hf⟩ := bd_e hf
  obtain ⟨j20, ej20, hf⟩ := lt_j hf
  have hj20 : ∀ (x2 : Int32) (M3 : KM), j20 x2 M3 = some y → (y.1 = 0 ∨ y.1 = 1) := by
    intro x2 M3 hf
    rw [ej20] at hf
    by_cases h6 : x2 = (-1 : Int32)
    · replace hf := (if_pos h6).symm.trans hf
      obtain rfl := Option.some.inj hf
      exact (Or.inl rfl)
    · replace hf := (if_neg h6).symm.trans hf
      obtain ⟨v4, hcv4, hf⟩ := bd_e hf
      by_cases h5 : v4.1 = 0
      · replace hf := (if_pos h5).symm.trans hf
        obtain rfl := Option.some.inj hf
        exact (Or.inl rfl)
      · replace hf := (if_neg h5).symm.trans hf
        obtain rfl := Option.some.inj hf
        exact (Or.inr rfl)
  by_cases h8 : v1.1 = (-1 : Int32)
  · replace hf := (if_pos h8).symm.trans hf
    exact hj20 (-1 : Int32) v1.2 hf
  · replace hf := (if_neg h8).symm.trans hf
    obtain ⟨v7, hcv7, hf⟩ := bd_e hf
    exact hj20 v7.1 v7.2 hf
set_option maxRecDepth 100000 in
set_option maxHeartbeats 4000000 in
theorem c_X0_readGo {l : Launch} {ad : Nat → Nat} {cy : Nat → ClassId} {D : va_G} {z : Nat} (n : Nat) {a0 : Nat} {a1 : Nat} {a2 : Nat} {M : KM} {y : (Int32 × KM)} (h0 : kty a0 = 1) (h1 : kty a1 = 9) (h2 : kty a2 = 3) (hf : f_X0_readGo n a0 a1 a2 M = some y) : KC l ad cy D z yX0_readGo cX0_readGo 5 (some .boolean) 5 [.ref (ad a0), .ref (ad a1), .ref (ad a2)] M (some (.int y.1), y.2) := by
  refine kv_enter (by decide +kernel) (Nat.le_of_ble_eq_true rfl) ?_
  intro x hl hD hz G
  subst hl hD hz
  unfold f_X0_readGo at hf
  have G : KG ad cy x cX0_readGo "NoonGuides$DaysReader" 5 (some (some .boolean)) 5 := G
  show KV ad cy x (some (.int y.1), y.2) 0 [(0, .ref (ad a0)), (1, .ref (ad a1)), (2, .ref (ad a2))] [] M
  refine v_aload_n G dX0_readGo_0 0 rfl ?_
  refine v_aload_n G dX0_readGo_1 2 rfl ?_
  obtain ⟨v1, hcv1, hf⟩ := bd_e hf
  refine v_callU (owner := "NoonGuides$TextReader") [.ref (ad a2)] G (c_X9_takePerson_D n h0 h2 hcv1) h0 (by decide) rfl rfl t_1244 t_1245 t_1172 t_1246 t_2 t_1173 rfl nm_X9_takePerson (by decide) (by decide) rfl rfl (Nat.le_of_ble_eq_true rfl) dX0_readGo_2 (kv_ri ?_)
  refine v_istore_n [(3, .int v1.1), (0, .ref (ad a0)), (1, .ref (ad a1)), (2, .ref (ad a2))] G dX0_readGo_5 (by decide) rfl ?_
  refine v_iload_n G dX0_readGo_6 0 rfl ?_
  refine v_iconst (-1 : Int32) G dX0_readGo_7 (by decide) ?_
  obtain ⟨j20, ej20, hf⟩ := lt_j hf
  have hj20 : ∀ (x2 : Int32) (M3 : KM), j20 x2 M3 = some y → KV ad cy x (some (.int y.1), y.2) 20 [(0, .ref (ad a0)), (1, .ref (ad a1)), (3, .int v1.1)] [.int x2] M3 := by
    intro x2 M3 hf
    rw [ej20] at hf
    refine v_istore [(4, .int x2), (0, .ref (ad a0)), (1, .ref (ad a1)), (3, .int v1.1)] G dX0_readGo_20 (by decide) rfl ?_
    refine v_iload G dX0_readGo_22 0 rfl ?_
    refine v_iconst (-1 : Int32) G dX0_readGo_24 (by decide) ?_
    refine v_icmp_eq 45 G dX0_readGo_25 (by decide) (fun h6 => ?_) (fun h6 => ?_)
    · replace hf := (if_pos h6).symm.trans hf
      refine v_iconst (0 : Int32) G dX0_readGo_45 (by decide) ?_
      obtain rfl := Option.some.inj hf
      exact v_zret G (Or.inl rfl) dX0_readGo_46
    · replace hf := (if_neg h6).symm.trans hf
      refine v_aload_n G dX0_readGo_28 1 rfl ?_
      refine v_aload_n G dX0_readGo_29 2 rfl ?_
      refine v_iconst (1 : Int32) G dX0_readGo_30 (by decide) ?_
      refine v_iload_n G dX0_readGo_31 3 rfl ?_
      refine v_iload G dX0_readGo_32 0 rfl ?_
      refine v_iconst (0 : Int32) G dX0_readGo_34 (by decide) ?_
      obtain ⟨v4, hcv4, hf⟩ := bd_e hf
      refine v_callV [.ref (ad a1), .int (1 : Int32), .int v1.1, .int x2, .int (0 : Int32)] G (c_X0_addStep n h0 h1 hcv4) h0 (by decide) rfl rfl rfl t_1236 t_1238 t_p41 t_8 t_1239 nm_X0_addStep (by decide) (by decide) rfl rfl (Nat.le_of_ble_eq_true rfl) dX0_readGo_35 (kv_ri ?_)
      refine v_if_eq 45 G dX0_readGo_38 (by decide) (fun h5 => ?_) (fun h5 => ?_)
      · replace hf := (if_pos h5).symm.trans hf
        refine v_iconst (0 : Int32) G dX0_readGo_45 (by decide) ?_
        obtain rfl := Option.some.inj hf
        exact v_zret G (Or.inl rfl) dX0_readGo_46
      · replace hf := (if_neg h5).symm.trans hf
        refine v_iconst (1 : Int32) G dX0_readGo_41 (by decide) ?_
        refine v_goto 46 G dX0_readGo_42 (by decide) ?_
        obtain rfl := Option.some.inj hf
        exact v_zret G (Or.inr rfl) dX0_readGo_46
  refine v_icmp_ne 15 G dX0_readGo_8 (by decide) (fun h8 => ?_) (fun h8 => ?_)
  · replace hf := (if_neg h8).symm.trans hf
    refine v_aload_n G dX0_readGo_15 1 rfl ?_
    refine v_aload_n G dX0_readGo_16 3 rfl ?_
    obtain ⟨v7, hcv7, hf⟩ := bd_e hf
    refine v_callU (owner := "NoonGuides$TextReader") [.ref (ad a2)] G (c_X9_takePlace_D n h0 h2 hcv7) h0 (by decide) rfl rfl t_1247 t_1248 t_1130 t_1249 t_2 t_1131 rfl nm_X9_takePlace (by decide) (by decide) rfl rfl (Nat.le_of_ble_eq_true rfl) dX0_readGo_17 (kv_ri ?_)
    refine v_sub _ [1, 2, 0] rfl ?_
    exact hj20 v7.1 v7.2 hf
  · replace hf := (if_pos h8).symm.trans hf
    refine v_iconst (-1 : Int32) G dX0_readGo_11 (by decide) ?_
    refine v_goto 20 G dX0_readGo_12 (by decide) ?_
    refine v_sub _ [1, 2, 0] rfl ?_
    exact hj20 (-1 : Int32) v1.2 hf
abbrev cX0_readLead : ByteArray := prog_2_method_10_code
def yX0_readLead : MethodName := ⟨RX0, "readLead", "(LNoonGuides$Plan;LNoonGuides$Land;)Z"⟩
theorem dX0_readLead_0 : dc cX0_readLead 0 (.aload_n 0) 1 1 := ⟨by decide +kernel, rfl⟩
theorem dX0_readLead_1 : dc cX0_readLead 1 (.aload_n 2) 1 2 := ⟨by decide +kernel, rfl⟩
theorem dX0_readLead_2 : dc cX0_readLead 2 (.invokevirtual 101) 3 5 := ⟨by decide +kernel, rfl⟩
theorem dX0_readLead_5 : dc cX0_readLead 5 (.istore_n 3) 1 6 := ⟨by decide +kernel, rfl⟩
theorem dX0_readLead_6 : dc cX0_readLead 6 (.iload_n 3) 1 7 := ⟨by decide +kernel, rfl⟩
theorem dX0_readLead_7 : dc cX0_readLead 7 (.iconst (-1)) 1 8 := ⟨by decide +kernel, rfl⟩
theorem dX0_readLead_8 : dc cX0_readLead 8 (.if_icmp .ne 7) 3 11 := ⟨by decide +kernel, rfl⟩
theorem dX0_readLead_11 : dc cX0_readLead 11 (.iconst (-1)) 1 12 := ⟨by decide +kernel, rfl⟩
theorem dX0_readLead_12 : dc cX0_readLead 12 (.goto 8) 3 15 := ⟨by decide +kernel, rfl⟩
theorem dX0_readLead_15 : dc cX0_readLead 15 (.aload_n 0) 1 16 := ⟨by decide +kernel, rfl⟩
theorem dX0_readLead_16 : dc cX0_readLead 16 (.aload_n 2) 1 17 := ⟨by decide +kernel, rfl⟩
theorem dX0_readLead_17 : dc cX0_readLead 17 (.invokevirtual 101) 3 20 := ⟨by decide +kernel, rfl⟩
theorem dX0_readLead_20 : dc cX0_readLead 20 (.istore 4) 2 22 := ⟨by decide +kernel, rfl⟩
theorem dX0_readLead_22 : dc cX0_readLead 22 (.iload 4) 2 24 := ⟨by decide +kernel, rfl⟩
theorem dX0_readLead_24 : dc cX0_readLead 24 (.iconst (-1)) 1 25 := ⟨by decide +kernel, rfl⟩
theorem dX0_readLead_25 : dc cX0_readLead 25 (.if_icmp .ne 5) 3 28 := ⟨by decide +kernel, rfl⟩
theorem dX0_readLead_28 : dc cX0_readLead 28 (.iconst 0) 1 29 := ⟨by decide +kernel, rfl⟩
theorem dX0_readLead_29 : dc cX0_readLead 29 (.ireturn) 1 30 := ⟨by decide +kernel, rfl⟩
theorem dX0_readLead_30 : dc cX0_readLead 30 (.iload_n 3) 1 31 := ⟨by decide +kernel, rfl⟩
theorem dX0_readLead_31 : dc cX0_readLead 31 (.iload 4) 2 33 := ⟨by decide +kernel, rfl⟩
theorem dX0_readLead_33 : dc cX0_readLead 33 (.if_icmp .ne 9) 3 36 := ⟨by decide +kernel, rfl⟩
theorem dX0_readLead_36 : dc cX0_readLead 36 (.aload_n 0) 1 37 := ⟨by decide +kernel, rfl⟩
theorem dX0_readLead_37 : dc cX0_readLead 37 (.iconst 5) 1 38 := ⟨by decide +kernel, rfl⟩
theorem dX0_readLead_38 : dc cX0_readLead 38 (.invokevirtual 108) 3 41 := ⟨by decide +kernel, rfl⟩
theorem dX0_readLead_41 : dc cX0_readLead 41 (.ireturn) 1 42 := ⟨by decide +kernel, rfl⟩
theorem dX0_readLead_42 : dc cX0_readLead 42 (.aload_n 0) 1 43 := ⟨by decide +kernel, rfl⟩
theorem dX0_readLead_43 : dc cX0_readLead 43 (.aload_n 2) 1 44 := ⟨by decide +kernel, rfl⟩
theorem dX0_readLead_44 : dc cX0_readLead 44 (.invokevirtual 105) 3 47 := ⟨by decide +kernel, rfl⟩
theorem dX0_readLead_47 : dc cX0_readLead 47 (.istore 5) 2 49 := ⟨by decide +kernel, rfl⟩
theorem dX0_readLead_49 : dc cX0_readLead 49 (.iload 5) 2 51 := ⟨by decide +kernel, rfl⟩
theorem dX0_readLead_51 : dc cX0_readLead 51 (.iconst (-1)) 1 52 := ⟨by decide +kernel, rfl⟩
theorem dX0_readLead_52 : dc cX0_readLead 52 (.if_icmp .eq 21) 3 55 := ⟨by decide +kernel, rfl⟩
theorem dX0_readLead_55 : dc cX0_readLead 55 (.aload_n 0) 1 56 := ⟨by decide +kernel, rfl⟩
theorem dX0_readLead_56 : dc cX0_readLead 56 (.aload_n 1) 1 57 := ⟨by decide +kernel, rfl⟩
theorem dX0_readLead_57 : dc cX0_readLead 57 (.iconst 2) 1 58 := ⟨by decide +kernel, rfl⟩
theorem dX0_readLead_58 : dc cX0_readLead 58 (.iload_n 3) 1 59 := ⟨by decide +kernel, rfl⟩
theorem dX0_readLead_59 : dc cX0_readLead 59 (.iload 4) 2 61 := ⟨by decide +kernel, rfl⟩
theorem dX0_readLead_61 : dc cX0_readLead 61 (.iload 5) 2 63 := ⟨by decide +kernel, rfl⟩
theorem dX0_readLead_63 : dc cX0_readLead 63 (.invokevirtual 77) 3 66 := ⟨by decide +kernel, rfl⟩
theorem dX0_readLead_66 : dc cX0_readLead 66 (.ifCond .eq 7) 3 69 := ⟨by decide +kernel, rfl⟩
theorem dX0_readLead_69 : dc cX0_readLead 69 (.iconst 1) 1 70 := ⟨by decide +kernel, rfl⟩
theorem dX0_readLead_70 : dc cX0_readLead 70 (.goto 4) 3 73 := ⟨by decide +kernel, rfl⟩
theorem dX0_readLead_73 : dc cX0_readLead 73 (.iconst 0) 1 74 := ⟨by decide +kernel, rfl⟩
theorem dX0_readLead_74 : dc cX0_readLead 74 (.ireturn) 1 75 := ⟨by decide +kernel, rfl⟩
theorem nm_X0_readLead : (yX0_readLead).cls ≠ "java/lang/invoke/MethodHandle" ∧ (yX0_readLead).cls ≠ "java/lang/invoke/VarHandle" ∧ (parseMethodDescriptor (yX0_readLead).desc).map (fun d => d.parameters.length) = some 2 := ⟨by decide +kernel, by decide +kernel, by decide +kernel⟩
set_option maxRecDepth 100000 in
theorem z_X0_readLead (n : Nat) {a0 : Nat} {a1 : Nat} {a2 : Nat} {M : KM} {y : (Int32 × KM)} (hf : f_X0_readLead n a0 a1 a2 M = some y) : (y.1 = 0 ∨ y.1 = 1) := by
  unfold f_X0_readLead at hf
  obtain ⟨v1, hcv1, hf⟩ := bd_e hf
  obtain ⟨j20, ej20, hf⟩ := lt_j hf
  have hj20 : ∀ (x2 : Int32) (M3 : KM), j20 x2 M3 = some y → (y.1 = 0 ∨ y.1 = 1) := by
    intro x2 M3 hf
    rw [ej20] at hf
    by_cases h10 : x2 = (-1 : Int32)
    · replace hf := (if_pos h10).symm.trans hf
      obtain rfl := Option.some.inj hf
      exact (Or.inl rfl)
    · replace hf := (if_neg h10).symm.trans hf
      by_cases h9 : v1.1 = x2
      · replace hf := (if_pos h9).symm.trans hf
        obtain ⟨v8, hcv8⟩ : ∃ q, f_X9_failTaken a0 (5 : Int32) M3 = q := ⟨_, rfl⟩
        replace hf := lt_e hf hcv8.symm
        obtain rfl := Option.some.inj hf
        exact (z_X9_failTaken hcv8)
      · replace hf := (if_neg h9).symm.trans hf
        obtain ⟨v4, hcv4, hf⟩ := bd_e hf
        by_cases h7 : v4.1 = (-1 : Int32)
        · replace hf := (if_pos h7).symm.trans hf
          obtain rfl := Option.some.inj hf
          exact (Or.inl rfl)
        · replace hf := (if_neg h7).symm.trans hf
          obtain ⟨v5, hcv5, hf⟩ := bd_e hf
          by_cases h6 : v5.1 = 0
          · replace hf := (if_pos h6).symm.trans hf
            obtain rfl := Option.some.inj hf
            exact (Or.inl rfl)
          · replace hf := (if_neg h6).symm.trans hf
            obtain rfl := Option.some.inj hf
            exact (Or.inr rfl)
  by_cases h12 : v1.1 = (-1 : Int32)
  · replace hf := (if_pos h12).symm.trans hf
    exact hj20 (-1 : Int32) v1.2 hf
  · replace hf := (if_neg h12).symm.trans hf
    obtain ⟨v11, hcv11, hf⟩ := bd_e hf
    exact hj20 v11.1 v11.2 hf
set_option maxRecDepth 100000 in
set_option maxHeartbeats 4000000 in
theorem c_X0_readLead {l : Launch} {ad : Nat → Nat} {cy : Nat → ClassId} {D : va_G} {z : Nat} (n : Nat) {a0 : Nat} {a1 : Nat} {a2 : Nat} {M : KM} {y : (Int32 × KM)} (h0 : kty a0 = 1) (h1 : kty a1 = 9) (h2 : kty a2 = 3) (hf : f_X0_readLead n a0 a1 a2 M = some y) : KC l ad cy D z yX0_readLead cX0_readLead 6 (some .boolean) 5 [.ref (ad a0), .ref (ad a1), .ref (ad a2)] M (some (.int y.1), y.2) := by
  refine kv_enter (by decide +kernel) (Nat.le_of_ble_eq_true rfl) ?_
  intro x hl hD hz G
  subst hl hD hz
  unfold f_X0_readLead at hf
  have G : KG ad cy x cX0_readLead "NoonGuides$DaysReader" 6 (some (some .boolean)) 5 := G
  show KV ad cy x (some (.int y.1), y.2) 0 [(0, .ref (ad a0)), (1, .ref (ad a1)), (2, .ref (ad a2))] [] M
  refine v_aload_n G dX0_readLead_0 0 rfl ?_
  refine v_aload_n G dX0_readLead_1 2 rfl ?_
  obtain ⟨v1, hcv1, hf⟩ := bd_e hf
  refine v_callU (owner := "NoonGuides$TextReader") [.ref (ad a2)] G (c_X9_takePerson_D n h0 h2 hcv1) h0 (by decide) rfl rfl t_1244 t_1245 t_1172 t_1246 t_2 t_1173 rfl nm_X9_takePerson (by decide) (by decide) rfl rfl (Nat.le_of_ble_eq_true rfl) dX0_readLead_2 (kv_ri ?_)
  refine v_istore_n [(3, .int v1.1), (0, .ref (ad a0)), (1, .ref (ad a1)), (2, .ref (ad a2))] G dX0_readLead_5 (by decide) rfl ?_
  refine v_iload_n G dX0_readLead_6 0 rfl ?_
  refine v_iconst (-1 : Int32) G dX0_readLead_7 (by decide) ?_
  obtain ⟨j20, ej20, hf⟩ := lt_j hf
  have hj20 : ∀ (x2 : Int32) (M3 : KM), j20 x2 M3 = some y → KV ad cy x (some (.int y.1), y.2) 20 [(0, .ref (ad a0)), (1, .ref (ad a1)), (2, .ref (ad a2)), (3, .int v1.1)] [.int x2] M3 := by
    intro x2 M3 hf
    rw [ej20] at hf
    refine v_istore [(4, .int x2), (0, .ref (ad a0)), (1, .ref (ad a1)), (2, .ref (ad a2)), (3, .int v1.1)] G dX0_readLead_20 (by decide) rfl ?_
    refine v_iload G dX0_readLead_22 0 rfl ?_
    refine v_iconst (-1 : Int32) G dX0_readLead_24 (by decide) ?_
    refine v_icmp_ne 30 G dX0_readLead_25 (by decide) (fun h10 => ?_) (fun h10 => ?_)
    · replace hf := (if_neg h10).symm.trans hf
      refine v_iload_n G dX0_readLead_30 4 rfl ?_
      refine v_iload G dX0_readLead_31 0 rfl ?_
      refine v_icmp_ne 42 G dX0_readLead_33 (by decide) (fun h9 => ?_) (fun h9 => ?_)
      · replace hf := (if_neg h9).symm.trans hf
        refine v_aload_n G dX0_readLead_42 1 rfl ?_
        refine v_aload_n G dX0_readLead_43 3 rfl ?_
        obtain ⟨v4, hcv4, hf⟩ := bd_e hf
        refine v_callU (owner := "NoonGuides$TextReader") [.ref (ad a2)] G (c_X9_takePlace_D n h0 h2 hcv4) h0 (by decide) rfl rfl t_1247 t_1248 t_1130 t_1249 t_2 t_1131 rfl nm_X9_takePlace (by decide) (by decide) rfl rfl (Nat.le_of_ble_eq_true rfl) dX0_readLead_44 (kv_ri ?_)
        refine v_istore [(5, .int v4.1), (4, .int x2), (0, .ref (ad a0)), (1, .ref (ad a1)), (2, .ref (ad a2)), (3, .int v1.1)] G dX0_readLead_47 (by decide) rfl ?_
        refine v_iload G dX0_readLead_49 0 rfl ?_
        refine v_iconst (-1 : Int32) G dX0_readLead_51 (by decide) ?_
        refine v_icmp_eq 73 G dX0_readLead_52 (by decide) (fun h7 => ?_) (fun h7 => ?_)
        · replace hf := (if_pos h7).symm.trans hf
          refine v_iconst (0 : Int32) G dX0_readLead_73 (by decide) ?_
          obtain rfl := Option.some.inj hf
          exact v_zret G (Or.inl rfl) dX0_readLead_74
        · replace hf := (if_neg h7).symm.trans hf
          refine v_aload_n G dX0_readLead_55 2 rfl ?_
          refine v_aload_n G dX0_readLead_56 3 rfl ?_
          refine v_iconst (2 : Int32) G dX0_readLead_57 (by decide) ?_
          refine v_iload_n G dX0_readLead_58 5 rfl ?_
          refine v_iload G dX0_readLead_59 1 rfl ?_
          refine v_iload G dX0_readLead_61 0 rfl ?_
          obtain ⟨v5, hcv5, hf⟩ := bd_e hf
          refine v_callV [.ref (ad a1), .int (2 : Int32), .int v1.1, .int x2, .int v4.1] G (c_X0_addStep n h0 h1 hcv5) h0 (by decide) rfl rfl rfl t_1236 t_1238 t_p41 t_8 t_1239 nm_X0_addStep (by decide) (by decide) rfl rfl (Nat.le_of_ble_eq_true rfl) dX0_readLead_63 (kv_ri ?_)
          refine v_if_eq 73 G dX0_readLead_66 (by decide) (fun h6 => ?_) (fun h6 => ?_)
          · replace hf := (if_pos h6).symm.trans hf
            refine v_iconst (0 : Int32) G dX0_readLead_73 (by decide) ?_
            obtain rfl := Option.some.inj hf
            exact v_zret G (Or.inl rfl) dX0_readLead_74
          · replace hf := (if_neg h6).symm.trans hf
            refine v_iconst (1 : Int32) G dX0_readLead_69 (by decide) ?_
            refine v_goto 74 G dX0_readLead_70 (by decide) ?_
            obtain rfl := Option.some.inj hf
            exact v_zret G (Or.inr rfl) dX0_readLead_74
      · replace hf := (if_pos h9).symm.trans hf
        refine v_aload_n G dX0_readLead_36 1 rfl ?_
        refine v_iconst (5 : Int32) G dX0_readLead_37 (by decide) ?_
        obtain ⟨v8, hcv8⟩ : ∃ q, f_X9_failTaken a0 (5 : Int32) M3 = q := ⟨_, rfl⟩
        replace hf := lt_e hf hcv8.symm
        refine v_callU (owner := "NoonGuides$TextReader") [.int (5 : Int32)] G (c_X9_failTaken_D h0 hcv8) h0 (by decide) rfl rfl t_1254 t_1255 t_1141 t_1256 t_2 t_1142 rfl nm_X9_failTaken (by decide) (by decide) rfl rfl (Nat.le_of_ble_eq_true rfl) dX0_readLead_38 (kv_ri ?_)
        obtain rfl := Option.some.inj hf
        exact v_zret G (z_X9_failTaken hcv8) dX0_readLead_41
    · replace hf := (if_pos h10).symm.trans hf
      refine v_iconst (0 : Int32) G dX0_readLead_28 (by decide) ?_
      obtain rfl := Option.some.inj hf
      exact v_zret G (Or.inl rfl) dX0_readLead_29
  refine v_icmp_ne 15 G dX0_readLead_8 (by decide) (fun h12 => ?_) (fun h12 => ?_)
  · replace hf := (if_neg h12).symm.trans hf
    refine v_aload_n G dX0_readLead_15 1 rfl ?_
    refine v_aload_n G dX0_readLead_16 3 rfl ?_
    obtain ⟨v11, hcv11, hf⟩ := bd_e hf
    refine v_callU (owner := "NoonGuides$TextReader") [.ref (ad a2)] G (c_X9_takePerson_D n h0 h2 hcv11) h0 (by decide) rfl rfl t_1244 t_1245 t_1172 t_1246 t_2 t_1173 rfl nm_X9_takePerson (by decide) (by decide) rfl rfl (Nat.le_of_ble_eq_true rfl) dX0_readLead_17 (kv_ri ?_)
    refine v_sub _ [1, 2, 3, 0] rfl ?_
    exact hj20 v11.1 v11.2 hf
  · replace hf := (if_pos h12).symm.trans hf
    refine v_iconst (-1 : Int32) G dX0_readLead_11 (by decide) ?_
    refine v_goto 20 G dX0_readLead_12 (by decide) ?_
    refine v_sub _ [1, 2, 3, 0] rfl ?_
    exact hj20 (-1 : Int32) v1.2 hf
abbrev cX0_startBlock : ByteArray := prog_2_method_6_code
def yX0_startBlock : MethodName := ⟨RX0, "startBlock", "(LNoonGuides$Plan;)Z"⟩
theorem dX0_startBlock_0 : dc cX0_startBlock 0 (.aload_n 1) 1 1 := ⟨by decide +kernel, rfl⟩
theorem dX0_startBlock_1 : dc cX0_startBlock 1 (.getfield 87) 3 4 := ⟨by decide +kernel, rfl⟩
theorem dX0_startBlock_4 : dc cX0_startBlock 4 (.bipush 30) 2 6 := ⟨by decide +kernel, rfl⟩
theorem dX0_startBlock_6 : dc cX0_startBlock 6 (.if_icmp .ge 18) 3 9 := ⟨by decide +kernel, rfl⟩
theorem dX0_startBlock_9 : dc cX0_startBlock 9 (.aload_n 0) 1 10 := ⟨by decide +kernel, rfl⟩
theorem dX0_startBlock_10 : dc cX0_startBlock 10 (.getfield 20) 3 13 := ⟨by decide +kernel, rfl⟩
theorem dX0_startBlock_13 : dc cX0_startBlock 13 (.iconst 3) 1 14 := ⟨by decide +kernel, rfl⟩
theorem dX0_startBlock_14 : dc cX0_startBlock 14 (.if_icmp .lt 10) 3 17 := ⟨by decide +kernel, rfl⟩
theorem dX0_startBlock_17 : dc cX0_startBlock 17 (.aload_n 0) 1 18 := ⟨by decide +kernel, rfl⟩
theorem dX0_startBlock_18 : dc cX0_startBlock 18 (.bipush 7) 2 20 := ⟨by decide +kernel, rfl⟩
theorem dX0_startBlock_20 : dc cX0_startBlock 20 (.invokevirtual 90) 3 23 := ⟨by decide +kernel, rfl⟩
theorem dX0_startBlock_23 : dc cX0_startBlock 23 (.ireturn) 1 24 := ⟨by decide +kernel, rfl⟩
theorem dX0_startBlock_24 : dc cX0_startBlock 24 (.aload_n 0) 1 25 := ⟨by decide +kernel, rfl⟩
theorem dX0_startBlock_25 : dc cX0_startBlock 25 (.aload_n 1) 1 26 := ⟨by decide +kernel, rfl⟩
theorem dX0_startBlock_26 : dc cX0_startBlock 26 (.invokevirtual 64) 3 29 := ⟨by decide +kernel, rfl⟩
theorem dX0_startBlock_29 : dc cX0_startBlock 29 (.ifCond .ne 5) 3 32 := ⟨by decide +kernel, rfl⟩
theorem dX0_startBlock_32 : dc cX0_startBlock 32 (.iconst 0) 1 33 := ⟨by decide +kernel, rfl⟩
theorem dX0_startBlock_33 : dc cX0_startBlock 33 (.ireturn) 1 34 := ⟨by decide +kernel, rfl⟩
theorem dX0_startBlock_34 : dc cX0_startBlock 34 (.aload_n 0) 1 35 := ⟨by decide +kernel, rfl⟩
theorem dX0_startBlock_35 : dc cX0_startBlock 35 (.getfield 11) 3 38 := ⟨by decide +kernel, rfl⟩
theorem dX0_startBlock_38 : dc cX0_startBlock 38 (.aload_n 0) 1 39 := ⟨by decide +kernel, rfl⟩
theorem dX0_startBlock_39 : dc cX0_startBlock 39 (.getfield 20) 3 42 := ⟨by decide +kernel, rfl⟩
theorem dX0_startBlock_42 : dc cX0_startBlock 42 (.aload_n 1) 1 43 := ⟨by decide +kernel, rfl⟩
theorem dX0_startBlock_43 : dc cX0_startBlock 43 (.getfield 94) 3 46 := ⟨by decide +kernel, rfl⟩
theorem dX0_startBlock_46 : dc cX0_startBlock 46 (.iastore) 1 47 := ⟨by decide +kernel, rfl⟩
theorem dX0_startBlock_47 : dc cX0_startBlock 47 (.aload_n 0) 1 48 := ⟨by decide +kernel, rfl⟩
theorem dX0_startBlock_48 : dc cX0_startBlock 48 (.dup) 1 49 := ⟨by decide +kernel, rfl⟩
theorem dX0_startBlock_49 : dc cX0_startBlock 49 (.getfield 20) 3 52 := ⟨by decide +kernel, rfl⟩
theorem dX0_startBlock_52 : dc cX0_startBlock 52 (.iconst 1) 1 53 := ⟨by decide +kernel, rfl⟩
theorem dX0_startBlock_53 : dc cX0_startBlock 53 (.iadd) 1 54 := ⟨by decide +kernel, rfl⟩
theorem dX0_startBlock_54 : dc cX0_startBlock 54 (.putfield 20) 3 57 := ⟨by decide +kernel, rfl⟩
theorem dX0_startBlock_57 : dc cX0_startBlock 57 (.iconst 1) 1 58 := ⟨by decide +kernel, rfl⟩
theorem dX0_startBlock_58 : dc cX0_startBlock 58 (.ireturn) 1 59 := ⟨by decide +kernel, rfl⟩
theorem nm_X0_startBlock : (yX0_startBlock).cls ≠ "java/lang/invoke/MethodHandle" ∧ (yX0_startBlock).cls ≠ "java/lang/invoke/VarHandle" ∧ (parseMethodDescriptor (yX0_startBlock).desc).map (fun d => d.parameters.length) = some 1 := ⟨by decide +kernel, by decide +kernel, by decide +kernel⟩
set_option maxRecDepth 100000 in
theorem z_X0_startBlock (n : Nat) {a0 : Nat} {a1 : Nat} {M : KM} {y : (Int32 × KM)} (hf : f_X0_startBlock n a0 a1 M = some y) : (y.1 = 0 ∨ y.1 = 1) := by
  unfold f_X0_startBlock at hf
  obtain ⟨j24, ej24, hf⟩ := lt_j hf
  have hj24 : j24 = some y → (y.1 = 0 ∨ y.1 = 1) := by
    intro hf
    rw [ej24] at hf
    obtain ⟨v1, hcv1, hf⟩ := bd_e hf
    by_cases h5 : v1.1 = 0
    · replace hf := (if_pos h5).symm.trans hf
      obtain rfl := Option.some.inj hf
      exact (Or.inl rfl)
    · replace hf := (if_neg h5).symm.trans hf
      obtain ⟨g2, hf⟩ := gd_e hf
      obtain ⟨M3, eM3⟩ : ∃ q : KM, q = (uI v1.2 (a0 + 3) ((v1.2.1 a0 13)).toNatClampNeg (v1.2.1 a1 5)) := ⟨_, rfl⟩
      replace hf := lt_e hf eM3
      obtain ⟨M4, eM4⟩ : ∃ q : KM, q = (uI M3 a0 13 ((M3.1 a0 13) + (1 : Int32))) := ⟨_, rfl⟩
      replace hf := lt_e hf eM4
      obtain rfl := Option.some.inj hf
      exact (Or.inr rfl)
  by_cases h8 : (30 : Int32) ≤ (M.1 a1 6)
  · replace hf := (if_pos h8).symm.trans hf
    exact hj24 hf
  · replace hf := (if_neg h8).symm.trans hf
    by_cases h7 : (M.1 a0 13) < (3 : Int32)
    · replace hf := (if_pos h7).symm.trans hf
      exact hj24 hf
    · replace hf := (if_neg h7).symm.trans hf
      obtain ⟨v6, hcv6⟩ : ∃ q, f_X9_fail a0 (7 : Int32) M = q := ⟨_, rfl⟩
      replace hf := lt_e hf hcv6.symm
      obtain rfl := Option.some.inj hf
      exact (z_X9_fail hcv6)
set_option maxRecDepth 100000 in
set_option maxHeartbeats 4000000 in
theorem c_X0_startBlock {l : Launch} {ad : Nat → Nat} {cy : Nat → ClassId} {D : va_G} {z : Nat} (n : Nat) {a0 : Nat} {a1 : Nat} {M : KM} {y : (Int32 × KM)} (h0 : kty a0 = 1) (h1 : kty a1 = 9) (hf : f_X0_startBlock n a0 a1 M = some y) : KC l ad cy D z yX0_startBlock cX0_startBlock 2 (some .boolean) 5 [.ref (ad a0), .ref (ad a1)] M (some (.int y.1), y.2) := by
  refine kv_enter (by decide +kernel) (Nat.le_of_ble_eq_true rfl) ?_
  intro x hl hD hz G
  subst hl hD hz
  unfold f_X0_startBlock at hf
  have G : KG ad cy x cX0_startBlock "NoonGuides$DaysReader" 2 (some (some .boolean)) 5 := G
  show KV ad cy x (some (.int y.1), y.2) 0 [(0, .ref (ad a0)), (1, .ref (ad a1))] [] M
  refine v_aload_n G dX0_startBlock_0 1 rfl ?_
  refine gf_8_6 G h1 t_277 (Or.inl rfl) dX0_startBlock_1 ?_
  refine v_bipush (30 : Int32) G dX0_startBlock_4 (by decide) ?_
  obtain ⟨j24, ej24, hf⟩ := lt_j hf
  have hj24 : j24 = some y → KV ad cy x (some (.int y.1), y.2) 24 [(0, .ref (ad a0)), (1, .ref (ad a1))] [] M := by
    intro hf
    rw [ej24] at hf
    refine v_aload_n G dX0_startBlock_24 0 rfl ?_
    refine v_aload_n G dX0_startBlock_25 1 rfl ?_
    obtain ⟨v1, hcv1, hf⟩ := bd_e hf
    refine v_callV [.ref (ad a1)] G (c_X0_start n h0 h1 hcv1) h0 (by decide) rfl rfl rfl t_1222 t_1224 t_p39 t_8 t_1225 nm_X0_start (by decide) (by decide) rfl rfl (Nat.le_of_ble_eq_true rfl) dX0_startBlock_26 (kv_ri ?_)
    refine v_if_ne 34 G dX0_startBlock_29 (by decide) (fun h5 => ?_) (fun h5 => ?_)
    · replace hf := (if_neg h5).symm.trans hf
      refine v_aload_n G dX0_startBlock_34 0 rfl ?_
      refine gf_0_12 G h0 t_150 (Or.inl rfl) dX0_startBlock_35 ?_
      refine v_aload_n G dX0_startBlock_38 0 rfl ?_
      refine gf_0_13 G h0 t_151 (Or.inl rfl) dX0_startBlock_39 ?_
      refine v_aload_n G dX0_startBlock_42 1 rfl ?_
      refine gf_8_5 G h1 t_275 (Or.inl rfl) dX0_startBlock_43 ?_
      obtain ⟨g2, hf⟩ := gd_e hf
      refine as_26 G (kf_0_3 h0) g2 dX0_startBlock_46 ?_
      refine v_nmM (fun M3 eM3 => ?_)
      replace hf := lt_e hf eM3
      refine v_aload_n G dX0_startBlock_47 0 rfl ?_
      refine v_dup G dX0_startBlock_48 rfl ?_
      refine gf_0_13 G h0 t_151 (Or.inl rfl) dX0_startBlock_49 ?_
      refine v_iconst (1 : Int32) G dX0_startBlock_52 (by decide) ?_
      refine v_iadd G dX0_startBlock_53 ?_
      refine pf_0_13 G h0 t_151 (Or.inl rfl) dX0_startBlock_54 ?_
      refine v_nmM (fun M4 eM4 => ?_)
      replace hf := lt_e hf eM4
      refine v_iconst (1 : Int32) G dX0_startBlock_57 (by decide) ?_
      obtain rfl := Option.some.inj hf
      exact v_zret G (Or.inr rfl) dX0_startBlock_58
    · replace hf := (if_pos h5).symm.trans hf
      refine v_iconst (0 : Int32) G dX0_startBlock_32 (by decide) ?_
      obtain rfl := Option.some.inj hf
      exact v_zret G (Or.inl rfl) dX0_startBlock_33
  refine v_icmp_ge 24 G dX0_startBlock_6 (by decide) (fun h8 => ?_) (fun h8 => ?_)
  · replace hf := (if_pos h8).symm.trans hf
    refine v_sub _ [0, 1] rfl ?_
    exact hj24 hf
  · replace hf := (if_neg h8).symm.trans hf
    refine v_aload_n G dX0_startBlock_9 0 rfl ?_
    refine gf_0_13 G h0 t_151 (Or.inl rfl) dX0_startBlock_10 ?_
    refine v_iconst (3 : Int32) G dX0_startBlock_13 (by decide) ?_
    refine v_icmp_lt 24 G dX0_startBlock_14 (by decide) (fun h7 => ?_) (fun h7 => ?_)
    · replace hf := (if_pos h7).symm.trans hf
      refine v_sub _ [0, 1] rfl ?_
      exact hj24 hf
    · replace hf := (if_neg h7).symm.trans hf
      refine v_aload_n G dX0_startBlock_17 0 rfl ?_
      refine v_bipush (7 : Int32) G dX0_startBlock_18 (by decide) ?_
      obtain ⟨v6, hcv6⟩ : ∃ q, f_X9_fail a0 (7 : Int32) M = q := ⟨_, rfl⟩
      replace hf := lt_e hf hcv6.symm
      refine v_callU (owner := "NoonGuides$TextReader") [.int (7 : Int32)] G (c_X9_fail_D h0 hcv6) h0 (by decide) rfl rfl t_1226 t_1227 t_1036 t_1228 t_2 t_1037 rfl nm_X9_fail (by decide) (by decide) rfl rfl (Nat.le_of_ble_eq_true rfl) dX0_startBlock_20 (kv_ri ?_)
      obtain rfl := Option.some.inj hf
      exact v_zret G (z_X9_fail hcv6) dX0_startBlock_23
abbrev cX0_readTest : ByteArray := prog_2_method_11_code
def yX0_readTest : MethodName := ⟨RX0, "readTest", "(LNoonGuides$Plan;LNoonGuides$Land;)Z"⟩
theorem dX0_readTest_0 : dc cX0_readTest 0 (.aload_n 0) 1 1 := ⟨by decide +kernel, rfl⟩
theorem dX0_readTest_1 : dc cX0_readTest 1 (.iconst 0) 1 2 := ⟨by decide +kernel, rfl⟩
theorem dX0_readTest_2 : dc cX0_readTest 2 (.invokevirtual 111) 3 5 := ⟨by decide +kernel, rfl⟩
theorem dX0_readTest_5 : dc cX0_readTest 5 (.ifCond .eq 14) 3 8 := ⟨by decide +kernel, rfl⟩
theorem dX0_readTest_8 : dc cX0_readTest 8 (.aload_n 0) 1 9 := ⟨by decide +kernel, rfl⟩
theorem dX0_readTest_9 : dc cX0_readTest 9 (.aload_n 1) 1 10 := ⟨by decide +kernel, rfl⟩
theorem dX0_readTest_10 : dc cX0_readTest 10 (.bipush 7) 2 12 := ⟨by decide +kernel, rfl⟩
theorem dX0_readTest_12 : dc cX0_readTest 12 (.iconst 0) 1 13 := ⟨by decide +kernel, rfl⟩
theorem dX0_readTest_13 : dc cX0_readTest 13 (.iconst 0) 1 14 := ⟨by decide +kernel, rfl⟩
theorem dX0_readTest_14 : dc cX0_readTest 14 (.iconst 0) 1 15 := ⟨by decide +kernel, rfl⟩
theorem dX0_readTest_15 : dc cX0_readTest 15 (.invokevirtual 77) 3 18 := ⟨by decide +kernel, rfl⟩
theorem dX0_readTest_18 : dc cX0_readTest 18 (.ireturn) 1 19 := ⟨by decide +kernel, rfl⟩
theorem dX0_readTest_19 : dc cX0_readTest 19 (.aload_n 0) 1 20 := ⟨by decide +kernel, rfl⟩
theorem dX0_readTest_20 : dc cX0_readTest 20 (.bipush 11) 2 22 := ⟨by decide +kernel, rfl⟩
theorem dX0_readTest_22 : dc cX0_readTest 22 (.invokevirtual 111) 3 25 := ⟨by decide +kernel, rfl⟩
theorem dX0_readTest_25 : dc cX0_readTest 25 (.ifCond .eq 51) 3 28 := ⟨by decide +kernel, rfl⟩
theorem dX0_readTest_28 : dc cX0_readTest 28 (.aload_n 0) 1 29 := ⟨by decide +kernel, rfl⟩
theorem dX0_readTest_29 : dc cX0_readTest 29 (.aload_n 2) 1 30 := ⟨by decide +kernel, rfl⟩
theorem dX0_readTest_30 : dc cX0_readTest 30 (.invokevirtual 101) 3 33 := ⟨by decide +kernel, rfl⟩
theorem dX0_readTest_33 : dc cX0_readTest 33 (.istore_n 3) 1 34 := ⟨by decide +kernel, rfl⟩
theorem dX0_readTest_34 : dc cX0_readTest 34 (.iload_n 3) 1 35 := ⟨by decide +kernel, rfl⟩
theorem dX0_readTest_35 : dc cX0_readTest 35 (.iconst (-1)) 1 36 := ⟨by decide +kernel, rfl⟩
theorem dX0_readTest_36 : dc cX0_readTest 36 (.if_icmp .ne 7) 3 39 := ⟨by decide +kernel, rfl⟩
theorem dX0_readTest_39 : dc cX0_readTest 39 (.iconst (-1)) 1 40 := ⟨by decide +kernel, rfl⟩
theorem dX0_readTest_40 : dc cX0_readTest 40 (.goto 8) 3 43 := ⟨by decide +kernel, rfl⟩
theorem dX0_readTest_43 : dc cX0_readTest 43 (.aload_n 0) 1 44 := ⟨by decide +kernel, rfl⟩
theorem dX0_readTest_44 : dc cX0_readTest 44 (.aload_n 2) 1 45 := ⟨by decide +kernel, rfl⟩
theorem dX0_readTest_45 : dc cX0_readTest 45 (.invokevirtual 105) 3 48 := ⟨by decide +kernel, rfl⟩
theorem dX0_readTest_48 : dc cX0_readTest 48 (.istore 4) 2 50 := ⟨by decide +kernel, rfl⟩
theorem dX0_readTest_50 : dc cX0_readTest 50 (.iload 4) 2 52 := ⟨by decide +kernel, rfl⟩
theorem dX0_readTest_52 : dc cX0_readTest 52 (.iconst (-1)) 1 53 := ⟨by decide +kernel, rfl⟩
theorem dX0_readTest_53 : dc cX0_readTest 53 (.if_icmp .eq 21) 3 56 := ⟨by decide +kernel, rfl⟩
theorem dX0_readTest_56 : dc cX0_readTest 56 (.aload_n 0) 1 57 := ⟨by decide +kernel, rfl⟩
theorem dX0_readTest_57 : dc cX0_readTest 57 (.aload_n 1) 1 58 := ⟨by decide +kernel, rfl⟩
theorem dX0_readTest_58 : dc cX0_readTest 58 (.bipush 6) 2 60 := ⟨by decide +kernel, rfl⟩
theorem dX0_readTest_60 : dc cX0_readTest 60 (.iload_n 3) 1 61 := ⟨by decide +kernel, rfl⟩
theorem dX0_readTest_61 : dc cX0_readTest 61 (.iload 4) 2 63 := ⟨by decide +kernel, rfl⟩
theorem dX0_readTest_63 : dc cX0_readTest 63 (.iconst 0) 1 64 := ⟨by decide +kernel, rfl⟩
theorem dX0_readTest_64 : dc cX0_readTest 64 (.invokevirtual 77) 3 67 := ⟨by decide +kernel, rfl⟩
theorem dX0_readTest_67 : dc cX0_readTest 67 (.ifCond .eq 7) 3 70 := ⟨by decide +kernel, rfl⟩
theorem dX0_readTest_70 : dc cX0_readTest 70 (.iconst 1) 1 71 := ⟨by decide +kernel, rfl⟩
theorem dX0_readTest_71 : dc cX0_readTest 71 (.goto 4) 3 74 := ⟨by decide +kernel, rfl⟩
theorem dX0_readTest_74 : dc cX0_readTest 74 (.iconst 0) 1 75 := ⟨by decide +kernel, rfl⟩
theorem dX0_readTest_75 : dc cX0_readTest 75 (.ireturn) 1 76 := ⟨by decide +kernel, rfl⟩
theorem dX0_readTest_76 : dc cX0_readTest 76 (.aload_n 0) 1 77 := ⟨by decide +kernel, rfl⟩
theorem dX0_readTest_77 : dc cX0_readTest 77 (.bipush 22) 2 79 := ⟨by decide +kernel, rfl⟩
theorem dX0_readTest_79 : dc cX0_readTest 79 (.invokevirtual 114) 3 82 := ⟨by decide +kernel, rfl⟩
theorem dX0_readTest_82 : dc cX0_readTest 82 (.ifCond .ne 5) 3 85 := ⟨by decide +kernel, rfl⟩
theorem dX0_readTest_85 : dc cX0_readTest 85 (.iconst 0) 1 86 := ⟨by decide +kernel, rfl⟩
theorem dX0_readTest_86 : dc cX0_readTest 86 (.ireturn) 1 87 := ⟨by decide +kernel, rfl⟩
theorem dX0_readTest_87 : dc cX0_readTest 87 (.aload_n 0) 1 88 := ⟨by decide +kernel, rfl⟩
theorem dX0_readTest_88 : dc cX0_readTest 88 (.aload_n 2) 1 89 := ⟨by decide +kernel, rfl⟩
theorem dX0_readTest_89 : dc cX0_readTest 89 (.invokevirtual 101) 3 92 := ⟨by decide +kernel, rfl⟩
theorem dX0_readTest_92 : dc cX0_readTest 92 (.istore_n 3) 1 93 := ⟨by decide +kernel, rfl⟩
theorem dX0_readTest_93 : dc cX0_readTest 93 (.iload_n 3) 1 94 := ⟨by decide +kernel, rfl⟩
theorem dX0_readTest_94 : dc cX0_readTest 94 (.iconst (-1)) 1 95 := ⟨by decide +kernel, rfl⟩
theorem dX0_readTest_95 : dc cX0_readTest 95 (.if_icmp .ne 7) 3 98 := ⟨by decide +kernel, rfl⟩
theorem dX0_readTest_98 : dc cX0_readTest 98 (.iconst (-1)) 1 99 := ⟨by decide +kernel, rfl⟩
theorem dX0_readTest_99 : dc cX0_readTest 99 (.goto 7) 3 102 := ⟨by decide +kernel, rfl⟩
theorem dX0_readTest_102 : dc cX0_readTest 102 (.aload_n 0) 1 103 := ⟨by decide +kernel, rfl⟩
theorem dX0_readTest_103 : dc cX0_readTest 103 (.invokevirtual 117) 3 106 := ⟨by decide +kernel, rfl⟩
theorem dX0_readTest_106 : dc cX0_readTest 106 (.istore 4) 2 108 := ⟨by decide +kernel, rfl⟩
theorem dX0_readTest_108 : dc cX0_readTest 108 (.iload 4) 2 110 := ⟨by decide +kernel, rfl⟩
theorem dX0_readTest_110 : dc cX0_readTest 110 (.iconst (-1)) 1 111 := ⟨by decide +kernel, rfl⟩
theorem dX0_readTest_111 : dc cX0_readTest 111 (.if_icmp .ne 7) 3 114 := ⟨by decide +kernel, rfl⟩
theorem dX0_readTest_114 : dc cX0_readTest 114 (.iconst (-1)) 1 115 := ⟨by decide +kernel, rfl⟩
theorem dX0_readTest_115 : dc cX0_readTest 115 (.goto 11) 3 118 := ⟨by decide +kernel, rfl⟩
theorem dX0_readTest_118 : dc cX0_readTest 118 (.aload_n 0) 1 119 := ⟨by decide +kernel, rfl⟩
theorem dX0_readTest_119 : dc cX0_readTest 119 (.iconst 0) 1 120 := ⟨by decide +kernel, rfl⟩
theorem dX0_readTest_120 : dc cX0_readTest 120 (.sipush 9999) 3 123 := ⟨by decide +kernel, rfl⟩
theorem dX0_readTest_123 : dc cX0_readTest 123 (.invokevirtual 97) 3 126 := ⟨by decide +kernel, rfl⟩
theorem dX0_readTest_126 : dc cX0_readTest 126 (.istore 5) 2 128 := ⟨by decide +kernel, rfl⟩
theorem dX0_readTest_128 : dc cX0_readTest 128 (.iload 5) 2 130 := ⟨by decide +kernel, rfl⟩
theorem dX0_readTest_130 : dc cX0_readTest 130 (.iconst (-1)) 1 131 := ⟨by decide +kernel, rfl⟩
theorem dX0_readTest_131 : dc cX0_readTest 131 (.if_icmp .eq 22) 3 134 := ⟨by decide +kernel, rfl⟩
theorem dX0_readTest_134 : dc cX0_readTest 134 (.aload_n 0) 1 135 := ⟨by decide +kernel, rfl⟩
theorem dX0_readTest_135 : dc cX0_readTest 135 (.aload_n 1) 1 136 := ⟨by decide +kernel, rfl⟩
theorem dX0_readTest_136 : dc cX0_readTest 136 (.bipush 8) 2 138 := ⟨by decide +kernel, rfl⟩
theorem dX0_readTest_138 : dc cX0_readTest 138 (.iload_n 3) 1 139 := ⟨by decide +kernel, rfl⟩
theorem dX0_readTest_139 : dc cX0_readTest 139 (.iload 4) 2 141 := ⟨by decide +kernel, rfl⟩
theorem dX0_readTest_141 : dc cX0_readTest 141 (.iload 5) 2 143 := ⟨by decide +kernel, rfl⟩
theorem dX0_readTest_143 : dc cX0_readTest 143 (.invokevirtual 77) 3 146 := ⟨by decide +kernel, rfl⟩
theorem dX0_readTest_146 : dc cX0_readTest 146 (.ifCond .eq 7) 3 149 := ⟨by decide +kernel, rfl⟩
theorem dX0_readTest_149 : dc cX0_readTest 149 (.iconst 1) 1 150 := ⟨by decide +kernel, rfl⟩
theorem dX0_readTest_150 : dc cX0_readTest 150 (.goto 4) 3 153 := ⟨by decide +kernel, rfl⟩
theorem dX0_readTest_153 : dc cX0_readTest 153 (.iconst 0) 1 154 := ⟨by decide +kernel, rfl⟩
theorem dX0_readTest_154 : dc cX0_readTest 154 (.ireturn) 1 155 := ⟨by decide +kernel, rfl⟩
theorem nm_X0_readTest : (yX0_readTest).cls ≠ "java/lang/invoke/MethodHandle" ∧ (yX0_readTest).cls ≠ "java/lang/invoke/VarHandle" ∧ (parseMethodDescriptor (yX0_readTest).desc).map (fun d => d.parameters.length) = some 2 := ⟨by decide +kernel, by decide +kernel, by decide +kernel⟩
set_option maxRecDepth 100000 in
theorem z_X0_readTest (n : Nat) {a0 : Nat} {a1 : Nat} {a2 : Nat} {M : KM} {y : (Int32 × KM)} (hf : f_X0_readTest n a0 a1 a2 M = some y) : (y.1 = 0 ∨ y.1 = 1) := by
  unfold f_X0_readTest at hf
  obtain ⟨v1, hcv1, hf⟩ := bd_e hf
  by_cases h27 : v1.1 = 0
  · replace hf := (if_pos h27).symm.trans hf
    obtain ⟨v2, hcv2, hf⟩ := bd_e hf
    by_cases h25 : v2.1 = 0
    · replace hf := (if_pos h25).symm.trans hf
      obtain ⟨v3, hcv3, hf⟩ := bd_e hf
      by_cases h16 : v3.1 = 0
      · replace hf := (if_pos h16).symm.trans hf
        obtain rfl := Option.some.inj hf
        exact (Or.inl rfl)
      · replace hf := (if_neg h16).symm.trans hf
        obtain ⟨v4, hcv4, hf⟩ := bd_e hf
        obtain ⟨j106, ej106, hf⟩ := lt_j hf
        have hj106 : ∀ (x5 : Int32) (M6 : KM), j106 x5 M6 = some y → (y.1 = 0 ∨ y.1 = 1) := by
          intro x5 M6 hf
          rw [ej106] at hf
          obtain ⟨j126, ej126, hf⟩ := lt_j hf
          have hj126 : ∀ (x7 : Int32) (M8 : KM), j126 x7 M8 = some y → (y.1 = 0 ∨ y.1 = 1) := by
            intro x7 M8 hf
            rw [ej126] at hf
            by_cases h11 : x7 = (-1 : Int32)
            · replace hf := (if_pos h11).symm.trans hf
              obtain rfl := Option.some.inj hf
              exact (Or.inl rfl)
            · replace hf := (if_neg h11).symm.trans hf
              obtain ⟨v9, hcv9, hf⟩ := bd_e hf
              by_cases h10 : v9.1 = 0
              · replace hf := (if_pos h10).symm.trans hf
                obtain rfl := Option.some.inj hf
                exact (Or.inl rfl)
              · replace hf := (if_neg h10).symm.trans hf
                obtain rfl := Option.some.inj hf
                exact (Or.inr rfl)
          by_cases h13 : x5 = (-1 : Int32)
          · replace hf := (if_pos h13).symm.trans hf
            exact hj126 (-1 : Int32) M6 hf
          · replace hf := (if_neg h13).symm.trans hf
            obtain ⟨v12, hcv12, hf⟩ := bd_e hf
            exact hj126 v12.1 v12.2 hf
        by_cases h15 : v4.1 = (-1 : Int32)
        · replace hf := (if_pos h15).symm.trans hf
          exact hj106 (-1 : Int32) v4.2 hf
        · replace hf := (if_neg h15).symm.trans hf
          obtain ⟨v14, hcv14, hf⟩ := bd_e hf
          exact hj106 v14.1 v14.2 hf
    · replace hf := (if_neg h25).symm.trans hf
      obtain ⟨v17, hcv17, hf⟩ := bd_e hf
      obtain ⟨j48, ej48, hf⟩ := lt_j hf
      have hj48 : ∀ (x18 : Int32) (M19 : KM), j48 x18 M19 = some y → (y.1 = 0 ∨ y.1 = 1) := by
        intro x18 M19 hf
        rw [ej48] at hf
        by_cases h22 : x18 = (-1 : Int32)
        · replace hf := (if_pos h22).symm.trans hf
          obtain rfl := Option.some.inj hf
          exact (Or.inl rfl)
        · replace hf := (if_neg h22).symm.trans hf
          obtain ⟨v20, hcv20, hf⟩ := bd_e hf
          by_cases h21 : v20.1 = 0
          · replace hf := (if_pos h21).symm.trans hf
            obtain rfl := Option.some.inj hf
            exact (Or.inl rfl)
          · replace hf := (if_neg h21).symm.trans hf
            obtain rfl := Option.some.inj hf
            exact (Or.inr rfl)
      by_cases h24 : v17.1 = (-1 : Int32)
      · replace hf := (if_pos h24).symm.trans hf
        exact hj48 (-1 : Int32) v17.2 hf
      · replace hf := (if_neg h24).symm.trans hf
        obtain ⟨v23, hcv23, hf⟩ := bd_e hf
        exact hj48 v23.1 v23.2 hf
  · replace hf := (if_neg h27).symm.trans hf
    obtain ⟨v26, hcv26, hf⟩ := bd_e hf
    obtain rfl := Option.some.inj hf
    exact (z_X0_addStep n hcv26)
set_option maxRecDepth 100000 in
set_option maxHeartbeats 4000000 in
theorem c_X0_readTest {l : Launch} {ad : Nat → Nat} {cy : Nat → ClassId} {D : va_G} {z : Nat} (n : Nat) {a0 : Nat} {a1 : Nat} {a2 : Nat} {M : KM} {y : (Int32 × KM)} (h0 : kty a0 = 1) (h1 : kty a1 = 9) (h2 : kty a2 = 3) (hf : f_X0_readTest n a0 a1 a2 M = some y) : KC l ad cy D z yX0_readTest cX0_readTest 6 (some .boolean) 5 [.ref (ad a0), .ref (ad a1), .ref (ad a2)] M (some (.int y.1), y.2) := by
  refine kv_enter (by decide +kernel) (Nat.le_of_ble_eq_true rfl) ?_
  intro x hl hD hz G
  subst hl hD hz
  unfold f_X0_readTest at hf
  have G : KG ad cy x cX0_readTest "NoonGuides$DaysReader" 6 (some (some .boolean)) 5 := G
  show KV ad cy x (some (.int y.1), y.2) 0 [(0, .ref (ad a0)), (1, .ref (ad a1)), (2, .ref (ad a2))] [] M
  refine v_aload_n G dX0_readTest_0 0 rfl ?_
  refine v_iconst (0 : Int32) G dX0_readTest_1 (by decide) ?_
  obtain ⟨v1, hcv1, hf⟩ := bd_e hf
  refine v_callU (owner := "NoonGuides$TextReader") [.int (0 : Int32)] G (c_X9_skipWord_D n h0 hcv1) h0 (by decide) rfl rfl t_1265 t_1266 t_1068 t_1267 t_2 t_1072 rfl nm_X9_skipWord (by decide) (by decide) rfl rfl (Nat.le_of_ble_eq_true rfl) dX0_readTest_2 (kv_ri ?_)
  refine v_if_eq 19 G dX0_readTest_5 (by decide) (fun h27 => ?_) (fun h27 => ?_)
  · replace hf := (if_pos h27).symm.trans hf
    refine v_aload_n G dX0_readTest_19 0 rfl ?_
    refine v_bipush (11 : Int32) G dX0_readTest_20 (by decide) ?_
    obtain ⟨v2, hcv2, hf⟩ := bd_e hf
    refine v_callU (owner := "NoonGuides$TextReader") [.int (11 : Int32)] G (c_X9_skipWord_D n h0 hcv2) h0 (by decide) rfl rfl t_1265 t_1266 t_1068 t_1267 t_2 t_1072 rfl nm_X9_skipWord (by decide) (by decide) rfl rfl (Nat.le_of_ble_eq_true rfl) dX0_readTest_22 (kv_ri ?_)
    refine v_if_eq 76 G dX0_readTest_25 (by decide) (fun h25 => ?_) (fun h25 => ?_)
    · replace hf := (if_pos h25).symm.trans hf
      refine v_aload_n G dX0_readTest_76 0 rfl ?_
      refine v_bipush (22 : Int32) G dX0_readTest_77 (by decide) ?_
      obtain ⟨v3, hcv3, hf⟩ := bd_e hf
      refine v_callU (owner := "NoonGuides$TextReader") [.int (22 : Int32)] G (c_X9_takeWord_D n h0 hcv3) h0 (by decide) rfl rfl t_1268 t_1269 t_1065 t_1270 t_2 t_1066 rfl nm_X9_takeWord (by decide) (by decide) rfl rfl (Nat.le_of_ble_eq_true rfl) dX0_readTest_79 (kv_ri ?_)
      refine v_if_ne 87 G dX0_readTest_82 (by decide) (fun h16 => ?_) (fun h16 => ?_)
      · replace hf := (if_neg h16).symm.trans hf
        refine v_aload_n G dX0_readTest_87 0 rfl ?_
        refine v_aload_n G dX0_readTest_88 2 rfl ?_
        obtain ⟨v4, hcv4, hf⟩ := bd_e hf
        refine v_callU (owner := "NoonGuides$TextReader") [.ref (ad a2)] G (c_X9_takePerson_D n h0 h2 hcv4) h0 (by decide) rfl rfl t_1244 t_1245 t_1172 t_1246 t_2 t_1173 rfl nm_X9_takePerson (by decide) (by decide) rfl rfl (Nat.le_of_ble_eq_true rfl) dX0_readTest_89 (kv_ri ?_)
        refine v_istore_n [(3, .int v4.1), (0, .ref (ad a0)), (1, .ref (ad a1)), (2, .ref (ad a2))] G dX0_readTest_92 (by decide) rfl ?_
        refine v_iload_n G dX0_readTest_93 0 rfl ?_
        refine v_iconst (-1 : Int32) G dX0_readTest_94 (by decide) ?_
        obtain ⟨j106, ej106, hf⟩ := lt_j hf
        have hj106 : ∀ (x5 : Int32) (M6 : KM), j106 x5 M6 = some y → KV ad cy x (some (.int y.1), y.2) 106 [(0, .ref (ad a0)), (1, .ref (ad a1)), (3, .int v4.1)] [.int x5] M6 := by
          intro x5 M6 hf
          rw [ej106] at hf
          refine v_istore [(4, .int x5), (0, .ref (ad a0)), (1, .ref (ad a1)), (3, .int v4.1)] G dX0_readTest_106 (by decide) rfl ?_
          refine v_iload G dX0_readTest_108 0 rfl ?_
          refine v_iconst (-1 : Int32) G dX0_readTest_110 (by decide) ?_
          obtain ⟨j126, ej126, hf⟩ := lt_j hf
          have hj126 : ∀ (x7 : Int32) (M8 : KM), j126 x7 M8 = some y → KV ad cy x (some (.int y.1), y.2) 126 [(0, .ref (ad a0)), (1, .ref (ad a1)), (3, .int v4.1), (4, .int x5)] [.int x7] M8 := by
            intro x7 M8 hf
            rw [ej126] at hf
            refine v_istore [(5, .int x7), (0, .ref (ad a0)), (1, .ref (ad a1)), (3, .int v4.1), (4, .int x5)] G dX0_readTest_126 (by decide) rfl ?_
            refine v_iload G dX0_readTest_128 0 rfl ?_
            refine v_iconst (-1 : Int32) G dX0_readTest_130 (by decide) ?_
            refine v_icmp_eq 153 G dX0_readTest_131 (by decide) (fun h11 => ?_) (fun h11 => ?_)
            · replace hf := (if_pos h11).symm.trans hf
              refine v_iconst (0 : Int32) G dX0_readTest_153 (by decide) ?_
              obtain rfl := Option.some.inj hf
              exact v_zret G (Or.inl rfl) dX0_readTest_154
            · replace hf := (if_neg h11).symm.trans hf
              refine v_aload_n G dX0_readTest_134 1 rfl ?_
              refine v_aload_n G dX0_readTest_135 2 rfl ?_
              refine v_bipush (8 : Int32) G dX0_readTest_136 (by decide) ?_
              refine v_iload_n G dX0_readTest_138 3 rfl ?_
              refine v_iload G dX0_readTest_139 4 rfl ?_
              refine v_iload G dX0_readTest_141 0 rfl ?_
              obtain ⟨v9, hcv9, hf⟩ := bd_e hf
              refine v_callV [.ref (ad a1), .int (8 : Int32), .int v4.1, .int x5, .int x7] G (c_X0_addStep n h0 h1 hcv9) h0 (by decide) rfl rfl rfl t_1236 t_1238 t_p41 t_8 t_1239 nm_X0_addStep (by decide) (by decide) rfl rfl (Nat.le_of_ble_eq_true rfl) dX0_readTest_143 (kv_ri ?_)
              refine v_if_eq 153 G dX0_readTest_146 (by decide) (fun h10 => ?_) (fun h10 => ?_)
              · replace hf := (if_pos h10).symm.trans hf
                refine v_iconst (0 : Int32) G dX0_readTest_153 (by decide) ?_
                obtain rfl := Option.some.inj hf
                exact v_zret G (Or.inl rfl) dX0_readTest_154
              · replace hf := (if_neg h10).symm.trans hf
                refine v_iconst (1 : Int32) G dX0_readTest_149 (by decide) ?_
                refine v_goto 154 G dX0_readTest_150 (by decide) ?_
                obtain rfl := Option.some.inj hf
                exact v_zret G (Or.inr rfl) dX0_readTest_154
          refine v_icmp_ne 118 G dX0_readTest_111 (by decide) (fun h13 => ?_) (fun h13 => ?_)
          · replace hf := (if_neg h13).symm.trans hf
            refine v_aload_n G dX0_readTest_118 1 rfl ?_
            refine v_iconst (0 : Int32) G dX0_readTest_119 (by decide) ?_
            refine v_sipush (9999 : Int32) G dX0_readTest_120 (by decide) ?_
            obtain ⟨v12, hcv12, hf⟩ := bd_e hf
            refine v_callU (owner := "NoonGuides$TextReader") [.int (0 : Int32), .int (9999 : Int32)] G (c_X9_takeNumber_D n h0 hcv12) h0 (by decide) rfl rfl t_1233 t_1234 t_1052 t_1235 t_2 t_1053 rfl nm_X9_takeNumber (by decide) (by decide) rfl rfl (Nat.le_of_ble_eq_true rfl) dX0_readTest_123 (kv_ri ?_)
            refine v_sub _ [1, 2, 3, 0] rfl ?_
            exact hj126 v12.1 v12.2 hf
          · replace hf := (if_pos h13).symm.trans hf
            refine v_iconst (-1 : Int32) G dX0_readTest_114 (by decide) ?_
            refine v_goto 126 G dX0_readTest_115 (by decide) ?_
            refine v_sub _ [1, 2, 3, 0] rfl ?_
            exact hj126 (-1 : Int32) M6 hf
        refine v_icmp_ne 102 G dX0_readTest_95 (by decide) (fun h15 => ?_) (fun h15 => ?_)
        · replace hf := (if_neg h15).symm.trans hf
          refine v_aload_n G dX0_readTest_102 1 rfl ?_
          obtain ⟨v14, hcv14, hf⟩ := bd_e hf
          refine v_callU (owner := "NoonGuides$TextReader") [] G (c_X9_takeComparison_D n h0 hcv14) h0 (by decide) rfl rfl t_1271 t_1272 t_1275 t_1274 t_2 t_1276 rfl nm_X9_takeComparison (by decide) (by decide) rfl rfl (Nat.le_of_ble_eq_true rfl) dX0_readTest_103 (kv_ri ?_)
          refine v_sub _ [1, 2, 0] rfl ?_
          exact hj106 v14.1 v14.2 hf
        · replace hf := (if_pos h15).symm.trans hf
          refine v_iconst (-1 : Int32) G dX0_readTest_98 (by decide) ?_
          refine v_goto 106 G dX0_readTest_99 (by decide) ?_
          refine v_sub _ [1, 2, 0] rfl ?_
          exact hj106 (-1 : Int32) v4.2 hf
      · replace hf := (if_pos h16).symm.trans hf
        refine v_iconst (0 : Int32) G dX0_readTest_85 (by decide) ?_
        obtain rfl := Option.some.inj hf
        exact v_zret G (Or.inl rfl) dX0_readTest_86
    · replace hf := (if_neg h25).symm.trans hf
      refine v_aload_n G dX0_readTest_28 0 rfl ?_
      refine v_aload_n G dX0_readTest_29 2 rfl ?_
      obtain ⟨v17, hcv17, hf⟩ := bd_e hf
      refine v_callU (owner := "NoonGuides$TextReader") [.ref (ad a2)] G (c_X9_takePerson_D n h0 h2 hcv17) h0 (by decide) rfl rfl t_1244 t_1245 t_1172 t_1246 t_2 t_1173 rfl nm_X9_takePerson (by decide) (by decide) rfl rfl (Nat.le_of_ble_eq_true rfl) dX0_readTest_30 (kv_ri ?_)
      refine v_istore_n [(3, .int v17.1), (0, .ref (ad a0)), (1, .ref (ad a1)), (2, .ref (ad a2))] G dX0_readTest_33 (by decide) rfl ?_
      refine v_iload_n G dX0_readTest_34 0 rfl ?_
      refine v_iconst (-1 : Int32) G dX0_readTest_35 (by decide) ?_
      obtain ⟨j48, ej48, hf⟩ := lt_j hf
      have hj48 : ∀ (x18 : Int32) (M19 : KM), j48 x18 M19 = some y → KV ad cy x (some (.int y.1), y.2) 48 [(0, .ref (ad a0)), (1, .ref (ad a1)), (3, .int v17.1)] [.int x18] M19 := by
        intro x18 M19 hf
        rw [ej48] at hf
        refine v_istore [(4, .int x18), (0, .ref (ad a0)), (1, .ref (ad a1)), (3, .int v17.1)] G dX0_readTest_48 (by decide) rfl ?_
        refine v_iload G dX0_readTest_50 0 rfl ?_
        refine v_iconst (-1 : Int32) G dX0_readTest_52 (by decide) ?_
        refine v_icmp_eq 74 G dX0_readTest_53 (by decide) (fun h22 => ?_) (fun h22 => ?_)
        · replace hf := (if_pos h22).symm.trans hf
          refine v_iconst (0 : Int32) G dX0_readTest_74 (by decide) ?_
          obtain rfl := Option.some.inj hf
          exact v_zret G (Or.inl rfl) dX0_readTest_75
        · replace hf := (if_neg h22).symm.trans hf
          refine v_aload_n G dX0_readTest_56 1 rfl ?_
          refine v_aload_n G dX0_readTest_57 2 rfl ?_
          refine v_bipush (6 : Int32) G dX0_readTest_58 (by decide) ?_
          refine v_iload_n G dX0_readTest_60 3 rfl ?_
          refine v_iload G dX0_readTest_61 0 rfl ?_
          refine v_iconst (0 : Int32) G dX0_readTest_63 (by decide) ?_
          obtain ⟨v20, hcv20, hf⟩ := bd_e hf
          refine v_callV [.ref (ad a1), .int (6 : Int32), .int v17.1, .int x18, .int (0 : Int32)] G (c_X0_addStep n h0 h1 hcv20) h0 (by decide) rfl rfl rfl t_1236 t_1238 t_p41 t_8 t_1239 nm_X0_addStep (by decide) (by decide) rfl rfl (Nat.le_of_ble_eq_true rfl) dX0_readTest_64 (kv_ri ?_)
          refine v_if_eq 74 G dX0_readTest_67 (by decide) (fun h21 => ?_) (fun h21 => ?_)
          · replace hf := (if_pos h21).symm.trans hf
            refine v_iconst (0 : Int32) G dX0_readTest_74 (by decide) ?_
            obtain rfl := Option.some.inj hf
            exact v_zret G (Or.inl rfl) dX0_readTest_75
          · replace hf := (if_neg h21).symm.trans hf
            refine v_iconst (1 : Int32) G dX0_readTest_70 (by decide) ?_
            refine v_goto 75 G dX0_readTest_71 (by decide) ?_
            obtain rfl := Option.some.inj hf
            exact v_zret G (Or.inr rfl) dX0_readTest_75
      refine v_icmp_ne 43 G dX0_readTest_36 (by decide) (fun h24 => ?_) (fun h24 => ?_)
      · replace hf := (if_neg h24).symm.trans hf
        refine v_aload_n G dX0_readTest_43 1 rfl ?_
        refine v_aload_n G dX0_readTest_44 3 rfl ?_
        obtain ⟨v23, hcv23, hf⟩ := bd_e hf
        refine v_callU (owner := "NoonGuides$TextReader") [.ref (ad a2)] G (c_X9_takePlace_D n h0 h2 hcv23) h0 (by decide) rfl rfl t_1247 t_1248 t_1130 t_1249 t_2 t_1131 rfl nm_X9_takePlace (by decide) (by decide) rfl rfl (Nat.le_of_ble_eq_true rfl) dX0_readTest_45 (kv_ri ?_)
        refine v_sub _ [1, 2, 0] rfl ?_
        exact hj48 v23.1 v23.2 hf
      · replace hf := (if_pos h24).symm.trans hf
        refine v_iconst (-1 : Int32) G dX0_readTest_39 (by decide) ?_
        refine v_goto 48 G dX0_readTest_40 (by decide) ?_
        refine v_sub _ [1, 2, 0] rfl ?_
        exact hj48 (-1 : Int32) v17.2 hf
  · replace hf := (if_neg h27).symm.trans hf
    refine v_aload_n G dX0_readTest_8 0 rfl ?_
    refine v_aload_n G dX0_readTest_9 1 rfl ?_
    refine v_bipush (7 : Int32) G dX0_readTest_10 (by decide) ?_
    refine v_iconst (0 : Int32) G dX0_readTest_12 (by decide) ?_
    refine v_iconst (0 : Int32) G dX0_readTest_13 (by decide) ?_
    refine v_iconst (0 : Int32) G dX0_readTest_14 (by decide) ?_
    obtain ⟨v26, hcv26, hf⟩ := bd_e hf
    refine v_callV [.ref (ad a1), .int (7 : Int32), .int (0 : Int32), .int (0 : Int32), .int (0 : Int32)] G (c_X0_addStep n h0 h1 hcv26) h0 (by decide) rfl rfl rfl t_1236 t_1238 t_p41 t_8 t_1239 nm_X0_addStep (by decide) (by decide) rfl rfl (Nat.le_of_ble_eq_true rfl) dX0_readTest_15 (kv_ri ?_)
    obtain rfl := Option.some.inj hf
    exact v_zret G (z_X0_addStep n hcv26) dX0_readTest_18
abbrev cX0_readStep : ByteArray := prog_2_method_4_code
def yX0_readStep : MethodName := ⟨RX0, "readStep", "(LNoonGuides$Plan;LNoonGuides$Land;)Z"⟩
theorem dX0_readStep_0 : dc cX0_readStep 0 (.aload_n 0) 1 1 := ⟨by decide +kernel, rfl⟩
theorem dX0_readStep_1 : dc cX0_readStep 1 (.getfield 32) 3 4 := ⟨by decide +kernel, rfl⟩
theorem dX0_readStep_4 : dc cX0_readStep 4 (.tableswitch 286 15 25 #[60, 86, 109, 132, 158, 184, 237, 286, 260, 286, 210]) 60 64 := ⟨by decide +kernel, rfl⟩
theorem dX0_readStep_64 : dc cX0_readStep 64 (.aload_n 0) 1 65 := ⟨by decide +kernel, rfl⟩
theorem dX0_readStep_65 : dc cX0_readStep 65 (.aload_n 1) 1 66 := ⟨by decide +kernel, rfl⟩
theorem dX0_readStep_66 : dc cX0_readStep 66 (.invokevirtual 64) 3 69 := ⟨by decide +kernel, rfl⟩
theorem dX0_readStep_69 : dc cX0_readStep 69 (.ifCond .eq 19) 3 72 := ⟨by decide +kernel, rfl⟩
theorem dX0_readStep_72 : dc cX0_readStep 72 (.aload_n 0) 1 73 := ⟨by decide +kernel, rfl⟩
theorem dX0_readStep_73 : dc cX0_readStep 73 (.aload_n 1) 1 74 := ⟨by decide +kernel, rfl⟩
theorem dX0_readStep_74 : dc cX0_readStep 74 (.iconst 0) 1 75 := ⟨by decide +kernel, rfl⟩
theorem dX0_readStep_75 : dc cX0_readStep 75 (.sipush 600) 3 78 := ⟨by decide +kernel, rfl⟩
theorem dX0_readStep_78 : dc cX0_readStep 78 (.invokevirtual 67) 3 81 := ⟨by decide +kernel, rfl⟩
theorem dX0_readStep_81 : dc cX0_readStep 81 (.ifCond .eq 7) 3 84 := ⟨by decide +kernel, rfl⟩
theorem dX0_readStep_84 : dc cX0_readStep 84 (.iconst 1) 1 85 := ⟨by decide +kernel, rfl⟩
theorem dX0_readStep_85 : dc cX0_readStep 85 (.goto 4) 3 88 := ⟨by decide +kernel, rfl⟩
theorem dX0_readStep_88 : dc cX0_readStep 88 (.iconst 0) 1 89 := ⟨by decide +kernel, rfl⟩
theorem dX0_readStep_89 : dc cX0_readStep 89 (.ireturn) 1 90 := ⟨by decide +kernel, rfl⟩
theorem dX0_readStep_90 : dc cX0_readStep 90 (.aload_n 0) 1 91 := ⟨by decide +kernel, rfl⟩
theorem dX0_readStep_91 : dc cX0_readStep 91 (.aload_n 1) 1 92 := ⟨by decide +kernel, rfl⟩
theorem dX0_readStep_92 : dc cX0_readStep 92 (.invokevirtual 64) 3 95 := ⟨by decide +kernel, rfl⟩
theorem dX0_readStep_95 : dc cX0_readStep 95 (.ifCond .eq 16) 3 98 := ⟨by decide +kernel, rfl⟩
theorem dX0_readStep_98 : dc cX0_readStep 98 (.aload_n 0) 1 99 := ⟨by decide +kernel, rfl⟩
theorem dX0_readStep_99 : dc cX0_readStep 99 (.aload_n 1) 1 100 := ⟨by decide +kernel, rfl⟩
theorem dX0_readStep_100 : dc cX0_readStep 100 (.aload_n 2) 1 101 := ⟨by decide +kernel, rfl⟩
theorem dX0_readStep_101 : dc cX0_readStep 101 (.invokevirtual 71) 3 104 := ⟨by decide +kernel, rfl⟩
theorem dX0_readStep_104 : dc cX0_readStep 104 (.ifCond .eq 7) 3 107 := ⟨by decide +kernel, rfl⟩
theorem dX0_readStep_107 : dc cX0_readStep 107 (.iconst 1) 1 108 := ⟨by decide +kernel, rfl⟩
theorem dX0_readStep_108 : dc cX0_readStep 108 (.goto 4) 3 111 := ⟨by decide +kernel, rfl⟩
theorem dX0_readStep_111 : dc cX0_readStep 111 (.iconst 0) 1 112 := ⟨by decide +kernel, rfl⟩
theorem dX0_readStep_112 : dc cX0_readStep 112 (.ireturn) 1 113 := ⟨by decide +kernel, rfl⟩
theorem dX0_readStep_113 : dc cX0_readStep 113 (.aload_n 0) 1 114 := ⟨by decide +kernel, rfl⟩
theorem dX0_readStep_114 : dc cX0_readStep 114 (.aload_n 1) 1 115 := ⟨by decide +kernel, rfl⟩
theorem dX0_readStep_115 : dc cX0_readStep 115 (.invokevirtual 64) 3 118 := ⟨by decide +kernel, rfl⟩
theorem dX0_readStep_118 : dc cX0_readStep 118 (.ifCond .eq 16) 3 121 := ⟨by decide +kernel, rfl⟩
theorem dX0_readStep_121 : dc cX0_readStep 121 (.aload_n 0) 1 122 := ⟨by decide +kernel, rfl⟩
theorem dX0_readStep_122 : dc cX0_readStep 122 (.aload_n 1) 1 123 := ⟨by decide +kernel, rfl⟩
theorem dX0_readStep_123 : dc cX0_readStep 123 (.aload_n 2) 1 124 := ⟨by decide +kernel, rfl⟩
theorem dX0_readStep_124 : dc cX0_readStep 124 (.invokevirtual 74) 3 127 := ⟨by decide +kernel, rfl⟩
theorem dX0_readStep_127 : dc cX0_readStep 127 (.ifCond .eq 7) 3 130 := ⟨by decide +kernel, rfl⟩
theorem dX0_readStep_130 : dc cX0_readStep 130 (.iconst 1) 1 131 := ⟨by decide +kernel, rfl⟩
theorem dX0_readStep_131 : dc cX0_readStep 131 (.goto 4) 3 134 := ⟨by decide +kernel, rfl⟩
theorem dX0_readStep_134 : dc cX0_readStep 134 (.iconst 0) 1 135 := ⟨by decide +kernel, rfl⟩
theorem dX0_readStep_135 : dc cX0_readStep 135 (.ireturn) 1 136 := ⟨by decide +kernel, rfl⟩
theorem dX0_readStep_136 : dc cX0_readStep 136 (.aload_n 0) 1 137 := ⟨by decide +kernel, rfl⟩
theorem dX0_readStep_137 : dc cX0_readStep 137 (.aload_n 1) 1 138 := ⟨by decide +kernel, rfl⟩
theorem dX0_readStep_138 : dc cX0_readStep 138 (.invokevirtual 64) 3 141 := ⟨by decide +kernel, rfl⟩
theorem dX0_readStep_141 : dc cX0_readStep 141 (.ifCond .eq 19) 3 144 := ⟨by decide +kernel, rfl⟩
theorem dX0_readStep_144 : dc cX0_readStep 144 (.aload_n 0) 1 145 := ⟨by decide +kernel, rfl⟩
theorem dX0_readStep_145 : dc cX0_readStep 145 (.aload_n 1) 1 146 := ⟨by decide +kernel, rfl⟩
theorem dX0_readStep_146 : dc cX0_readStep 146 (.iconst 3) 1 147 := ⟨by decide +kernel, rfl⟩
theorem dX0_readStep_147 : dc cX0_readStep 147 (.iconst 0) 1 148 := ⟨by decide +kernel, rfl⟩
theorem dX0_readStep_148 : dc cX0_readStep 148 (.iconst 0) 1 149 := ⟨by decide +kernel, rfl⟩
theorem dX0_readStep_149 : dc cX0_readStep 149 (.iconst 0) 1 150 := ⟨by decide +kernel, rfl⟩
theorem dX0_readStep_150 : dc cX0_readStep 150 (.invokevirtual 77) 3 153 := ⟨by decide +kernel, rfl⟩
theorem dX0_readStep_153 : dc cX0_readStep 153 (.ifCond .eq 7) 3 156 := ⟨by decide +kernel, rfl⟩
theorem dX0_readStep_156 : dc cX0_readStep 156 (.iconst 1) 1 157 := ⟨by decide +kernel, rfl⟩
theorem dX0_readStep_157 : dc cX0_readStep 157 (.goto 4) 3 160 := ⟨by decide +kernel, rfl⟩
theorem dX0_readStep_160 : dc cX0_readStep 160 (.iconst 0) 1 161 := ⟨by decide +kernel, rfl⟩
theorem dX0_readStep_161 : dc cX0_readStep 161 (.ireturn) 1 162 := ⟨by decide +kernel, rfl⟩
theorem dX0_readStep_162 : dc cX0_readStep 162 (.aload_n 0) 1 163 := ⟨by decide +kernel, rfl⟩
theorem dX0_readStep_163 : dc cX0_readStep 163 (.aload_n 1) 1 164 := ⟨by decide +kernel, rfl⟩
theorem dX0_readStep_164 : dc cX0_readStep 164 (.invokevirtual 64) 3 167 := ⟨by decide +kernel, rfl⟩
theorem dX0_readStep_167 : dc cX0_readStep 167 (.ifCond .eq 19) 3 170 := ⟨by decide +kernel, rfl⟩
theorem dX0_readStep_170 : dc cX0_readStep 170 (.aload_n 0) 1 171 := ⟨by decide +kernel, rfl⟩
theorem dX0_readStep_171 : dc cX0_readStep 171 (.aload_n 1) 1 172 := ⟨by decide +kernel, rfl⟩
theorem dX0_readStep_172 : dc cX0_readStep 172 (.iconst 4) 1 173 := ⟨by decide +kernel, rfl⟩
theorem dX0_readStep_173 : dc cX0_readStep 173 (.iconst 0) 1 174 := ⟨by decide +kernel, rfl⟩
theorem dX0_readStep_174 : dc cX0_readStep 174 (.iconst 0) 1 175 := ⟨by decide +kernel, rfl⟩
theorem dX0_readStep_175 : dc cX0_readStep 175 (.iconst 0) 1 176 := ⟨by decide +kernel, rfl⟩
theorem dX0_readStep_176 : dc cX0_readStep 176 (.invokevirtual 77) 3 179 := ⟨by decide +kernel, rfl⟩
theorem dX0_readStep_179 : dc cX0_readStep 179 (.ifCond .eq 7) 3 182 := ⟨by decide +kernel, rfl⟩
theorem dX0_readStep_182 : dc cX0_readStep 182 (.iconst 1) 1 183 := ⟨by decide +kernel, rfl⟩
theorem dX0_readStep_183 : dc cX0_readStep 183 (.goto 4) 3 186 := ⟨by decide +kernel, rfl⟩
theorem dX0_readStep_186 : dc cX0_readStep 186 (.iconst 0) 1 187 := ⟨by decide +kernel, rfl⟩
theorem dX0_readStep_187 : dc cX0_readStep 187 (.ireturn) 1 188 := ⟨by decide +kernel, rfl⟩
theorem dX0_readStep_188 : dc cX0_readStep 188 (.aload_n 0) 1 189 := ⟨by decide +kernel, rfl⟩
theorem dX0_readStep_189 : dc cX0_readStep 189 (.aload_n 1) 1 190 := ⟨by decide +kernel, rfl⟩
theorem dX0_readStep_190 : dc cX0_readStep 190 (.invokevirtual 64) 3 193 := ⟨by decide +kernel, rfl⟩
theorem dX0_readStep_193 : dc cX0_readStep 193 (.ifCond .eq 19) 3 196 := ⟨by decide +kernel, rfl⟩
theorem dX0_readStep_196 : dc cX0_readStep 196 (.aload_n 0) 1 197 := ⟨by decide +kernel, rfl⟩
theorem dX0_readStep_197 : dc cX0_readStep 197 (.aload_n 1) 1 198 := ⟨by decide +kernel, rfl⟩
theorem dX0_readStep_198 : dc cX0_readStep 198 (.iconst 5) 1 199 := ⟨by decide +kernel, rfl⟩
theorem dX0_readStep_199 : dc cX0_readStep 199 (.iconst 0) 1 200 := ⟨by decide +kernel, rfl⟩
theorem dX0_readStep_200 : dc cX0_readStep 200 (.iconst 0) 1 201 := ⟨by decide +kernel, rfl⟩
theorem dX0_readStep_201 : dc cX0_readStep 201 (.iconst 0) 1 202 := ⟨by decide +kernel, rfl⟩
theorem dX0_readStep_202 : dc cX0_readStep 202 (.invokevirtual 77) 3 205 := ⟨by decide +kernel, rfl⟩
theorem dX0_readStep_205 : dc cX0_readStep 205 (.ifCond .eq 7) 3 208 := ⟨by decide +kernel, rfl⟩
theorem dX0_readStep_208 : dc cX0_readStep 208 (.iconst 1) 1 209 := ⟨by decide +kernel, rfl⟩
theorem dX0_readStep_209 : dc cX0_readStep 209 (.goto 4) 3 212 := ⟨by decide +kernel, rfl⟩
theorem dX0_readStep_212 : dc cX0_readStep 212 (.iconst 0) 1 213 := ⟨by decide +kernel, rfl⟩
theorem dX0_readStep_213 : dc cX0_readStep 213 (.ireturn) 1 214 := ⟨by decide +kernel, rfl⟩
theorem dX0_readStep_214 : dc cX0_readStep 214 (.aload_n 0) 1 215 := ⟨by decide +kernel, rfl⟩
theorem dX0_readStep_215 : dc cX0_readStep 215 (.aload_n 1) 1 216 := ⟨by decide +kernel, rfl⟩
theorem dX0_readStep_216 : dc cX0_readStep 216 (.invokevirtual 64) 3 219 := ⟨by decide +kernel, rfl⟩
theorem dX0_readStep_219 : dc cX0_readStep 219 (.ifCond .eq 20) 3 222 := ⟨by decide +kernel, rfl⟩
theorem dX0_readStep_222 : dc cX0_readStep 222 (.aload_n 0) 1 223 := ⟨by decide +kernel, rfl⟩
theorem dX0_readStep_223 : dc cX0_readStep 223 (.aload_n 1) 1 224 := ⟨by decide +kernel, rfl⟩
theorem dX0_readStep_224 : dc cX0_readStep 224 (.bipush 11) 2 226 := ⟨by decide +kernel, rfl⟩
theorem dX0_readStep_226 : dc cX0_readStep 226 (.iconst 0) 1 227 := ⟨by decide +kernel, rfl⟩
theorem dX0_readStep_227 : dc cX0_readStep 227 (.iconst 0) 1 228 := ⟨by decide +kernel, rfl⟩
theorem dX0_readStep_228 : dc cX0_readStep 228 (.iconst 0) 1 229 := ⟨by decide +kernel, rfl⟩
theorem dX0_readStep_229 : dc cX0_readStep 229 (.invokevirtual 77) 3 232 := ⟨by decide +kernel, rfl⟩
theorem dX0_readStep_232 : dc cX0_readStep 232 (.ifCond .eq 7) 3 235 := ⟨by decide +kernel, rfl⟩
theorem dX0_readStep_235 : dc cX0_readStep 235 (.iconst 1) 1 236 := ⟨by decide +kernel, rfl⟩
theorem dX0_readStep_236 : dc cX0_readStep 236 (.goto 4) 3 239 := ⟨by decide +kernel, rfl⟩
theorem dX0_readStep_239 : dc cX0_readStep 239 (.iconst 0) 1 240 := ⟨by decide +kernel, rfl⟩
theorem dX0_readStep_240 : dc cX0_readStep 240 (.ireturn) 1 241 := ⟨by decide +kernel, rfl⟩
theorem dX0_readStep_241 : dc cX0_readStep 241 (.aload_n 0) 1 242 := ⟨by decide +kernel, rfl⟩
theorem dX0_readStep_242 : dc cX0_readStep 242 (.aload_n 1) 1 243 := ⟨by decide +kernel, rfl⟩
theorem dX0_readStep_243 : dc cX0_readStep 243 (.invokevirtual 81) 3 246 := ⟨by decide +kernel, rfl⟩
theorem dX0_readStep_246 : dc cX0_readStep 246 (.ifCond .eq 16) 3 249 := ⟨by decide +kernel, rfl⟩
theorem dX0_readStep_249 : dc cX0_readStep 249 (.aload_n 0) 1 250 := ⟨by decide +kernel, rfl⟩
theorem dX0_readStep_250 : dc cX0_readStep 250 (.aload_n 1) 1 251 := ⟨by decide +kernel, rfl⟩
theorem dX0_readStep_251 : dc cX0_readStep 251 (.aload_n 2) 1 252 := ⟨by decide +kernel, rfl⟩
theorem dX0_readStep_252 : dc cX0_readStep 252 (.invokevirtual 84) 3 255 := ⟨by decide +kernel, rfl⟩
theorem dX0_readStep_255 : dc cX0_readStep 255 (.ifCond .eq 7) 3 258 := ⟨by decide +kernel, rfl⟩
theorem dX0_readStep_258 : dc cX0_readStep 258 (.iconst 1) 1 259 := ⟨by decide +kernel, rfl⟩
theorem dX0_readStep_259 : dc cX0_readStep 259 (.goto 4) 3 262 := ⟨by decide +kernel, rfl⟩
theorem dX0_readStep_262 : dc cX0_readStep 262 (.iconst 0) 1 263 := ⟨by decide +kernel, rfl⟩
theorem dX0_readStep_263 : dc cX0_readStep 263 (.ireturn) 1 264 := ⟨by decide +kernel, rfl⟩
theorem dX0_readStep_264 : dc cX0_readStep 264 (.aload_n 0) 1 265 := ⟨by decide +kernel, rfl⟩
theorem dX0_readStep_265 : dc cX0_readStep 265 (.aload_n 1) 1 266 := ⟨by decide +kernel, rfl⟩
theorem dX0_readStep_266 : dc cX0_readStep 266 (.invokevirtual 81) 3 269 := ⟨by decide +kernel, rfl⟩
theorem dX0_readStep_269 : dc cX0_readStep 269 (.ifCond .eq 19) 3 272 := ⟨by decide +kernel, rfl⟩
theorem dX0_readStep_272 : dc cX0_readStep 272 (.aload_n 0) 1 273 := ⟨by decide +kernel, rfl⟩
theorem dX0_readStep_273 : dc cX0_readStep 273 (.aload_n 1) 1 274 := ⟨by decide +kernel, rfl⟩
theorem dX0_readStep_274 : dc cX0_readStep 274 (.bipush 9) 2 276 := ⟨by decide +kernel, rfl⟩
theorem dX0_readStep_276 : dc cX0_readStep 276 (.bipush 99) 2 278 := ⟨by decide +kernel, rfl⟩
theorem dX0_readStep_278 : dc cX0_readStep 278 (.invokevirtual 67) 3 281 := ⟨by decide +kernel, rfl⟩
theorem dX0_readStep_281 : dc cX0_readStep 281 (.ifCond .eq 7) 3 284 := ⟨by decide +kernel, rfl⟩
theorem dX0_readStep_284 : dc cX0_readStep 284 (.iconst 1) 1 285 := ⟨by decide +kernel, rfl⟩
theorem dX0_readStep_285 : dc cX0_readStep 285 (.goto 4) 3 288 := ⟨by decide +kernel, rfl⟩
theorem dX0_readStep_288 : dc cX0_readStep 288 (.iconst 0) 1 289 := ⟨by decide +kernel, rfl⟩
theorem dX0_readStep_289 : dc cX0_readStep 289 (.ireturn) 1 290 := ⟨by decide +kernel, rfl⟩
theorem dX0_readStep_290 : dc cX0_readStep 290 (.aload_n 0) 1 291 := ⟨by decide +kernel, rfl⟩
theorem dX0_readStep_291 : dc cX0_readStep 291 (.invokevirtual 43) 3 294 := ⟨by decide +kernel, rfl⟩
theorem dX0_readStep_294 : dc cX0_readStep 294 (.ireturn) 1 295 := ⟨by decide +kernel, rfl⟩
theorem nm_X0_readStep : (yX0_readStep).cls ≠ "java/lang/invoke/MethodHandle" ∧ (yX0_readStep).cls ≠ "java/lang/invoke/VarHandle" ∧ (parseMethodDescriptor (yX0_readStep).desc).map (fun d => d.parameters.length) = some 2 := ⟨by decide +kernel, by decide +kernel, by decide +kernel⟩
set_option maxRecDepth 100000 in
theorem z_X0_readStep (n : Nat) {a0 : Nat} {a1 : Nat} {a2 : Nat} {M : KM} {y : (Int32 × KM)} (hf : f_X0_readStep n a0 a1 a2 M = some y) : (y.1 = 0 ∨ y.1 = 1) := by
  unfold f_X0_readStep at hf
  obtain ⟨v1, ev1⟩ : ∃ q, q = ((M.1 a0 7) : Int32) := ⟨_, rfl⟩
  replace hf := lt_e hf ev1
  by_cases h6 : v1 = (15 : Int32)
  · replace hf := (if_pos h6).symm.trans hf
    obtain ⟨v2, hcv2, hf⟩ := bd_e hf
    by_cases h5 : v2.1 = 0
    · replace hf := (if_pos h5).symm.trans hf
      obtain rfl := Option.some.inj hf
      exact (Or.inl rfl)
    · replace hf := (if_neg h5).symm.trans hf
      obtain ⟨v3, hcv3, hf⟩ := bd_e hf
      by_cases h4 : v3.1 = 0
      · replace hf := (if_pos h4).symm.trans hf
        obtain rfl := Option.some.inj hf
        exact (Or.inl rfl)
      · replace hf := (if_neg h4).symm.trans hf
        obtain rfl := Option.some.inj hf
        exact (Or.inr rfl)
  replace hf := (if_neg h6).symm.trans hf
  by_cases h11 : v1 = (16 : Int32)
  · replace hf := (if_pos h11).symm.trans hf
    obtain ⟨v7, hcv7, hf⟩ := bd_e hf
    by_cases h10 : v7.1 = 0
    · replace hf := (if_pos h10).symm.trans hf
      obtain rfl := Option.some.inj hf
      exact (Or.inl rfl)
    · replace hf := (if_neg h10).symm.trans hf
      obtain ⟨v8, hcv8, hf⟩ := bd_e hf
      by_cases h9 : v8.1 = 0
      · replace hf := (if_pos h9).symm.trans hf
        obtain rfl := Option.some.inj hf
        exact (Or.inl rfl)
      · replace hf := (if_neg h9).symm.trans hf
        obtain rfl := Option.some.inj hf
        exact (Or.inr rfl)
  replace hf := (if_neg h11).symm.trans hf
  by_cases h16 : v1 = (17 : Int32)
  · replace hf := (if_pos h16).symm.trans hf
    obtain ⟨v12, hcv12, hf⟩ := bd_e hf
    by_cases h15 : v12.1 = 0
    · replace hf := (if_pos h15).symm.trans hf
      obtain rfl := Option.some.inj hf
      exact (Or.inl rfl)
    · replace hf := (if_neg h15).symm.trans hf
      obtain ⟨v13, hcv13, hf⟩ := bd_e hf
      by_cases h14 : v13.1 = 0
      · replace hf := (if_pos h14).symm.trans hf
        obtain rfl := Option.some.inj hf
        exact (Or.inl rfl)
      · replace hf := (if_neg h14).symm.trans hf
        obtain rfl := Option.some.inj hf
        exact (Or.inr rfl)
  replace hf := (if_neg h16).symm.trans hf
  by_cases h21 : v1 = (18 : Int32)
  · replace hf := (if_pos h21).symm.trans hf
    obtain ⟨v17, hcv17, hf⟩ := bd_e hf
    by_cases h20 : v17.1 = 0
    · replace hf := (if_pos h20).symm.trans hf
      obtain rfl := Option.some.inj hf
      exact (Or.inl rfl)
    · replace hf := (if_neg h20).symm.trans hf
      obtain ⟨v18, hcv18, hf⟩ := bd_e hf
      by_cases h19 : v18.1 = 0
      · replace hf := (if_pos h19).symm.trans hf
        obtain rfl := Option.some.inj hf
        exact (Or.inl rfl)
      · replace hf := (if_neg h19).symm.trans hf
        obtain rfl := Option.some.inj hf
        exact (Or.inr rfl)
  replace hf := (if_neg h21).symm.trans hf
  by_cases h26 : v1 = (19 : Int32)
  · replace hf := (if_pos h26).symm.trans hf
    obtain ⟨v22, hcv22, hf⟩ := bd_e hf
    by_cases h25 : v22.1 = 0
    · replace hf := (if_pos h25).symm.trans hf
      obtain rfl := Option.some.inj hf
      exact (Or.inl rfl)
    · replace hf := (if_neg h25).symm.trans hf
      obtain ⟨v23, hcv23, hf⟩ := bd_e hf
      by_cases h24 : v23.1 = 0
      · replace hf := (if_pos h24).symm.trans hf
        obtain rfl := Option.some.inj hf
        exact (Or.inl rfl)
      · replace hf := (if_neg h24).symm.trans hf
        obtain rfl := Option.some.inj hf
        exact (Or.inr rfl)
  replace hf := (if_neg h26).symm.trans hf
  by_cases h31 : v1 = (20 : Int32)
  · replace hf := (if_pos h31).symm.trans hf
    obtain ⟨v27, hcv27, hf⟩ := bd_e hf
    by_cases h30 : v27.1 = 0
    · replace hf := (if_pos h30).symm.trans hf
      obtain rfl := Option.some.inj hf
      exact (Or.inl rfl)
    · replace hf := (if_neg h30).symm.trans hf
      obtain ⟨v28, hcv28, hf⟩ := bd_e hf
      by_cases h29 : v28.1 = 0
      · replace hf := (if_pos h29).symm.trans hf
        obtain rfl := Option.some.inj hf
        exact (Or.inl rfl)
      · replace hf := (if_neg h29).symm.trans hf
        obtain rfl := Option.some.inj hf
        exact (Or.inr rfl)
  replace hf := (if_neg h31).symm.trans hf
  by_cases h36 : v1 = (21 : Int32)
  · replace hf := (if_pos h36).symm.trans hf
    obtain ⟨v32, hcv32, hf⟩ := bd_e hf
    by_cases h35 : v32.1 = 0
    · replace hf := (if_pos h35).symm.trans hf
      obtain rfl := Option.some.inj hf
      exact (Or.inl rfl)
    · replace hf := (if_neg h35).symm.trans hf
      obtain ⟨v33, hcv33, hf⟩ := bd_e hf
      by_cases h34 : v33.1 = 0
      · replace hf := (if_pos h34).symm.trans hf
        obtain rfl := Option.some.inj hf
        exact (Or.inl rfl)
      · replace hf := (if_neg h34).symm.trans hf
        obtain rfl := Option.some.inj hf
        exact (Or.inr rfl)
  replace hf := (if_neg h36).symm.trans hf
  by_cases h38 : v1 = (22 : Int32)
  · replace hf := (if_pos h38).symm.trans hf
    obtain ⟨v37, hcv37⟩ : ∃ q, f_X9_failOrder a0 M = q := ⟨_, rfl⟩
    replace hf := lt_e hf hcv37.symm
    obtain rfl := Option.some.inj hf
    exact (z_X9_failOrder hcv37)
  replace hf := (if_neg h38).symm.trans hf
  by_cases h43 : v1 = (23 : Int32)
  · replace hf := (if_pos h43).symm.trans hf
    obtain ⟨v39, hcv39, hf⟩ := bd_e hf
    by_cases h42 : v39.1 = 0
    · replace hf := (if_pos h42).symm.trans hf
      obtain rfl := Option.some.inj hf
      exact (Or.inl rfl)
    · replace hf := (if_neg h42).symm.trans hf
      obtain ⟨v40, hcv40, hf⟩ := bd_e hf
      by_cases h41 : v40.1 = 0
      · replace hf := (if_pos h41).symm.trans hf
        obtain rfl := Option.some.inj hf
        exact (Or.inl rfl)
      · replace hf := (if_neg h41).symm.trans hf
        obtain rfl := Option.some.inj hf
        exact (Or.inr rfl)
  replace hf := (if_neg h43).symm.trans hf
  by_cases h45 : v1 = (24 : Int32)
  · replace hf := (if_pos h45).symm.trans hf
    obtain ⟨v44, hcv44⟩ : ∃ q, f_X9_failOrder a0 M = q := ⟨_, rfl⟩
    replace hf := lt_e hf hcv44.symm
    obtain rfl := Option.some.inj hf
    exact (z_X9_failOrder hcv44)
  replace hf := (if_neg h45).symm.trans hf
  by_cases h50 : v1 = (25 : Int32)
  · replace hf := (if_pos h50).symm.trans hf
    obtain ⟨v46, hcv46, hf⟩ := bd_e hf
    by_cases h49 : v46.1 = 0
    · replace hf := (if_pos h49).symm.trans hf
      obtain rfl := Option.some.inj hf
      exact (Or.inl rfl)
    · replace hf := (if_neg h49).symm.trans hf
      obtain ⟨v47, hcv47, hf⟩ := bd_e hf
      by_cases h48 : v47.1 = 0
      · replace hf := (if_pos h48).symm.trans hf
        obtain rfl := Option.some.inj hf
        exact (Or.inl rfl)
      · replace hf := (if_neg h48).symm.trans hf
        obtain rfl := Option.some.inj hf
        exact (Or.inr rfl)
  replace hf := (if_neg h50).symm.trans hf
  obtain ⟨v51, hcv51⟩ : ∃ q, f_X9_failOrder a0 M = q := ⟨_, rfl⟩
  replace hf := lt_e hf hcv51.symm
  obtain rfl := Option.some.inj hf
  exact (z_X9_failOrder hcv51)
set_option maxRecDepth 100000 in
set_option maxHeartbeats 4000000 in
theorem c_X0_readStep {l : Launch} {ad : Nat → Nat} {cy : Nat → ClassId} {D : va_G} {z : Nat} (n : Nat) {a0 : Nat} {a1 : Nat} {a2 : Nat} {M : KM} {y : (Int32 × KM)} (h0 : kty a0 = 1) (h1 : kty a1 = 9) (h2 : kty a2 = 3) (hf : f_X0_readStep n a0 a1 a2 M = some y) : KC l ad cy D z yX0_readStep cX0_readStep 3 (some .boolean) 6 [.ref (ad a0), .ref (ad a1), .ref (ad a2)] M (some (.int y.1), y.2) := by
  refine kv_enter (by decide +kernel) (Nat.le_of_ble_eq_true rfl) ?_
  intro x hl hD hz G
  subst hl hD hz
  unfold f_X0_readStep at hf
  have G : KG ad cy x cX0_readStep "NoonGuides$DaysReader" 3 (some (some .boolean)) 6 := G
  show KV ad cy x (some (.int y.1), y.2) 0 [(0, .ref (ad a0)), (1, .ref (ad a1)), (2, .ref (ad a2))] [] M
  refine v_aload_n G dX0_readStep_0 0 rfl ?_
  refine gf_0_7 G h0 t_104 (Or.inr t_105) dX0_readStep_1 ?_
  refine v_nmi (fun v1 ev1 => ?_)
  replace hf := lt_e hf ev1
  by_cases h6 : v1 = (15 : Int32)
  · replace hf := (if_pos h6).symm.trans hf
    refine v_tabIn (off := 60) 64 G dX0_readStep_4 (by rw [h6]; decide) (by rw [h6]; decide) (by rw [h6]; rfl) (by decide) ?_
    refine v_aload_n G dX0_readStep_64 0 rfl ?_
    refine v_aload_n G dX0_readStep_65 1 rfl ?_
    obtain ⟨v2, hcv2, hf⟩ := bd_e hf
    refine v_callV [.ref (ad a1)] G (c_X0_start n h0 h1 hcv2) h0 (by decide) rfl rfl rfl t_1222 t_1224 t_p39 t_8 t_1225 nm_X0_start (by decide) (by decide) rfl rfl (Nat.le_of_ble_eq_true rfl) dX0_readStep_66 (kv_ri ?_)
    refine v_if_eq 88 G dX0_readStep_69 (by decide) (fun h5 => ?_) (fun h5 => ?_)
    · replace hf := (if_pos h5).symm.trans hf
      refine v_iconst (0 : Int32) G dX0_readStep_88 (by decide) ?_
      obtain rfl := Option.some.inj hf
      exact v_zret G (Or.inl rfl) dX0_readStep_89
    · replace hf := (if_neg h5).symm.trans hf
      refine v_aload_n G dX0_readStep_72 0 rfl ?_
      refine v_aload_n G dX0_readStep_73 1 rfl ?_
      refine v_iconst (0 : Int32) G dX0_readStep_74 (by decide) ?_
      refine v_sipush (600 : Int32) G dX0_readStep_75 (by decide) ?_
      obtain ⟨v3, hcv3, hf⟩ := bd_e hf
      refine v_callV [.ref (ad a1), .int (0 : Int32), .int (600 : Int32)] G (c_X0_readNumberStep n h0 h1 hcv3) h0 (by decide) rfl rfl rfl t_1229 t_1231 t_p40 t_8 t_1232 nm_X0_readNumberStep (by decide) (by decide) rfl rfl (Nat.le_of_ble_eq_true rfl) dX0_readStep_78 (kv_ri ?_)
      refine v_if_eq 88 G dX0_readStep_81 (by decide) (fun h4 => ?_) (fun h4 => ?_)
      · replace hf := (if_pos h4).symm.trans hf
        refine v_iconst (0 : Int32) G dX0_readStep_88 (by decide) ?_
        obtain rfl := Option.some.inj hf
        exact v_zret G (Or.inl rfl) dX0_readStep_89
      · replace hf := (if_neg h4).symm.trans hf
        refine v_iconst (1 : Int32) G dX0_readStep_84 (by decide) ?_
        refine v_goto 89 G dX0_readStep_85 (by decide) ?_
        obtain rfl := Option.some.inj hf
        exact v_zret G (Or.inr rfl) dX0_readStep_89
  replace hf := (if_neg h6).symm.trans hf
  by_cases h11 : v1 = (16 : Int32)
  · replace hf := (if_pos h11).symm.trans hf
    refine v_tabIn (off := 86) 90 G dX0_readStep_4 (by rw [h11]; decide) (by rw [h11]; decide) (by rw [h11]; rfl) (by decide) ?_
    refine v_aload_n G dX0_readStep_90 0 rfl ?_
    refine v_aload_n G dX0_readStep_91 1 rfl ?_
    obtain ⟨v7, hcv7, hf⟩ := bd_e hf
    refine v_callV [.ref (ad a1)] G (c_X0_start n h0 h1 hcv7) h0 (by decide) rfl rfl rfl t_1222 t_1224 t_p39 t_8 t_1225 nm_X0_start (by decide) (by decide) rfl rfl (Nat.le_of_ble_eq_true rfl) dX0_readStep_92 (kv_ri ?_)
    refine v_if_eq 111 G dX0_readStep_95 (by decide) (fun h10 => ?_) (fun h10 => ?_)
    · replace hf := (if_pos h10).symm.trans hf
      refine v_iconst (0 : Int32) G dX0_readStep_111 (by decide) ?_
      obtain rfl := Option.some.inj hf
      exact v_zret G (Or.inl rfl) dX0_readStep_112
    · replace hf := (if_neg h10).symm.trans hf
      refine v_aload_n G dX0_readStep_98 0 rfl ?_
      refine v_aload_n G dX0_readStep_99 1 rfl ?_
      refine v_aload_n G dX0_readStep_100 2 rfl ?_
      obtain ⟨v8, hcv8, hf⟩ := bd_e hf
      refine v_callV [.ref (ad a1), .ref (ad a2)] G (c_X0_readGo n h0 h1 h2 hcv8) h0 (by decide) rfl rfl rfl t_1240 t_1242 t_p42 t_8 t_1243 nm_X0_readGo (by decide) (by decide) rfl rfl (Nat.le_of_ble_eq_true rfl) dX0_readStep_101 (kv_ri ?_)
      refine v_if_eq 111 G dX0_readStep_104 (by decide) (fun h9 => ?_) (fun h9 => ?_)
      · replace hf := (if_pos h9).symm.trans hf
        refine v_iconst (0 : Int32) G dX0_readStep_111 (by decide) ?_
        obtain rfl := Option.some.inj hf
        exact v_zret G (Or.inl rfl) dX0_readStep_112
      · replace hf := (if_neg h9).symm.trans hf
        refine v_iconst (1 : Int32) G dX0_readStep_107 (by decide) ?_
        refine v_goto 112 G dX0_readStep_108 (by decide) ?_
        obtain rfl := Option.some.inj hf
        exact v_zret G (Or.inr rfl) dX0_readStep_112
  replace hf := (if_neg h11).symm.trans hf
  by_cases h16 : v1 = (17 : Int32)
  · replace hf := (if_pos h16).symm.trans hf
    refine v_tabIn (off := 109) 113 G dX0_readStep_4 (by rw [h16]; decide) (by rw [h16]; decide) (by rw [h16]; rfl) (by decide) ?_
    refine v_aload_n G dX0_readStep_113 0 rfl ?_
    refine v_aload_n G dX0_readStep_114 1 rfl ?_
    obtain ⟨v12, hcv12, hf⟩ := bd_e hf
    refine v_callV [.ref (ad a1)] G (c_X0_start n h0 h1 hcv12) h0 (by decide) rfl rfl rfl t_1222 t_1224 t_p39 t_8 t_1225 nm_X0_start (by decide) (by decide) rfl rfl (Nat.le_of_ble_eq_true rfl) dX0_readStep_115 (kv_ri ?_)
    refine v_if_eq 134 G dX0_readStep_118 (by decide) (fun h15 => ?_) (fun h15 => ?_)
    · replace hf := (if_pos h15).symm.trans hf
      refine v_iconst (0 : Int32) G dX0_readStep_134 (by decide) ?_
      obtain rfl := Option.some.inj hf
      exact v_zret G (Or.inl rfl) dX0_readStep_135
    · replace hf := (if_neg h15).symm.trans hf
      refine v_aload_n G dX0_readStep_121 0 rfl ?_
      refine v_aload_n G dX0_readStep_122 1 rfl ?_
      refine v_aload_n G dX0_readStep_123 2 rfl ?_
      obtain ⟨v13, hcv13, hf⟩ := bd_e hf
      refine v_callV [.ref (ad a1), .ref (ad a2)] G (c_X0_readLead n h0 h1 h2 hcv13) h0 (by decide) rfl rfl rfl t_1250 t_1252 t_p43 t_8 t_1253 nm_X0_readLead (by decide) (by decide) rfl rfl (Nat.le_of_ble_eq_true rfl) dX0_readStep_124 (kv_ri ?_)
      refine v_if_eq 134 G dX0_readStep_127 (by decide) (fun h14 => ?_) (fun h14 => ?_)
      · replace hf := (if_pos h14).symm.trans hf
        refine v_iconst (0 : Int32) G dX0_readStep_134 (by decide) ?_
        obtain rfl := Option.some.inj hf
        exact v_zret G (Or.inl rfl) dX0_readStep_135
      · replace hf := (if_neg h14).symm.trans hf
        refine v_iconst (1 : Int32) G dX0_readStep_130 (by decide) ?_
        refine v_goto 135 G dX0_readStep_131 (by decide) ?_
        obtain rfl := Option.some.inj hf
        exact v_zret G (Or.inr rfl) dX0_readStep_135
  replace hf := (if_neg h16).symm.trans hf
  by_cases h21 : v1 = (18 : Int32)
  · replace hf := (if_pos h21).symm.trans hf
    refine v_tabIn (off := 132) 136 G dX0_readStep_4 (by rw [h21]; decide) (by rw [h21]; decide) (by rw [h21]; rfl) (by decide) ?_
    refine v_aload_n G dX0_readStep_136 0 rfl ?_
    refine v_aload_n G dX0_readStep_137 1 rfl ?_
    obtain ⟨v17, hcv17, hf⟩ := bd_e hf
    refine v_callV [.ref (ad a1)] G (c_X0_start n h0 h1 hcv17) h0 (by decide) rfl rfl rfl t_1222 t_1224 t_p39 t_8 t_1225 nm_X0_start (by decide) (by decide) rfl rfl (Nat.le_of_ble_eq_true rfl) dX0_readStep_138 (kv_ri ?_)
    refine v_if_eq 160 G dX0_readStep_141 (by decide) (fun h20 => ?_) (fun h20 => ?_)
    · replace hf := (if_pos h20).symm.trans hf
      refine v_iconst (0 : Int32) G dX0_readStep_160 (by decide) ?_
      obtain rfl := Option.some.inj hf
      exact v_zret G (Or.inl rfl) dX0_readStep_161
    · replace hf := (if_neg h20).symm.trans hf
      refine v_aload_n G dX0_readStep_144 0 rfl ?_
      refine v_aload_n G dX0_readStep_145 1 rfl ?_
      refine v_iconst (3 : Int32) G dX0_readStep_146 (by decide) ?_
      refine v_iconst (0 : Int32) G dX0_readStep_147 (by decide) ?_
      refine v_iconst (0 : Int32) G dX0_readStep_148 (by decide) ?_
      refine v_iconst (0 : Int32) G dX0_readStep_149 (by decide) ?_
      obtain ⟨v18, hcv18, hf⟩ := bd_e hf
      refine v_callV [.ref (ad a1), .int (3 : Int32), .int (0 : Int32), .int (0 : Int32), .int (0 : Int32)] G (c_X0_addStep n h0 h1 hcv18) h0 (by decide) rfl rfl rfl t_1236 t_1238 t_p41 t_8 t_1239 nm_X0_addStep (by decide) (by decide) rfl rfl (Nat.le_of_ble_eq_true rfl) dX0_readStep_150 (kv_ri ?_)
      refine v_if_eq 160 G dX0_readStep_153 (by decide) (fun h19 => ?_) (fun h19 => ?_)
      · replace hf := (if_pos h19).symm.trans hf
        refine v_iconst (0 : Int32) G dX0_readStep_160 (by decide) ?_
        obtain rfl := Option.some.inj hf
        exact v_zret G (Or.inl rfl) dX0_readStep_161
      · replace hf := (if_neg h19).symm.trans hf
        refine v_iconst (1 : Int32) G dX0_readStep_156 (by decide) ?_
        refine v_goto 161 G dX0_readStep_157 (by decide) ?_
        obtain rfl := Option.some.inj hf
        exact v_zret G (Or.inr rfl) dX0_readStep_161
  replace hf := (if_neg h21).symm.trans hf
  by_cases h26 : v1 = (19 : Int32)
  · replace hf := (if_pos h26).symm.trans hf
    refine v_tabIn (off := 158) 162 G dX0_readStep_4 (by rw [h26]; decide) (by rw [h26]; decide) (by rw [h26]; rfl) (by decide) ?_
    refine v_aload_n G dX0_readStep_162 0 rfl ?_
    refine v_aload_n G dX0_readStep_163 1 rfl ?_
    obtain ⟨v22, hcv22, hf⟩ := bd_e hf
    refine v_callV [.ref (ad a1)] G (c_X0_start n h0 h1 hcv22) h0 (by decide) rfl rfl rfl t_1222 t_1224 t_p39 t_8 t_1225 nm_X0_start (by decide) (by decide) rfl rfl (Nat.le_of_ble_eq_true rfl) dX0_readStep_164 (kv_ri ?_)
    refine v_if_eq 186 G dX0_readStep_167 (by decide) (fun h25 => ?_) (fun h25 => ?_)
    · replace hf := (if_pos h25).symm.trans hf
      refine v_iconst (0 : Int32) G dX0_readStep_186 (by decide) ?_
      obtain rfl := Option.some.inj hf
      exact v_zret G (Or.inl rfl) dX0_readStep_187
    · replace hf := (if_neg h25).symm.trans hf
      refine v_aload_n G dX0_readStep_170 0 rfl ?_
      refine v_aload_n G dX0_readStep_171 1 rfl ?_
      refine v_iconst (4 : Int32) G dX0_readStep_172 (by decide) ?_
      refine v_iconst (0 : Int32) G dX0_readStep_173 (by decide) ?_
      refine v_iconst (0 : Int32) G dX0_readStep_174 (by decide) ?_
      refine v_iconst (0 : Int32) G dX0_readStep_175 (by decide) ?_
      obtain ⟨v23, hcv23, hf⟩ := bd_e hf
      refine v_callV [.ref (ad a1), .int (4 : Int32), .int (0 : Int32), .int (0 : Int32), .int (0 : Int32)] G (c_X0_addStep n h0 h1 hcv23) h0 (by decide) rfl rfl rfl t_1236 t_1238 t_p41 t_8 t_1239 nm_X0_addStep (by decide) (by decide) rfl rfl (Nat.le_of_ble_eq_true rfl) dX0_readStep_176 (kv_ri ?_)
      refine v_if_eq 186 G dX0_readStep_179 (by decide) (fun h24 => ?_) (fun h24 => ?_)
      · replace hf := (if_pos h24).symm.trans hf
        refine v_iconst (0 : Int32) G dX0_readStep_186 (by decide) ?_
        obtain rfl := Option.some.inj hf
        exact v_zret G (Or.inl rfl) dX0_readStep_187
      · replace hf := (if_neg h24).symm.trans hf
        refine v_iconst (1 : Int32) G dX0_readStep_182 (by decide) ?_
        refine v_goto 187 G dX0_readStep_183 (by decide) ?_
        obtain rfl := Option.some.inj hf
        exact v_zret G (Or.inr rfl) dX0_readStep_187
  replace hf := (if_neg h26).symm.trans hf
  by_cases h31 : v1 = (20 : Int32)
  · replace hf := (if_pos h31).symm.trans hf
    refine v_tabIn (off := 184) 188 G dX0_readStep_4 (by rw [h31]; decide) (by rw [h31]; decide) (by rw [h31]; rfl) (by decide) ?_
    refine v_aload_n G dX0_readStep_188 0 rfl ?_
    refine v_aload_n G dX0_readStep_189 1 rfl ?_
    obtain ⟨v27, hcv27, hf⟩ := bd_e hf
    refine v_callV [.ref (ad a1)] G (c_X0_start n h0 h1 hcv27) h0 (by decide) rfl rfl rfl t_1222 t_1224 t_p39 t_8 t_1225 nm_X0_start (by decide) (by decide) rfl rfl (Nat.le_of_ble_eq_true rfl) dX0_readStep_190 (kv_ri ?_)
    refine v_if_eq 212 G dX0_readStep_193 (by decide) (fun h30 => ?_) (fun h30 => ?_)
    · replace hf := (if_pos h30).symm.trans hf
      refine v_iconst (0 : Int32) G dX0_readStep_212 (by decide) ?_
      obtain rfl := Option.some.inj hf
      exact v_zret G (Or.inl rfl) dX0_readStep_213
    · replace hf := (if_neg h30).symm.trans hf
      refine v_aload_n G dX0_readStep_196 0 rfl ?_
      refine v_aload_n G dX0_readStep_197 1 rfl ?_
      refine v_iconst (5 : Int32) G dX0_readStep_198 (by decide) ?_
      refine v_iconst (0 : Int32) G dX0_readStep_199 (by decide) ?_
      refine v_iconst (0 : Int32) G dX0_readStep_200 (by decide) ?_
      refine v_iconst (0 : Int32) G dX0_readStep_201 (by decide) ?_
      obtain ⟨v28, hcv28, hf⟩ := bd_e hf
      refine v_callV [.ref (ad a1), .int (5 : Int32), .int (0 : Int32), .int (0 : Int32), .int (0 : Int32)] G (c_X0_addStep n h0 h1 hcv28) h0 (by decide) rfl rfl rfl t_1236 t_1238 t_p41 t_8 t_1239 nm_X0_addStep (by decide) (by decide) rfl rfl (Nat.le_of_ble_eq_true rfl) dX0_readStep_202 (kv_ri ?_)
      refine v_if_eq 212 G dX0_readStep_205 (by decide) (fun h29 => ?_) (fun h29 => ?_)
      · replace hf := (if_pos h29).symm.trans hf
        refine v_iconst (0 : Int32) G dX0_readStep_212 (by decide) ?_
        obtain rfl := Option.some.inj hf
        exact v_zret G (Or.inl rfl) dX0_readStep_213
      · replace hf := (if_neg h29).symm.trans hf
        refine v_iconst (1 : Int32) G dX0_readStep_208 (by decide) ?_
        refine v_goto 213 G dX0_readStep_209 (by decide) ?_
        obtain rfl := Option.some.inj hf
        exact v_zret G (Or.inr rfl) dX0_readStep_213
  replace hf := (if_neg h31).symm.trans hf
  by_cases h36 : v1 = (21 : Int32)
  · replace hf := (if_pos h36).symm.trans hf
    refine v_tabIn (off := 237) 241 G dX0_readStep_4 (by rw [h36]; decide) (by rw [h36]; decide) (by rw [h36]; rfl) (by decide) ?_
    refine v_aload_n G dX0_readStep_241 0 rfl ?_
    refine v_aload_n G dX0_readStep_242 1 rfl ?_
    obtain ⟨v32, hcv32, hf⟩ := bd_e hf
    refine v_callV [.ref (ad a1)] G (c_X0_startBlock n h0 h1 hcv32) h0 (by decide) rfl rfl rfl t_1257 t_1259 t_p44 t_8 t_1260 nm_X0_startBlock (by decide) (by decide) rfl rfl (Nat.le_of_ble_eq_true rfl) dX0_readStep_243 (kv_ri ?_)
    refine v_if_eq 262 G dX0_readStep_246 (by decide) (fun h35 => ?_) (fun h35 => ?_)
    · replace hf := (if_pos h35).symm.trans hf
      refine v_iconst (0 : Int32) G dX0_readStep_262 (by decide) ?_
      obtain rfl := Option.some.inj hf
      exact v_zret G (Or.inl rfl) dX0_readStep_263
    · replace hf := (if_neg h35).symm.trans hf
      refine v_aload_n G dX0_readStep_249 0 rfl ?_
      refine v_aload_n G dX0_readStep_250 1 rfl ?_
      refine v_aload_n G dX0_readStep_251 2 rfl ?_
      obtain ⟨v33, hcv33, hf⟩ := bd_e hf
      refine v_callV [.ref (ad a1), .ref (ad a2)] G (c_X0_readTest n h0 h1 h2 hcv33) h0 (by decide) rfl rfl rfl t_1261 t_1263 t_p45 t_8 t_1264 nm_X0_readTest (by decide) (by decide) rfl rfl (Nat.le_of_ble_eq_true rfl) dX0_readStep_252 (kv_ri ?_)
      refine v_if_eq 262 G dX0_readStep_255 (by decide) (fun h34 => ?_) (fun h34 => ?_)
      · replace hf := (if_pos h34).symm.trans hf
        refine v_iconst (0 : Int32) G dX0_readStep_262 (by decide) ?_
        obtain rfl := Option.some.inj hf
        exact v_zret G (Or.inl rfl) dX0_readStep_263
      · replace hf := (if_neg h34).symm.trans hf
        refine v_iconst (1 : Int32) G dX0_readStep_258 (by decide) ?_
        refine v_goto 263 G dX0_readStep_259 (by decide) ?_
        obtain rfl := Option.some.inj hf
        exact v_zret G (Or.inr rfl) dX0_readStep_263
  replace hf := (if_neg h36).symm.trans hf
  by_cases h38 : v1 = (22 : Int32)
  · replace hf := (if_pos h38).symm.trans hf
    refine v_tabIn (off := 286) 290 G dX0_readStep_4 (by rw [h38]; decide) (by rw [h38]; decide) (by rw [h38]; rfl) (by decide) ?_
    refine v_aload_n G dX0_readStep_290 0 rfl ?_
    obtain ⟨v37, hcv37⟩ : ∃ q, f_X9_failOrder a0 M = q := ⟨_, rfl⟩
    replace hf := lt_e hf hcv37.symm
    refine v_callU (owner := "NoonGuides$TextReader") [] G (c_X9_failOrder_D h0 hcv37) h0 (by decide) rfl rfl t_1201 t_1202 t_1055 t_1203 t_2 t_1059 rfl nm_X9_failOrder (by decide) (by decide) rfl rfl (Nat.le_of_ble_eq_true rfl) dX0_readStep_291 (kv_ri ?_)
    obtain rfl := Option.some.inj hf
    exact v_zret G (z_X9_failOrder hcv37) dX0_readStep_294
  replace hf := (if_neg h38).symm.trans hf
  by_cases h43 : v1 = (23 : Int32)
  · replace hf := (if_pos h43).symm.trans hf
    refine v_tabIn (off := 260) 264 G dX0_readStep_4 (by rw [h43]; decide) (by rw [h43]; decide) (by rw [h43]; rfl) (by decide) ?_
    refine v_aload_n G dX0_readStep_264 0 rfl ?_
    refine v_aload_n G dX0_readStep_265 1 rfl ?_
    obtain ⟨v39, hcv39, hf⟩ := bd_e hf
    refine v_callV [.ref (ad a1)] G (c_X0_startBlock n h0 h1 hcv39) h0 (by decide) rfl rfl rfl t_1257 t_1259 t_p44 t_8 t_1260 nm_X0_startBlock (by decide) (by decide) rfl rfl (Nat.le_of_ble_eq_true rfl) dX0_readStep_266 (kv_ri ?_)
    refine v_if_eq 288 G dX0_readStep_269 (by decide) (fun h42 => ?_) (fun h42 => ?_)
    · replace hf := (if_pos h42).symm.trans hf
      refine v_iconst (0 : Int32) G dX0_readStep_288 (by decide) ?_
      obtain rfl := Option.some.inj hf
      exact v_zret G (Or.inl rfl) dX0_readStep_289
    · replace hf := (if_neg h42).symm.trans hf
      refine v_aload_n G dX0_readStep_272 0 rfl ?_
      refine v_aload_n G dX0_readStep_273 1 rfl ?_
      refine v_bipush (9 : Int32) G dX0_readStep_274 (by decide) ?_
      refine v_bipush (99 : Int32) G dX0_readStep_276 (by decide) ?_
      obtain ⟨v40, hcv40, hf⟩ := bd_e hf
      refine v_callV [.ref (ad a1), .int (9 : Int32), .int (99 : Int32)] G (c_X0_readNumberStep n h0 h1 hcv40) h0 (by decide) rfl rfl rfl t_1229 t_1231 t_p40 t_8 t_1232 nm_X0_readNumberStep (by decide) (by decide) rfl rfl (Nat.le_of_ble_eq_true rfl) dX0_readStep_278 (kv_ri ?_)
      refine v_if_eq 288 G dX0_readStep_281 (by decide) (fun h41 => ?_) (fun h41 => ?_)
      · replace hf := (if_pos h41).symm.trans hf
        refine v_iconst (0 : Int32) G dX0_readStep_288 (by decide) ?_
        obtain rfl := Option.some.inj hf
        exact v_zret G (Or.inl rfl) dX0_readStep_289
      · replace hf := (if_neg h41).symm.trans hf
        refine v_iconst (1 : Int32) G dX0_readStep_284 (by decide) ?_
        refine v_goto 289 G dX0_readStep_285 (by decide) ?_
        obtain rfl := Option.some.inj hf
        exact v_zret G (Or.inr rfl) dX0_readStep_289
  replace hf := (if_neg h43).symm.trans hf
  by_cases h45 : v1 = (24 : Int32)
  · replace hf := (if_pos h45).symm.trans hf
    refine v_tabIn (off := 286) 290 G dX0_readStep_4 (by rw [h45]; decide) (by rw [h45]; decide) (by rw [h45]; rfl) (by decide) ?_
    refine v_aload_n G dX0_readStep_290 0 rfl ?_
    obtain ⟨v44, hcv44⟩ : ∃ q, f_X9_failOrder a0 M = q := ⟨_, rfl⟩
    replace hf := lt_e hf hcv44.symm
    refine v_callU (owner := "NoonGuides$TextReader") [] G (c_X9_failOrder_D h0 hcv44) h0 (by decide) rfl rfl t_1201 t_1202 t_1055 t_1203 t_2 t_1059 rfl nm_X9_failOrder (by decide) (by decide) rfl rfl (Nat.le_of_ble_eq_true rfl) dX0_readStep_291 (kv_ri ?_)
    obtain rfl := Option.some.inj hf
    exact v_zret G (z_X9_failOrder hcv44) dX0_readStep_294
  replace hf := (if_neg h45).symm.trans hf
  by_cases h50 : v1 = (25 : Int32)
  · replace hf := (if_pos h50).symm.trans hf
    refine v_tabIn (off := 210) 214 G dX0_readStep_4 (by rw [h50]; decide) (by rw [h50]; decide) (by rw [h50]; rfl) (by decide) ?_
    refine v_aload_n G dX0_readStep_214 0 rfl ?_
    refine v_aload_n G dX0_readStep_215 1 rfl ?_
    obtain ⟨v46, hcv46, hf⟩ := bd_e hf
    refine v_callV [.ref (ad a1)] G (c_X0_start n h0 h1 hcv46) h0 (by decide) rfl rfl rfl t_1222 t_1224 t_p39 t_8 t_1225 nm_X0_start (by decide) (by decide) rfl rfl (Nat.le_of_ble_eq_true rfl) dX0_readStep_216 (kv_ri ?_)
    refine v_if_eq 239 G dX0_readStep_219 (by decide) (fun h49 => ?_) (fun h49 => ?_)
    · replace hf := (if_pos h49).symm.trans hf
      refine v_iconst (0 : Int32) G dX0_readStep_239 (by decide) ?_
      obtain rfl := Option.some.inj hf
      exact v_zret G (Or.inl rfl) dX0_readStep_240
    · replace hf := (if_neg h49).symm.trans hf
      refine v_aload_n G dX0_readStep_222 0 rfl ?_
      refine v_aload_n G dX0_readStep_223 1 rfl ?_
      refine v_bipush (11 : Int32) G dX0_readStep_224 (by decide) ?_
      refine v_iconst (0 : Int32) G dX0_readStep_226 (by decide) ?_
      refine v_iconst (0 : Int32) G dX0_readStep_227 (by decide) ?_
      refine v_iconst (0 : Int32) G dX0_readStep_228 (by decide) ?_
      obtain ⟨v47, hcv47, hf⟩ := bd_e hf
      refine v_callV [.ref (ad a1), .int (11 : Int32), .int (0 : Int32), .int (0 : Int32), .int (0 : Int32)] G (c_X0_addStep n h0 h1 hcv47) h0 (by decide) rfl rfl rfl t_1236 t_1238 t_p41 t_8 t_1239 nm_X0_addStep (by decide) (by decide) rfl rfl (Nat.le_of_ble_eq_true rfl) dX0_readStep_229 (kv_ri ?_)
      refine v_if_eq 239 G dX0_readStep_232 (by decide) (fun h48 => ?_) (fun h48 => ?_)
      · replace hf := (if_pos h48).symm.trans hf
        refine v_iconst (0 : Int32) G dX0_readStep_239 (by decide) ?_
        obtain rfl := Option.some.inj hf
        exact v_zret G (Or.inl rfl) dX0_readStep_240
      · replace hf := (if_neg h48).symm.trans hf
        refine v_iconst (1 : Int32) G dX0_readStep_235 (by decide) ?_
        refine v_goto 240 G dX0_readStep_236 (by decide) ?_
        obtain rfl := Option.some.inj hf
        exact v_zret G (Or.inr rfl) dX0_readStep_240
  replace hf := (if_neg h50).symm.trans hf
  refine v_tabOut 290 G dX0_readStep_4 (sw_out 15 25 (by decide) (sw_s h6 (sw_s h11 (sw_s h16 (sw_s h21 (sw_s h26 (sw_s h31 (sw_s h36 (sw_s h38 (sw_s h43 (sw_s h45 (sw_s h50 sw_e)))))))))))) (by decide) ?_
  refine v_aload_n G dX0_readStep_290 0 rfl ?_
  obtain ⟨v51, hcv51⟩ : ∃ q, f_X9_failOrder a0 M = q := ⟨_, rfl⟩
  replace hf := lt_e hf hcv51.symm
  refine v_callU (owner := "NoonGuides$TextReader") [] G (c_X9_failOrder_D h0 hcv51) h0 (by decide) rfl rfl t_1201 t_1202 t_1055 t_1203 t_2 t_1059 rfl nm_X9_failOrder (by decide) (by decide) rfl rfl (Nat.le_of_ble_eq_true rfl) dX0_readStep_291 (kv_ri ?_)
  obtain rfl := Option.some.inj hf
  exact v_zret G (z_X9_failOrder hcv51) dX0_readStep_294
abbrev cX0_readInto : ByteArray := prog_2_method_2_code
def yX0_readInto : MethodName := ⟨RX0, "readInto", "(LNoonGuides$Plan;LNoonGuides$Land;[BI)Z"⟩
theorem dX0_readInto_0 : dc cX0_readInto 0 (.aload_n 1) 1 1 := ⟨by decide +kernel, rfl⟩
theorem dX0_readInto_1 : dc cX0_readInto 1 (.invokevirtual 15) 3 4 := ⟨by decide +kernel, rfl⟩
theorem dX0_readInto_4 : dc cX0_readInto 4 (.aload_n 0) 1 5 := ⟨by decide +kernel, rfl⟩
theorem dX0_readInto_5 : dc cX0_readInto 5 (.iconst 0) 1 6 := ⟨by decide +kernel, rfl⟩
theorem dX0_readInto_6 : dc cX0_readInto 6 (.putfield 20) 3 9 := ⟨by decide +kernel, rfl⟩
theorem dX0_readInto_9 : dc cX0_readInto 9 (.aload_n 0) 1 10 := ⟨by decide +kernel, rfl⟩
theorem dX0_readInto_10 : dc cX0_readInto 10 (.aload_n 3) 1 11 := ⟨by decide +kernel, rfl⟩
theorem dX0_readInto_11 : dc cX0_readInto 11 (.iload 4) 2 13 := ⟨by decide +kernel, rfl⟩
theorem dX0_readInto_13 : dc cX0_readInto 13 (.invokevirtual 24) 3 16 := ⟨by decide +kernel, rfl⟩
theorem dX0_readInto_16 : dc cX0_readInto 16 (.iconst 0) 1 17 := ⟨by decide +kernel, rfl⟩
theorem dX0_readInto_17 : dc cX0_readInto 17 (.istore 5) 2 19 := ⟨by decide +kernel, rfl⟩
theorem dX0_readInto_19 : dc cX0_readInto 19 (.iload 5) 2 21 := ⟨by decide +kernel, rfl⟩
theorem dX0_readInto_21 : dc cX0_readInto 21 (.sipush 300) 3 24 := ⟨by decide +kernel, rfl⟩
theorem dX0_readInto_24 : dc cX0_readInto 24 (.if_icmp .ge 48) 3 27 := ⟨by decide +kernel, rfl⟩
theorem dX0_readInto_27 : dc cX0_readInto 27 (.aload_n 0) 1 28 := ⟨by decide +kernel, rfl⟩
theorem dX0_readInto_28 : dc cX0_readInto 28 (.invokevirtual 28) 3 31 := ⟨by decide +kernel, rfl⟩
theorem dX0_readInto_31 : dc cX0_readInto 31 (.ifCond .ne 41) 3 34 := ⟨by decide +kernel, rfl⟩
theorem dX0_readInto_34 : dc cX0_readInto 34 (.aload_n 0) 1 35 := ⟨by decide +kernel, rfl⟩
theorem dX0_readInto_35 : dc cX0_readInto 35 (.getfield 32) 3 38 := ⟨by decide +kernel, rfl⟩
theorem dX0_readInto_38 : dc cX0_readInto 38 (.bipush 24) 2 40 := ⟨by decide +kernel, rfl⟩
theorem dX0_readInto_40 : dc cX0_readInto 40 (.if_icmp .ne 11) 3 43 := ⟨by decide +kernel, rfl⟩
theorem dX0_readInto_43 : dc cX0_readInto 43 (.aload_n 0) 1 44 := ⟨by decide +kernel, rfl⟩
theorem dX0_readInto_44 : dc cX0_readInto 44 (.aload_n 1) 1 45 := ⟨by decide +kernel, rfl⟩
theorem dX0_readInto_45 : dc cX0_readInto 45 (.invokevirtual 35) 3 48 := ⟨by decide +kernel, rfl⟩
theorem dX0_readInto_48 : dc cX0_readInto 48 (.goto 9) 3 51 := ⟨by decide +kernel, rfl⟩
theorem dX0_readInto_51 : dc cX0_readInto 51 (.aload_n 0) 1 52 := ⟨by decide +kernel, rfl⟩
theorem dX0_readInto_52 : dc cX0_readInto 52 (.aload_n 1) 1 53 := ⟨by decide +kernel, rfl⟩
theorem dX0_readInto_53 : dc cX0_readInto 53 (.aload_n 2) 1 54 := ⟨by decide +kernel, rfl⟩
theorem dX0_readInto_54 : dc cX0_readInto 54 (.invokevirtual 39) 3 57 := ⟨by decide +kernel, rfl⟩
theorem dX0_readInto_57 : dc cX0_readInto 57 (.istore 6) 2 59 := ⟨by decide +kernel, rfl⟩
theorem dX0_readInto_59 : dc cX0_readInto 59 (.iload 6) 2 61 := ⟨by decide +kernel, rfl⟩
theorem dX0_readInto_61 : dc cX0_readInto 61 (.ifCond .ne 5) 3 64 := ⟨by decide +kernel, rfl⟩
theorem dX0_readInto_64 : dc cX0_readInto 64 (.iconst 0) 1 65 := ⟨by decide +kernel, rfl⟩
theorem dX0_readInto_65 : dc cX0_readInto 65 (.ireturn) 1 66 := ⟨by decide +kernel, rfl⟩
theorem dX0_readInto_66 : dc cX0_readInto 66 (.iinc 5 1) 3 69 := ⟨by decide +kernel, rfl⟩
theorem dX0_readInto_69 : dc cX0_readInto 69 (.goto (-50)) 3 72 := ⟨by decide +kernel, rfl⟩
theorem dX0_readInto_72 : dc cX0_readInto 72 (.aload_n 0) 1 73 := ⟨by decide +kernel, rfl⟩
theorem dX0_readInto_73 : dc cX0_readInto 73 (.getfield 20) 3 76 := ⟨by decide +kernel, rfl⟩
theorem dX0_readInto_76 : dc cX0_readInto 76 (.ifCond .le 8) 3 79 := ⟨by decide +kernel, rfl⟩
theorem dX0_readInto_79 : dc cX0_readInto 79 (.aload_n 0) 1 80 := ⟨by decide +kernel, rfl⟩
theorem dX0_readInto_80 : dc cX0_readInto 80 (.invokevirtual 43) 3 83 := ⟨by decide +kernel, rfl⟩
theorem dX0_readInto_83 : dc cX0_readInto 83 (.ireturn) 1 84 := ⟨by decide +kernel, rfl⟩
theorem dX0_readInto_84 : dc cX0_readInto 84 (.aload_n 1) 1 85 := ⟨by decide +kernel, rfl⟩
theorem dX0_readInto_85 : dc cX0_readInto 85 (.iconst 1) 1 86 := ⟨by decide +kernel, rfl⟩
theorem dX0_readInto_86 : dc cX0_readInto 86 (.putfield 46) 3 89 := ⟨by decide +kernel, rfl⟩
theorem dX0_readInto_89 : dc cX0_readInto 89 (.iconst 1) 1 90 := ⟨by decide +kernel, rfl⟩
theorem dX0_readInto_90 : dc cX0_readInto 90 (.ireturn) 1 91 := ⟨by decide +kernel, rfl⟩
theorem nm_X0_readInto : (yX0_readInto).cls ≠ "java/lang/invoke/MethodHandle" ∧ (yX0_readInto).cls ≠ "java/lang/invoke/VarHandle" ∧ (parseMethodDescriptor (yX0_readInto).desc).map (fun d => d.parameters.length) = some 4 := ⟨by decide +kernel, by decide +kernel, by decide +kernel⟩
theorem zs_X0_readInto_19 {a0 : Nat} {a1 : Nat} {a2 : Nat} {k72 : KM → Option (Int32 × KM)} {y : (Int32 × KM)} (hk72 : ∀ (M : KM), k72 M = some y → (y.1 = 0 ∨ y.1 = 1)) : ∀ (n : Nat) (w5 : Int32) (M : KM), lp_X0_readInto_19 n a0 a1 a2 w5 M k72 = some y → (y.1 = 0 ∨ y.1 = 1) := by
  intro n
  induction n with
  | zero =>
    intro w5 M hf
    cases hf
  | succ n ih =>
    intro w5 M hf
    rw [lp_X0_readInto_19] at hf
    by_cases h13 : (300 : Int32) ≤ w5
    · replace hf := (if_pos h13).symm.trans hf
      exact hk72 M hf
    · replace hf := (if_neg h13).symm.trans hf
      obtain ⟨v4, hcv4⟩ : ∃ q, f_X9_isAtEnd a0 M = q := ⟨_, rfl⟩
      replace hf := lt_e hf hcv4.symm
      by_cases h12 : v4 = 0
      · replace hf := (if_pos h12).symm.trans hf
        obtain ⟨j57, ej57, hf⟩ := lt_j hf
        have hj57 : ∀ (x5 : Int32) (M6 : KM), j57 x5 M6 = some y → (y.1 = 0 ∨ y.1 = 1) := by
          intro x5 M6 hf
          rw [ej57] at hf
          by_cases h8 : x5 = 0
          · replace hf := (if_pos h8).symm.trans hf
            obtain rfl := Option.some.inj hf
            exact (Or.inl rfl)
          · replace hf := (if_neg h8).symm.trans hf
            obtain ⟨v7, ev7⟩ : ∃ q : Int32, q = w5 + (1 : Int32) := ⟨_, rfl⟩
            replace hf := lt_e hf ev7
            exact ih v7 M6 hf
        by_cases h11 : (M.1 a0 7) = (24 : Int32)
        · replace hf := (if_pos h11).symm.trans hf
          obtain ⟨v10, hcv10, hf⟩ := bd_e hf
          exact hj57 v10.1 v10.2 hf
        · replace hf := (if_neg h11).symm.trans hf
          obtain ⟨v9, hcv9, hf⟩ := bd_e hf
          exact hj57 v9.1 v9.2 hf
      · replace hf := (if_neg h12).symm.trans hf
        exact hk72 M hf
set_option maxRecDepth 100000 in
theorem z_X0_readInto (n : Nat) {a0 : Nat} {a1 : Nat} {a2 : Nat} {a3 : Nat} {p4 : Int32} {M : KM} {y : (Int32 × KM)} (hf : f_X0_readInto n a0 a1 a2 a3 p4 M = some y) : (y.1 = 0 ∨ y.1 = 1) := by
  unfold f_X0_readInto at hf
  obtain ⟨v1, hcv1⟩ : ∃ q, f_X8_clear a1 M = q := ⟨_, rfl⟩
  replace hf := lt_e hf hcv1.symm
  obtain ⟨M2, eM2⟩ : ∃ q : KM, q = (uI v1 a0 13 (0 : Int32)) := ⟨_, rfl⟩
  replace hf := lt_e hf eM2
  obtain ⟨v3, hcv3, hf⟩ := bd_e hf
  refine zs_X0_readInto_19 (fun M14 hf => ?_) n (0 : Int32) v3 hf
  · by_cases h17 : (M14.1 a0 13) ≤ 0
    · replace hf := (if_pos h17).symm.trans hf
      obtain ⟨M15, eM15⟩ : ∃ q : KM, q = (uI M14 a1 7 (1 : Int32)) := ⟨_, rfl⟩
      replace hf := lt_e hf eM15
      obtain rfl := Option.some.inj hf
      exact (Or.inr rfl)
    · replace hf := (if_neg h17).symm.trans hf
      obtain ⟨v16, hcv16⟩ : ∃ q, f_X9_failOrder a0 M14 = q := ⟨_, rfl⟩
      replace hf := lt_e hf hcv16.symm
      obtain rfl := Option.some.inj hf
      exact (z_X9_failOrder hcv16)
set_option maxRecDepth 100000 in
set_option maxHeartbeats 4000000 in
theorem s_X0_readInto_19 {ad : Nat → Nat} {cy : Nat → ClassId} {x : KX} (G : KG ad cy x cX0_readInto "NoonGuides$DaysReader" 7 (some (some .boolean)) 7) {a0 : Nat} {a1 : Nat} {a2 : Nat} (h0 : kty a0 = 1) (h1 : kty a1 = 9) (h2 : kty a2 = 3) {k72 : KM → Option (Int32 × KM)} {y : (Int32 × KM)} (hk72 : ∀ (M : KM), k72 M = some y → KV ad cy x (some (.int y.1), y.2) 72 [(0, .ref (ad a0)), (1, .ref (ad a1))] [] M) : ∀ (n : Nat) (w5 : Int32) (M : KM), lp_X0_readInto_19 n a0 a1 a2 w5 M k72 = some y → KV ad cy x (some (.int y.1), y.2) 19 [(0, .ref (ad a0)), (1, .ref (ad a1)), (2, .ref (ad a2)), (5, .int w5)] [] M := by
  intro n
  induction n with
  | zero =>
    intro w5 M hf
    cases hf
  | succ n ih =>
    intro w5 M hf
    rw [lp_X0_readInto_19] at hf
    refine v_iload G dX0_readInto_19 3 rfl ?_
    refine v_sipush (300 : Int32) G dX0_readInto_21 (by decide) ?_
    refine v_icmp_ge 72 G dX0_readInto_24 (by decide) (fun h13 => ?_) (fun h13 => ?_)
    · replace hf := (if_pos h13).symm.trans hf
      refine v_sub _ [0, 1] rfl ?_
      exact hk72 M hf
    · replace hf := (if_neg h13).symm.trans hf
      refine v_aload_n G dX0_readInto_27 0 rfl ?_
      obtain ⟨v4, hcv4⟩ : ∃ q, f_X9_isAtEnd a0 M = q := ⟨_, rfl⟩
      replace hf := lt_e hf hcv4.symm
      refine v_callU (owner := "NoonGuides$TextReader") [] G (c_X9_isAtEnd_D h0 hcv4) h0 (by decide) rfl rfl t_1194 t_1195 t_1022 t_1196 t_2 t_1023 rfl nm_X9_isAtEnd (by decide) (by decide) rfl rfl (Nat.le_of_ble_eq_true rfl) dX0_readInto_28 (kv_ri ?_)
      refine v_if_ne 72 G dX0_readInto_31 (by decide) (fun h12 => ?_) (fun h12 => ?_)
      · replace hf := (if_neg h12).symm.trans hf
        refine v_sub _ [0, 1] rfl ?_
        exact hk72 M hf
      · replace hf := (if_pos h12).symm.trans hf
        refine v_aload_n G dX0_readInto_34 0 rfl ?_
        refine gf_0_7 G h0 t_104 (Or.inr t_105) dX0_readInto_35 ?_
        refine v_bipush (24 : Int32) G dX0_readInto_38 (by decide) ?_
        obtain ⟨j57, ej57, hf⟩ := lt_j hf
        have hj57 : ∀ (x5 : Int32) (M6 : KM), j57 x5 M6 = some y → KV ad cy x (some (.int y.1), y.2) 57 [(0, .ref (ad a0)), (1, .ref (ad a1)), (2, .ref (ad a2)), (5, .int w5)] [.int x5] M6 := by
          intro x5 M6 hf
          rw [ej57] at hf
          refine v_istore [(6, .int x5), (0, .ref (ad a0)), (1, .ref (ad a1)), (2, .ref (ad a2)), (5, .int w5)] G dX0_readInto_57 (by decide) rfl ?_
          refine v_iload G dX0_readInto_59 0 rfl ?_
          refine v_if_ne 66 G dX0_readInto_61 (by decide) (fun h8 => ?_) (fun h8 => ?_)
          · replace hf := (if_neg h8).symm.trans hf
            obtain ⟨v7, ev7⟩ : ∃ q : Int32, q = w5 + (1 : Int32) := ⟨_, rfl⟩
            replace hf := lt_e hf ev7
            refine v_iinc v7 [(5, .int v7), (6, .int x5), (0, .ref (ad a0)), (1, .ref (ad a1)), (2, .ref (ad a2))] G dX0_readInto_66 4 rfl (by rw [ev7]; rfl) (by decide) rfl ?_
            refine v_goto 19 G dX0_readInto_69 (by decide) ?_
            refine v_sub _ [2, 3, 4, 0] rfl ?_
            exact ih v7 M6 hf
          · replace hf := (if_pos h8).symm.trans hf
            refine v_iconst (0 : Int32) G dX0_readInto_64 (by decide) ?_
            obtain rfl := Option.some.inj hf
            exact v_zret G (Or.inl rfl) dX0_readInto_65
        refine v_icmp_ne 51 G dX0_readInto_40 (by decide) (fun h11 => ?_) (fun h11 => ?_)
        · replace hf := (if_neg h11).symm.trans hf
          refine v_aload_n G dX0_readInto_51 0 rfl ?_
          refine v_aload_n G dX0_readInto_52 1 rfl ?_
          refine v_aload_n G dX0_readInto_53 2 rfl ?_
          obtain ⟨v9, hcv9, hf⟩ := bd_e hf
          refine v_callV [.ref (ad a1), .ref (ad a2)] G (c_X0_readStep n h0 h1 h2 hcv9) h0 (by decide) rfl rfl rfl t_1218 t_1220 t_p38 t_8 t_1221 nm_X0_readStep (by decide) (by decide) rfl rfl (Nat.le_of_ble_eq_true rfl) dX0_readInto_54 (kv_ri ?_)
          refine v_sub _ [0, 1, 2, 3] rfl ?_
          exact hj57 v9.1 v9.2 hf
        · replace hf := (if_pos h11).symm.trans hf
          refine v_aload_n G dX0_readInto_43 0 rfl ?_
          refine v_aload_n G dX0_readInto_44 1 rfl ?_
          obtain ⟨v10, hcv10, hf⟩ := bd_e hf
          refine v_callV [.ref (ad a1)] G (c_X0_readEnd n h0 h1 hcv10) h0 (by decide) rfl rfl rfl t_1197 t_1199 t_p37 t_8 t_1200 nm_X0_readEnd (by decide) (by decide) rfl rfl (Nat.le_of_ble_eq_true rfl) dX0_readInto_45 (kv_ri ?_)
          refine v_goto 57 G dX0_readInto_48 (by decide) ?_
          refine v_sub _ [0, 1, 2, 3] rfl ?_
          exact hj57 v10.1 v10.2 hf
set_option maxRecDepth 100000 in
set_option maxHeartbeats 4000000 in
theorem c_X0_readInto {l : Launch} {ad : Nat → Nat} {cy : Nat → ClassId} {D : va_G} {z : Nat} (n : Nat) {a0 : Nat} {a1 : Nat} {a2 : Nat} {a3 : Nat} {p4 : Int32} {M : KM} {y : (Int32 × KM)} (h0 : kty a0 = 1) (h1 : kty a1 = 9) (h2 : kty a2 = 3) (h3 : kty a3 = 21 ∨ kty a3 = 25) (hf : f_X0_readInto n a0 a1 a2 a3 p4 M = some y) : KC l ad cy D z yX0_readInto cX0_readInto 7 (some .boolean) 7 [.ref (ad a0), .ref (ad a1), .ref (ad a2), .ref (ad a3), .int p4] M (some (.int y.1), y.2) := by
  refine kv_enter (by decide +kernel) (Nat.le_of_ble_eq_true rfl) ?_
  intro x hl hD hz G
  subst hl hD hz
  unfold f_X0_readInto at hf
  have G : KG ad cy x cX0_readInto "NoonGuides$DaysReader" 7 (some (some .boolean)) 7 := G
  show KV ad cy x (some (.int y.1), y.2) 0 [(0, .ref (ad a0)), (1, .ref (ad a1)), (2, .ref (ad a2)), (3, .ref (ad a3)), (4, .int p4)] [] M
  refine v_aload_n G dX0_readInto_0 1 rfl ?_
  obtain ⟨v1, hcv1⟩ : ∃ q, f_X8_clear a1 M = q := ⟨_, rfl⟩
  replace hf := lt_e hf hcv1.symm
  refine v_callV [] G (c_X8_clear h1 hcv1) h1 (by decide) rfl rfl rfl t_1190 t_996 t_997 t_14 t_998 nm_X8_clear (by decide) (by decide) rfl rfl (Nat.le_of_ble_eq_true rfl) dX0_readInto_1 (kv_rv ?_)
  refine v_aload_n G dX0_readInto_4 0 rfl ?_
  refine v_iconst (0 : Int32) G dX0_readInto_5 (by decide) ?_
  refine pf_0_13 G h0 t_151 (Or.inl rfl) dX0_readInto_6 ?_
  refine v_nmM (fun M2 eM2 => ?_)
  replace hf := lt_e hf eM2
  refine v_aload_n G dX0_readInto_9 0 rfl ?_
  refine v_aload_n G dX0_readInto_10 3 rfl ?_
  refine v_iload G dX0_readInto_11 4 rfl ?_
  obtain ⟨v3, hcv3, hf⟩ := bd_e hf
  refine v_callU (owner := "NoonGuides$TextReader") [.ref (ad a3), .int p4] G (c_X9_begin_D n h0 h3 hcv3) h0 (by decide) rfl rfl t_1191 t_1192 t_1003 t_1193 t_2 t_1004 rfl nm_X9_begin (by decide) (by decide) rfl rfl (Nat.le_of_ble_eq_true rfl) dX0_readInto_13 (kv_rv ?_)
  refine v_iconst (0 : Int32) G dX0_readInto_16 (by decide) ?_
  refine v_istore [(5, .int (0 : Int32)), (0, .ref (ad a0)), (1, .ref (ad a1)), (2, .ref (ad a2)), (3, .ref (ad a3)), (4, .int p4)] G dX0_readInto_17 (by decide) rfl ?_
  refine v_sub _ [1, 2, 3, 0] rfl ?_
  refine s_X0_readInto_19 G h0 h1 h2 (fun M14 hf => ?_) n (0 : Int32) v3 hf
  · refine v_aload_n G dX0_readInto_72 0 rfl ?_
    refine gf_0_13 G h0 t_151 (Or.inl rfl) dX0_readInto_73 ?_
    refine v_if_le 84 G dX0_readInto_76 (by decide) (fun h17 => ?_) (fun h17 => ?_)
    · replace hf := (if_pos h17).symm.trans hf
      refine v_aload_n G dX0_readInto_84 1 rfl ?_
      refine v_iconst (1 : Int32) G dX0_readInto_85 (by decide) ?_
      refine pf_8_7 G h1 (Or.inr rfl) t_280 (Or.inl rfl) dX0_readInto_86 ?_
      refine v_nmM (fun M15 eM15 => ?_)
      replace hf := lt_e hf eM15
      refine v_iconst (1 : Int32) G dX0_readInto_89 (by decide) ?_
      obtain rfl := Option.some.inj hf
      exact v_zret G (Or.inr rfl) dX0_readInto_90
    · replace hf := (if_neg h17).symm.trans hf
      refine v_aload_n G dX0_readInto_79 0 rfl ?_
      obtain ⟨v16, hcv16⟩ : ∃ q, f_X9_failOrder a0 M14 = q := ⟨_, rfl⟩
      replace hf := lt_e hf hcv16.symm
      refine v_callU (owner := "NoonGuides$TextReader") [] G (c_X9_failOrder_D h0 hcv16) h0 (by decide) rfl rfl t_1201 t_1202 t_1055 t_1203 t_2 t_1059 rfl nm_X9_failOrder (by decide) (by decide) rfl rfl (Nat.le_of_ble_eq_true rfl) dX0_readInto_80 (kv_ri ?_)
      obtain rfl := Option.some.inj hf
      exact v_zret G (z_X9_failOrder hcv16) dX0_readInto_83
