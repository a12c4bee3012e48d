def RL : String := "NoonGuidesLaw"
abbrev cL_four : ByteArray := method_4_code
def yL_four : MethodName := ⟨RL, "four", "([II)I"⟩
theorem dL_four_0 : dc cL_four 0 (.aload_n 0) 1 1 := ⟨by decide +kernel, rfl⟩
theorem dL_four_1 : dc cL_four 1 (.iload_n 1) 1 2 := ⟨by decide +kernel, rfl⟩
theorem dL_four_2 : dc cL_four 2 (.iaload) 1 3 := ⟨by decide +kernel, rfl⟩
theorem dL_four_3 : dc cL_four 3 (.bipush 24) 2 5 := ⟨by decide +kernel, rfl⟩
theorem dL_four_5 : dc cL_four 5 (.ishl) 1 6 := ⟨by decide +kernel, rfl⟩
theorem dL_four_6 : dc cL_four 6 (.aload_n 0) 1 7 := ⟨by decide +kernel, rfl⟩
theorem dL_four_7 : dc cL_four 7 (.iload_n 1) 1 8 := ⟨by decide +kernel, rfl⟩
theorem dL_four_8 : dc cL_four 8 (.iconst 1) 1 9 := ⟨by decide +kernel, rfl⟩
theorem dL_four_9 : dc cL_four 9 (.iadd) 1 10 := ⟨by decide +kernel, rfl⟩
theorem dL_four_10 : dc cL_four 10 (.iaload) 1 11 := ⟨by decide +kernel, rfl⟩
theorem dL_four_11 : dc cL_four 11 (.bipush 16) 2 13 := ⟨by decide +kernel, rfl⟩
theorem dL_four_13 : dc cL_four 13 (.ishl) 1 14 := ⟨by decide +kernel, rfl⟩
theorem dL_four_14 : dc cL_four 14 (.ior) 1 15 := ⟨by decide +kernel, rfl⟩
theorem dL_four_15 : dc cL_four 15 (.aload_n 0) 1 16 := ⟨by decide +kernel, rfl⟩
theorem dL_four_16 : dc cL_four 16 (.iload_n 1) 1 17 := ⟨by decide +kernel, rfl⟩
theorem dL_four_17 : dc cL_four 17 (.iconst 2) 1 18 := ⟨by decide +kernel, rfl⟩
theorem dL_four_18 : dc cL_four 18 (.iadd) 1 19 := ⟨by decide +kernel, rfl⟩
theorem dL_four_19 : dc cL_four 19 (.iaload) 1 20 := ⟨by decide +kernel, rfl⟩
theorem dL_four_20 : dc cL_four 20 (.bipush 8) 2 22 := ⟨by decide +kernel, rfl⟩
theorem dL_four_22 : dc cL_four 22 (.ishl) 1 23 := ⟨by decide +kernel, rfl⟩
theorem dL_four_23 : dc cL_four 23 (.ior) 1 24 := ⟨by decide +kernel, rfl⟩
theorem dL_four_24 : dc cL_four 24 (.aload_n 0) 1 25 := ⟨by decide +kernel, rfl⟩
theorem dL_four_25 : dc cL_four 25 (.iload_n 1) 1 26 := ⟨by decide +kernel, rfl⟩
theorem dL_four_26 : dc cL_four 26 (.iconst 3) 1 27 := ⟨by decide +kernel, rfl⟩
theorem dL_four_27 : dc cL_four 27 (.iadd) 1 28 := ⟨by decide +kernel, rfl⟩
theorem dL_four_28 : dc cL_four 28 (.iaload) 1 29 := ⟨by decide +kernel, rfl⟩
theorem dL_four_29 : dc cL_four 29 (.ior) 1 30 := ⟨by decide +kernel, rfl⟩
theorem dL_four_30 : dc cL_four 30 (.ireturn) 1 31 := ⟨by decide +kernel, rfl⟩
theorem nm_L_four : (yL_four).cls ≠ "java/lang/invoke/MethodHandle" ∧ (yL_four).cls ≠ "java/lang/invoke/VarHandle" ∧ (parseMethodDescriptor (yL_four).desc).map (fun d => d.parameters.length) = some 2 := ⟨by decide +kernel, by decide +kernel, by decide +kernel⟩
set_option maxRecDepth 100000 in
set_option maxHeartbeats 4000000 in
theorem c_L_four {l : Launch} {ad : Nat → Nat} {cy : Nat → ClassId} {D : va_G} {z : Nat} (n : Nat) {a0 : Nat} {p1 : Int32} {M : KM} {y : Int32} (h0 : kty a0 = 34) (hf : f_L_four n a0 p1 M = some y) : KC l ad cy D z yL_four cL_four 2 (some .int) 1 [.ref (ad a0), .int p1] M (some (.int y), M) := by
  refine kv_enter (by decide +kernel) (Nat.le_of_ble_eq_true rfl) ?_
  intro x hl hD hz G
  subst hl hD hz
  unfold f_L_four at hf
  have G : KG ad cy x cL_four "NoonGuidesLaw" 2 (some (some .int)) 1 := G
  show KV ad cy x (some (.int y), M) 0 [(0, .ref (ad a0)), (1, .int p1)] [] M
  refine v_aload_n G dL_four_0 0 rfl ?_
  refine v_iload_n G dL_four_1 1 rfl ?_
  obtain ⟨g1, hf⟩ := gd_e hf
  refine al_34 G h0 g1 dL_four_2 ?_
  refine v_bipush (24 : Int32) G dL_four_3 (by decide) ?_
  refine v_ishl G dL_four_5 ?_
  refine v_aload_n G dL_four_6 0 rfl ?_
  refine v_iload_n G dL_four_7 1 rfl ?_
  refine v_iconst (1 : Int32) G dL_four_8 (by decide) ?_
  refine v_iadd G dL_four_9 ?_
  obtain ⟨g2, hf⟩ := gd_e hf
  refine al_34 G h0 g2 dL_four_10 ?_
  refine v_bipush (16 : Int32) G dL_four_11 (by decide) ?_
  refine v_ishl G dL_four_13 ?_
  refine v_ior G dL_four_14 ?_
  refine v_aload_n G dL_four_15 0 rfl ?_
  refine v_iload_n G dL_four_16 1 rfl ?_
  refine v_iconst (2 : Int32) G dL_four_17 (by decide) ?_
  refine v_iadd G dL_four_18 ?_
  obtain ⟨g3, hf⟩ := gd_e hf
  refine al_34 G h0 g3 dL_four_19 ?_
  refine v_bipush (8 : Int32) G dL_four_20 (by decide) ?_
  refine v_ishl G dL_four_22 ?_
  refine v_ior G dL_four_23 ?_
  refine v_aload_n G dL_four_24 0 rfl ?_
  refine v_iload_n G dL_four_25 1 rfl ?_
  refine v_iconst (3 : Int32) G dL_four_26 (by decide) ?_
  refine v_iadd G dL_four_27 ?_
  obtain ⟨g4, hf⟩ := gd_e hf
  refine al_34 G h0 g4 dL_four_28 ?_
  refine v_ior G dL_four_29 ?_
  obtain rfl := Option.some.inj hf
  exact v_iret G dL_four_30
abbrev cL_feed : ByteArray := method_3_code
def yL_feed : MethodName := ⟨RL, "feed", "(LNoonGuides;[I)V"⟩
theorem dL_feed_0 : dc cL_feed 0 (.aload_n 1) 1 1 := ⟨by decide +kernel, rfl⟩
theorem dL_feed_1 : dc cL_feed 1 (.bipush 20) 2 3 := ⟨by decide +kernel, rfl⟩
theorem dL_feed_3 : dc cL_feed 3 (.iaload) 1 4 := ⟨by decide +kernel, rfl⟩
theorem dL_feed_4 : dc cL_feed 4 (.istore_n 2) 1 5 := ⟨by decide +kernel, rfl⟩
theorem dL_feed_5 : dc cL_feed 5 (.iload_n 2) 1 6 := ⟨by decide +kernel, rfl⟩
theorem dL_feed_6 : dc cL_feed 6 (.bipush 20) 2 8 := ⟨by decide +kernel, rfl⟩
theorem dL_feed_8 : dc cL_feed 8 (.if_icmp .ge 14) 3 11 := ⟨by decide +kernel, rfl⟩
theorem dL_feed_11 : dc cL_feed 11 (.aload_n 1) 1 12 := ⟨by decide +kernel, rfl⟩
theorem dL_feed_12 : dc cL_feed 12 (.iload_n 2) 1 13 := ⟨by decide +kernel, rfl⟩
theorem dL_feed_13 : dc cL_feed 13 (.bipush 32) 2 15 := ⟨by decide +kernel, rfl⟩
theorem dL_feed_15 : dc cL_feed 15 (.iastore) 1 16 := ⟨by decide +kernel, rfl⟩
theorem dL_feed_16 : dc cL_feed 16 (.iinc 2 1) 3 19 := ⟨by decide +kernel, rfl⟩
theorem dL_feed_19 : dc cL_feed 19 (.goto (-14)) 3 22 := ⟨by decide +kernel, rfl⟩
theorem dL_feed_22 : dc cL_feed 22 (.aload_n 0) 1 23 := ⟨by decide +kernel, rfl⟩
theorem dL_feed_23 : dc cL_feed 23 (.aload_n 1) 1 24 := ⟨by decide +kernel, rfl⟩
theorem dL_feed_24 : dc cL_feed 24 (.iconst 0) 1 25 := ⟨by decide +kernel, rfl⟩
theorem dL_feed_25 : dc cL_feed 25 (.invokestatic 13) 3 28 := ⟨by decide +kernel, rfl⟩
theorem dL_feed_28 : dc cL_feed 28 (.aload_n 1) 1 29 := ⟨by decide +kernel, rfl⟩
theorem dL_feed_29 : dc cL_feed 29 (.iconst 4) 1 30 := ⟨by decide +kernel, rfl⟩
theorem dL_feed_30 : dc cL_feed 30 (.invokestatic 13) 3 33 := ⟨by decide +kernel, rfl⟩
theorem dL_feed_33 : dc cL_feed 33 (.aload_n 1) 1 34 := ⟨by decide +kernel, rfl⟩
theorem dL_feed_34 : dc cL_feed 34 (.bipush 8) 2 36 := ⟨by decide +kernel, rfl⟩
theorem dL_feed_36 : dc cL_feed 36 (.invokestatic 13) 3 39 := ⟨by decide +kernel, rfl⟩
theorem dL_feed_39 : dc cL_feed 39 (.aload_n 1) 1 40 := ⟨by decide +kernel, rfl⟩
theorem dL_feed_40 : dc cL_feed 40 (.bipush 12) 2 42 := ⟨by decide +kernel, rfl⟩
theorem dL_feed_42 : dc cL_feed 42 (.invokestatic 13) 3 45 := ⟨by decide +kernel, rfl⟩
theorem dL_feed_45 : dc cL_feed 45 (.aload_n 1) 1 46 := ⟨by decide +kernel, rfl⟩
theorem dL_feed_46 : dc cL_feed 46 (.bipush 16) 2 48 := ⟨by decide +kernel, rfl⟩
theorem dL_feed_48 : dc cL_feed 48 (.invokestatic 13) 3 51 := ⟨by decide +kernel, rfl⟩
theorem dL_feed_51 : dc cL_feed 51 (.invokevirtual 17) 3 54 := ⟨by decide +kernel, rfl⟩
theorem dL_feed_54 : dc cL_feed 54 (.pop) 1 55 := ⟨by decide +kernel, rfl⟩
theorem dL_feed_55 : dc cL_feed 55 (.aload_n 1) 1 56 := ⟨by decide +kernel, rfl⟩
theorem dL_feed_56 : dc cL_feed 56 (.bipush 20) 2 58 := ⟨by decide +kernel, rfl⟩
theorem dL_feed_58 : dc cL_feed 58 (.iconst 0) 1 59 := ⟨by decide +kernel, rfl⟩
theorem dL_feed_59 : dc cL_feed 59 (.iastore) 1 60 := ⟨by decide +kernel, rfl⟩
theorem dL_feed_60 : dc cL_feed 60 (.return_) 1 61 := ⟨by decide +kernel, rfl⟩
theorem nm_L_feed : (yL_feed).cls ≠ "java/lang/invoke/MethodHandle" ∧ (yL_feed).cls ≠ "java/lang/invoke/VarHandle" ∧ (parseMethodDescriptor (yL_feed).desc).map (fun d => d.parameters.length) = some 2 := ⟨by decide +kernel, by decide +kernel, by decide +kernel⟩
set_option maxRecDepth 100000 in
set_option maxHeartbeats 4000000 in
theorem s_L_feed_5 {ad : Nat → Nat} {cy : Nat → ClassId} {x : KX} (G : KG ad cy x cL_feed "NoonGuidesLaw" 3 (some none) 3) {a0 : Nat} {a1 : Nat} (h0 : kty a0 = 11) (h1 : kty a1 = 34) {k22 : KM → Option KM} {y : KM} (hk22 : ∀ (M : KM), k22 M = some y → KV ad cy x (none, y) 22 [(0, .ref (ad a0)), (1, .ref (ad a1))] [] M) : ∀ (n : Nat) (w2 : Int32) (M : KM), lp_L_feed_5 n a0 a1 w2 M k22 = some y → KV ad cy x (none, y) 5 [(0, .ref (ad a0)), (1, .ref (ad a1)), (2, .int w2)] [] M := by
  intro n
  induction n with
  | zero =>
    intro w2 M hf
    cases hf
  | succ n ih =>
    intro w2 M hf
    rw [lp_L_feed_5] at hf
    refine v_iload_n G dL_feed_5 2 rfl ?_
    refine v_bipush (20 : Int32) G dL_feed_6 (by decide) ?_
    refine v_icmp_ge 22 G dL_feed_8 (by decide) (fun h6 => ?_) (fun h6 => ?_)
    · replace hf := (if_pos h6).symm.trans hf
      refine v_sub _ [0, 1] rfl ?_
      exact hk22 M hf
    · replace hf := (if_neg h6).symm.trans hf
      refine v_aload_n G dL_feed_11 1 rfl ?_
      refine v_iload_n G dL_feed_12 2 rfl ?_
      refine v_bipush (32 : Int32) G dL_feed_13 (by decide) ?_
      obtain ⟨g3, hf⟩ := gd_e hf
      refine as_34 G h1 g3 dL_feed_15 ?_
      refine v_nmM (fun M4 eM4 => ?_)
      replace hf := lt_e hf eM4
      obtain ⟨v5, ev5⟩ : ∃ q : Int32, q = w2 + (1 : Int32) := ⟨_, rfl⟩
      replace hf := lt_e hf ev5
      refine v_iinc v5 [(2, .int v5), (0, .ref (ad a0)), (1, .ref (ad a1))] G dL_feed_16 2 rfl (by rw [ev5]; rfl) (by decide) rfl ?_
      refine v_goto 5 G dL_feed_19 (by decide) ?_
      refine v_sub _ [1, 2, 0] rfl ?_
      exact ih v5 M4 hf
set_option maxRecDepth 100000 in
set_option maxHeartbeats 4000000 in
theorem c_L_feed {l : Launch} {ad : Nat → Nat} {cy : Nat → ClassId} {D : va_G} {z : Nat} (n : Nat) {a0 : Nat} {a1 : Nat} {M : KM} {y : KM} (h0 : kty a0 = 11) (h1 : kty a1 = 34) (hf : f_L_feed n a0 a1 M = some y) : KC l ad cy D z yL_feed cL_feed 3 none 3 [.ref (ad a0), .ref (ad a1)] M (none, y) := by
  refine kv_enter (by decide +kernel) (Nat.le_of_ble_eq_true rfl) ?_
  intro x hl hD hz G
  subst hl hD hz
  unfold f_L_feed at hf
  have G : KG ad cy x cL_feed "NoonGuidesLaw" 3 (some none) 3 := G
  show KV ad cy x (none, y) 0 [(0, .ref (ad a0)), (1, .ref (ad a1))] [] M
  refine v_aload_n G dL_feed_0 1 rfl ?_
  refine v_bipush (20 : Int32) G dL_feed_1 (by decide) ?_
  obtain ⟨g1, hf⟩ := gd_e hf
  refine al_34 G h1 g1 dL_feed_3 ?_
  refine v_nmi (fun v2 ev2 => ?_)
  replace hf := lt_e hf ev2
  refine v_istore_n [(2, .int v2), (0, .ref (ad a0)), (1, .ref (ad a1))] G dL_feed_4 (by decide) rfl ?_
  refine v_sub _ [1, 2, 0] rfl ?_
  refine s_L_feed_5 G h0 h1 (fun M7 hf => ?_) n v2 M hf
  · refine v_aload_n G dL_feed_22 0 rfl ?_
    refine v_aload_n G dL_feed_23 1 rfl ?_
    refine v_iconst (0 : Int32) G dL_feed_24 (by decide) ?_
    obtain ⟨v8, hcv8, hf⟩ := bd_e hf
    refine v_callS [.ref (ad a1), .int (0 : Int32)] G (c_L_four n h1 hcv8) t_948 t_949 t_0 t_950 nm_L_four (by decide) (by decide) rfl rfl (Nat.le_of_ble_eq_true rfl) dL_feed_25 (kv_ri ?_)
    refine v_aload_n G dL_feed_28 1 rfl ?_
    refine v_iconst (4 : Int32) G dL_feed_29 (by decide) ?_
    obtain ⟨v9, hcv9, hf⟩ := bd_e hf
    refine v_callS [.ref (ad a1), .int (4 : Int32)] G (c_L_four n h1 hcv9) t_948 t_949 t_0 t_950 nm_L_four (by decide) (by decide) rfl rfl (Nat.le_of_ble_eq_true rfl) dL_feed_30 (kv_ri ?_)
    refine v_aload_n G dL_feed_33 1 rfl ?_
    refine v_bipush (8 : Int32) G dL_feed_34 (by decide) ?_
    obtain ⟨v10, hcv10, hf⟩ := bd_e hf
    refine v_callS [.ref (ad a1), .int (8 : Int32)] G (c_L_four n h1 hcv10) t_948 t_949 t_0 t_950 nm_L_four (by decide) (by decide) rfl rfl (Nat.le_of_ble_eq_true rfl) dL_feed_36 (kv_ri ?_)
    refine v_aload_n G dL_feed_39 1 rfl ?_
    refine v_bipush (12 : Int32) G dL_feed_40 (by decide) ?_
    obtain ⟨v11, hcv11, hf⟩ := bd_e hf
    refine v_callS [.ref (ad a1), .int (12 : Int32)] G (c_L_four n h1 hcv11) t_948 t_949 t_0 t_950 nm_L_four (by decide) (by decide) rfl rfl (Nat.le_of_ble_eq_true rfl) dL_feed_42 (kv_ri ?_)
    refine v_aload_n G dL_feed_45 1 rfl ?_
    refine v_bipush (16 : Int32) G dL_feed_46 (by decide) ?_
    obtain ⟨v12, hcv12, hf⟩ := bd_e hf
    refine v_callS [.ref (ad a1), .int (16 : Int32)] G (c_L_four n h1 hcv12) t_948 t_949 t_0 t_950 nm_L_four (by decide) (by decide) rfl rfl (Nat.le_of_ble_eq_true rfl) dL_feed_48 (kv_ri ?_)
    obtain ⟨v13, hcv13, hf⟩ := bd_e hf
    refine v_callV [.int v8, .int v9, .int v10, .int v11, .int v12] G (c_X11_feed n h0 hcv13) h0 (by decide) rfl rfl rfl t_951 t_952 t_953 t_1 t_954 nm_X11_feed (by decide) (by decide) rfl rfl (Nat.le_of_ble_eq_true rfl) dL_feed_51 (kv_ri ?_)
    refine v_pop G dL_feed_54 rfl ?_
    refine v_aload_n G dL_feed_55 1 rfl ?_
    refine v_bipush (20 : Int32) G dL_feed_56 (by decide) ?_
    refine v_iconst (0 : Int32) G dL_feed_58 (by decide) ?_
    obtain ⟨g14, hf⟩ := gd_e hf
    refine as_34 G h1 g14 dL_feed_59 ?_
    refine v_nmM (fun M15 eM15 => ?_)
    replace hf := lt_e hf eM15
    obtain rfl := Option.some.inj hf
    exact v_vret G dL_feed_60
abbrev cL_put : ByteArray := method_2_code
def yL_put : MethodName := ⟨RL, "put", "(LNoonGuides;[II)V"⟩
theorem dL_put_0 : dc cL_put 0 (.aload_n 1) 1 1 := ⟨by decide +kernel, rfl⟩
theorem dL_put_1 : dc cL_put 1 (.aload_n 1) 1 2 := ⟨by decide +kernel, rfl⟩
theorem dL_put_2 : dc cL_put 2 (.bipush 20) 2 4 := ⟨by decide +kernel, rfl⟩
theorem dL_put_4 : dc cL_put 4 (.iaload) 1 5 := ⟨by decide +kernel, rfl⟩
theorem dL_put_5 : dc cL_put 5 (.iload_n 2) 1 6 := ⟨by decide +kernel, rfl⟩
theorem dL_put_6 : dc cL_put 6 (.iastore) 1 7 := ⟨by decide +kernel, rfl⟩
theorem dL_put_7 : dc cL_put 7 (.aload_n 1) 1 8 := ⟨by decide +kernel, rfl⟩
theorem dL_put_8 : dc cL_put 8 (.bipush 20) 2 10 := ⟨by decide +kernel, rfl⟩
theorem dL_put_10 : dc cL_put 10 (.dup2) 1 11 := ⟨by decide +kernel, rfl⟩
theorem dL_put_11 : dc cL_put 11 (.iaload) 1 12 := ⟨by decide +kernel, rfl⟩
theorem dL_put_12 : dc cL_put 12 (.iconst 1) 1 13 := ⟨by decide +kernel, rfl⟩
theorem dL_put_13 : dc cL_put 13 (.iadd) 1 14 := ⟨by decide +kernel, rfl⟩
theorem dL_put_14 : dc cL_put 14 (.iastore) 1 15 := ⟨by decide +kernel, rfl⟩
theorem dL_put_15 : dc cL_put 15 (.aload_n 1) 1 16 := ⟨by decide +kernel, rfl⟩
theorem dL_put_16 : dc cL_put 16 (.bipush 21) 2 18 := ⟨by decide +kernel, rfl⟩
theorem dL_put_18 : dc cL_put 18 (.dup2) 1 19 := ⟨by decide +kernel, rfl⟩
theorem dL_put_19 : dc cL_put 19 (.iaload) 1 20 := ⟨by decide +kernel, rfl⟩
theorem dL_put_20 : dc cL_put 20 (.iconst 1) 1 21 := ⟨by decide +kernel, rfl⟩
theorem dL_put_21 : dc cL_put 21 (.iadd) 1 22 := ⟨by decide +kernel, rfl⟩
theorem dL_put_22 : dc cL_put 22 (.iastore) 1 23 := ⟨by decide +kernel, rfl⟩
theorem dL_put_23 : dc cL_put 23 (.aload_n 1) 1 24 := ⟨by decide +kernel, rfl⟩
theorem dL_put_24 : dc cL_put 24 (.bipush 20) 2 26 := ⟨by decide +kernel, rfl⟩
theorem dL_put_26 : dc cL_put 26 (.iaload) 1 27 := ⟨by decide +kernel, rfl⟩
theorem dL_put_27 : dc cL_put 27 (.bipush 20) 2 29 := ⟨by decide +kernel, rfl⟩
theorem dL_put_29 : dc cL_put 29 (.if_icmp .ne 8) 3 32 := ⟨by decide +kernel, rfl⟩
theorem dL_put_32 : dc cL_put 32 (.aload_n 0) 1 33 := ⟨by decide +kernel, rfl⟩
theorem dL_put_33 : dc cL_put 33 (.aload_n 1) 1 34 := ⟨by decide +kernel, rfl⟩
theorem dL_put_34 : dc cL_put 34 (.invokestatic 7) 3 37 := ⟨by decide +kernel, rfl⟩
theorem dL_put_37 : dc cL_put 37 (.return_) 1 38 := ⟨by decide +kernel, rfl⟩
theorem nm_L_put : (yL_put).cls ≠ "java/lang/invoke/MethodHandle" ∧ (yL_put).cls ≠ "java/lang/invoke/VarHandle" ∧ (parseMethodDescriptor (yL_put).desc).map (fun d => d.parameters.length) = some 3 := ⟨by decide +kernel, by decide +kernel, by decide +kernel⟩
set_option maxRecDepth 100000 in
set_option maxHeartbeats 4000000 in
theorem c_L_put {l : Launch} {ad : Nat → Nat} {cy : Nat → ClassId} {D : va_G} {z : Nat} (n : Nat) {a0 : Nat} {a1 : Nat} {p2 : Int32} {M : KM} {y : KM} (h0 : kty a0 = 11) (h1 : kty a1 = 34) (hf : f_L_put n a0 a1 p2 M = some y) : KC l ad cy D z yL_put cL_put 3 none 4 [.ref (ad a0), .ref (ad a1), .int p2] M (none, y) := by
  refine kv_enter (by decide +kernel) (Nat.le_of_ble_eq_true rfl) ?_
  intro x hl hD hz G
  subst hl hD hz
  unfold f_L_put at hf
  have G : KG ad cy x cL_put "NoonGuidesLaw" 3 (some none) 4 := G
  show KV ad cy x (none, y) 0 [(0, .ref (ad a0)), (1, .ref (ad a1)), (2, .int p2)] [] M
  refine v_aload_n G dL_put_0 1 rfl ?_
  refine v_aload_n G dL_put_1 1 rfl ?_
  refine v_bipush (20 : Int32) G dL_put_2 (by decide) ?_
  obtain ⟨g1, hf⟩ := gd_e hf
  refine al_34 G h1 g1 dL_put_4 ?_
  refine v_iload_n G dL_put_5 2 rfl ?_
  obtain ⟨g2, hf⟩ := gd_e hf
  refine as_34 G h1 g2 dL_put_6 ?_
  refine v_nmM (fun M3 eM3 => ?_)
  replace hf := lt_e hf eM3
  refine v_aload_n G dL_put_7 1 rfl ?_
  refine v_bipush (20 : Int32) G dL_put_8 (by decide) ?_
  refine v_dup2 G dL_put_10 rfl rfl ?_
  obtain ⟨g4, hf⟩ := gd_e hf
  refine al_34 G h1 g4 dL_put_11 ?_
  refine v_iconst (1 : Int32) G dL_put_12 (by decide) ?_
  refine v_iadd G dL_put_13 ?_
  obtain ⟨g5, hf⟩ := gd_e hf
  refine as_34 G h1 g5 dL_put_14 ?_
  refine v_nmM (fun M6 eM6 => ?_)
  replace hf := lt_e hf eM6
  refine v_aload_n G dL_put_15 1 rfl ?_
  refine v_bipush (21 : Int32) G dL_put_16 (by decide) ?_
  refine v_dup2 G dL_put_18 rfl rfl ?_
  obtain ⟨g7, hf⟩ := gd_e hf
  refine al_34 G h1 g7 dL_put_19 ?_
  refine v_iconst (1 : Int32) G dL_put_20 (by decide) ?_
  refine v_iadd G dL_put_21 ?_
  obtain ⟨g8, hf⟩ := gd_e hf
  refine as_34 G h1 g8 dL_put_22 ?_
  refine v_nmM (fun M9 eM9 => ?_)
  replace hf := lt_e hf eM9
  refine v_aload_n G dL_put_23 1 rfl ?_
  refine v_bipush (20 : Int32) G dL_put_24 (by decide) ?_
  obtain ⟨g10, hf⟩ := gd_e hf
  refine al_34 G h1 g10 dL_put_26 ?_
  refine v_bipush (20 : Int32) G dL_put_27 (by decide) ?_
  refine v_icmp_ne 37 G dL_put_29 (by decide) (fun h12 => ?_) (fun h12 => ?_)
  · replace hf := (if_neg h12).symm.trans hf
    obtain rfl := Option.some.inj hf
    exact v_vret G dL_put_37
  · replace hf := (if_pos h12).symm.trans hf
    refine v_aload_n G dL_put_32 0 rfl ?_
    refine v_aload_n G dL_put_33 1 rfl ?_
    obtain ⟨v11, hcv11, hf⟩ := bd_e hf
    refine v_callS [.ref (ad a0), .ref (ad a1)] G (c_L_feed n h0 h1 hcv11) t_945 t_946 t_0 t_947 nm_L_feed (by decide) (by decide) rfl rfl (Nat.le_of_ble_eq_true rfl) dL_put_34 (kv_rv ?_)
    obtain rfl := Option.some.inj hf
    exact v_vret G dL_put_37
abbrev cL_say : ByteArray := method_5_code
def yL_say : MethodName := ⟨RL, "say", "(LNoonGuides;[ILjava/lang/String;)V"⟩
theorem dL_say_0 : dc cL_say 0 (.iconst 0) 1 1 := ⟨by decide +kernel, rfl⟩
theorem dL_say_1 : dc cL_say 1 (.istore_n 3) 1 2 := ⟨by decide +kernel, rfl⟩
theorem dL_say_2 : dc cL_say 2 (.iload_n 3) 1 3 := ⟨by decide +kernel, rfl⟩
theorem dL_say_3 : dc cL_say 3 (.aload_n 2) 1 4 := ⟨by decide +kernel, rfl⟩
theorem dL_say_4 : dc cL_say 4 (.invokevirtual 22) 3 7 := ⟨by decide +kernel, rfl⟩
theorem dL_say_7 : dc cL_say 7 (.if_icmp .ge 19) 3 10 := ⟨by decide +kernel, rfl⟩
theorem dL_say_10 : dc cL_say 10 (.aload_n 0) 1 11 := ⟨by decide +kernel, rfl⟩
theorem dL_say_11 : dc cL_say 11 (.aload_n 1) 1 12 := ⟨by decide +kernel, rfl⟩
theorem dL_say_12 : dc cL_say 12 (.aload_n 2) 1 13 := ⟨by decide +kernel, rfl⟩
theorem dL_say_13 : dc cL_say 13 (.iload_n 3) 1 14 := ⟨by decide +kernel, rfl⟩
theorem dL_say_14 : dc cL_say 14 (.invokevirtual 28) 3 17 := ⟨by decide +kernel, rfl⟩
theorem dL_say_17 : dc cL_say 17 (.invokestatic 32) 3 20 := ⟨by decide +kernel, rfl⟩
theorem dL_say_20 : dc cL_say 20 (.iinc 3 1) 3 23 := ⟨by decide +kernel, rfl⟩
theorem dL_say_23 : dc cL_say 23 (.goto (-21)) 3 26 := ⟨by decide +kernel, rfl⟩
theorem dL_say_26 : dc cL_say 26 (.return_) 1 27 := ⟨by decide +kernel, rfl⟩
theorem nm_L_say : (yL_say).cls ≠ "java/lang/invoke/MethodHandle" ∧ (yL_say).cls ≠ "java/lang/invoke/VarHandle" ∧ (parseMethodDescriptor (yL_say).desc).map (fun d => d.parameters.length) = some 3 := ⟨by decide +kernel, by decide +kernel, by decide +kernel⟩
set_option maxRecDepth 100000 in
set_option maxHeartbeats 4000000 in
theorem s_L_say_2 {ad : Nat → Nat} {cy : Nat → ClassId} {x : KX} (G : KG ad cy x cL_say "NoonGuidesLaw" 4 (some none) 5) {a0 : Nat} {a1 : Nat} {q2 : Nat} {b Ln : Nat} {xs : Nat → Int32} {aK aV : Nat → Nat} (GW : KWx b Ln xs aK aV x) (h0 : kty a0 = 11) (h1 : kty a1 = 34) (h2 : q2 < 16) {y : KM} : ∀ (n : Nat) (w3 : Int32) (M : KM), lp_L_say_2 n a0 a1 q2 w3 M = some y → KV ad cy x (none, y) 2 [(0, .ref (ad a0)), (1, .ref (ad a1)), (2, .ref (aK q2)), (3, .int w3)] [] M := by
  intro n
  induction n with
  | zero =>
    intro w3 M hf
    cases hf
  | succ n ih =>
    intro w3 M hf
    rw [lp_L_say_2] at hf
    refine v_iload_n G dL_say_2 3 rfl ?_
    refine v_aload_n G dL_say_3 2 rfl ?_
    refine v_callT2 [] G GW h2 (c_J0_length h2) rfl t_940 t_43 t_44 t_4 t_45 nm_J0_length_8abf5 (by decide) (by decide) rfl rfl (Nat.le_of_ble_eq_true rfl) dL_say_4 (kv_ri ?_)
    refine v_icmp_ge 26 G dL_say_7 (by decide) (fun h4 => ?_) (fun h4 => ?_)
    · replace hf := (if_pos h4).symm.trans hf
      obtain rfl := Option.some.inj hf
      exact v_vret G dL_say_26
    · replace hf := (if_neg h4).symm.trans hf
      refine v_aload_n G dL_say_10 0 rfl ?_
      refine v_aload_n G dL_say_11 1 rfl ?_
      refine v_aload_n G dL_say_12 2 rfl ?_
      refine v_iload_n G dL_say_13 3 rfl ?_
      obtain ⟨g1, hf⟩ := gd_e hf
      refine v_callT2 [.int w3] G GW h2 (c_J0_charAt h2 g1) rfl t_941 t_53 t_54 t_4 t_55 nm_J0_charAt_5068e (by decide) (by decide) rfl rfl (Nat.le_of_ble_eq_true rfl) dL_say_14 (kv_ri ?_)
      obtain ⟨v2, hcv2, hf⟩ := bd_e hf
      refine v_callS [.ref (ad a0), .ref (ad a1), .int (sCh q2 (w3).toNatClampNeg)] G (c_L_put n h0 h1 hcv2) t_942 t_943 t_0 t_944 nm_L_put (by decide) (by decide) rfl rfl (Nat.le_of_ble_eq_true rfl) dL_say_17 (kv_rv ?_)
      obtain ⟨v3, ev3⟩ : ∃ q : Int32, q = w3 + (1 : Int32) := ⟨_, rfl⟩
      replace hf := lt_e hf ev3
      refine v_iinc v3 [(3, .int v3), (0, .ref (ad a0)), (1, .ref (ad a1)), (2, .ref (aK q2))] G dL_say_20 3 rfl (by rw [ev3]; rfl) (by decide) rfl ?_
      refine v_goto 2 G dL_say_23 (by decide) ?_
      refine v_sub _ [1, 2, 3, 0] rfl ?_
      exact ih v3 v2 hf
set_option maxRecDepth 100000 in
set_option maxHeartbeats 4000000 in
theorem c_L_say {l : Launch} {ad : Nat → Nat} {cy : Nat → ClassId} {D : va_G} {z : Nat} (n : Nat) {a0 : Nat} {a1 : Nat} {q2 : Nat} {b Ln : Nat} {xs : Nat → Int32} {aK aV : Nat → Nat} {M : KM} {y : KM} (h0 : kty a0 = 11) (h1 : kty a1 = 34) (h2 : q2 < 16) (hf : f_L_say n a0 a1 q2 M = some y) : KC2 l ad cy D z b Ln xs aK aV yL_say cL_say 4 none 5 [.ref (ad a0), .ref (ad a1), .ref (aK q2)] M (none, y) := by
  refine kv_enter2 (by decide +kernel) (Nat.le_of_ble_eq_true rfl) ?_
  intro x hl hD hz G GW
  subst hl hD hz
  unfold f_L_say at hf
  have G : KG ad cy x cL_say "NoonGuidesLaw" 4 (some none) 5 := G
  show KV ad cy x (none, y) 0 [(0, .ref (ad a0)), (1, .ref (ad a1)), (2, .ref (aK q2))] [] M
  refine v_iconst (0 : Int32) G dL_say_0 (by decide) ?_
  refine v_istore_n [(3, .int (0 : Int32)), (0, .ref (ad a0)), (1, .ref (ad a1)), (2, .ref (aK q2))] G dL_say_1 (by decide) rfl ?_
  refine v_sub _ [1, 2, 3, 0] rfl ?_
  refine s_L_say_2 G GW h0 h1 h2 n (0 : Int32) M hf
abbrev cL_load : ByteArray := method_6_code
def yL_load : MethodName := ⟨RL, "load", "(LNoonGuides;[I)I"⟩
theorem dL_load_0 : dc cL_load 0 (.aload_n 1) 1 1 := ⟨by decide +kernel, rfl⟩
theorem dL_load_1 : dc cL_load 1 (.bipush 21) 2 3 := ⟨by decide +kernel, rfl⟩
theorem dL_load_3 : dc cL_load 3 (.iaload) 1 4 := ⟨by decide +kernel, rfl⟩
theorem dL_load_4 : dc cL_load 4 (.istore_n 2) 1 5 := ⟨by decide +kernel, rfl⟩
theorem dL_load_5 : dc cL_load 5 (.aload_n 1) 1 6 := ⟨by decide +kernel, rfl⟩
theorem dL_load_6 : dc cL_load 6 (.bipush 20) 2 8 := ⟨by decide +kernel, rfl⟩
theorem dL_load_8 : dc cL_load 8 (.iaload) 1 9 := ⟨by decide +kernel, rfl⟩
theorem dL_load_9 : dc cL_load 9 (.ifCond .le 8) 3 12 := ⟨by decide +kernel, rfl⟩
theorem dL_load_12 : dc cL_load 12 (.aload_n 0) 1 13 := ⟨by decide +kernel, rfl⟩
theorem dL_load_13 : dc cL_load 13 (.aload_n 1) 1 14 := ⟨by decide +kernel, rfl⟩
theorem dL_load_14 : dc cL_load 14 (.invokestatic 7) 3 17 := ⟨by decide +kernel, rfl⟩
theorem dL_load_17 : dc cL_load 17 (.aload_n 1) 1 18 := ⟨by decide +kernel, rfl⟩
theorem dL_load_18 : dc cL_load 18 (.bipush 21) 2 20 := ⟨by decide +kernel, rfl⟩
theorem dL_load_20 : dc cL_load 20 (.iconst 0) 1 21 := ⟨by decide +kernel, rfl⟩
theorem dL_load_21 : dc cL_load 21 (.iastore) 1 22 := ⟨by decide +kernel, rfl⟩
theorem dL_load_22 : dc cL_load 22 (.aload_n 1) 1 23 := ⟨by decide +kernel, rfl⟩
theorem dL_load_23 : dc cL_load 23 (.bipush 22) 2 25 := ⟨by decide +kernel, rfl⟩
theorem dL_load_25 : dc cL_load 25 (.iaload) 1 26 := ⟨by decide +kernel, rfl⟩
theorem dL_load_26 : dc cL_load 26 (.ifCond .ne 11) 3 29 := ⟨by decide +kernel, rfl⟩
theorem dL_load_29 : dc cL_load 29 (.aload_n 0) 1 30 := ⟨by decide +kernel, rfl⟩
theorem dL_load_30 : dc cL_load 30 (.iload_n 2) 1 31 := ⟨by decide +kernel, rfl⟩
theorem dL_load_31 : dc cL_load 31 (.invokevirtual 36) 3 34 := ⟨by decide +kernel, rfl⟩
theorem dL_load_34 : dc cL_load 34 (.goto 8) 3 37 := ⟨by decide +kernel, rfl⟩
theorem dL_load_37 : dc cL_load 37 (.aload_n 0) 1 38 := ⟨by decide +kernel, rfl⟩
theorem dL_load_38 : dc cL_load 38 (.iload_n 2) 1 39 := ⟨by decide +kernel, rfl⟩
theorem dL_load_39 : dc cL_load 39 (.invokevirtual 40) 3 42 := ⟨by decide +kernel, rfl⟩
theorem dL_load_42 : dc cL_load 42 (.ireturn) 1 43 := ⟨by decide +kernel, rfl⟩
theorem nm_L_load : (yL_load).cls ≠ "java/lang/invoke/MethodHandle" ∧ (yL_load).cls ≠ "java/lang/invoke/VarHandle" ∧ (parseMethodDescriptor (yL_load).desc).map (fun d => d.parameters.length) = some 2 := ⟨by decide +kernel, by decide +kernel, by decide +kernel⟩
set_option maxRecDepth 100000 in
set_option maxHeartbeats 4000000 in
theorem c_L_load {l : Launch} {ad : Nat → Nat} {cy : Nat → ClassId} {D : va_G} {z : Nat} (n : Nat) {a0 : Nat} {a1 : Nat} {M : KM} {y : (Int32 × KM)} (h0 : kty a0 = 11) (h1 : kty a1 = 34) (hf : f_L_load n a0 a1 M = some y) : KC l ad cy D z yL_load cL_load 3 (some .int) 9 [.ref (ad a0), .ref (ad a1)] M (some (.int y.1), y.2) := by
  refine kv_enter (by decide +kernel) (Nat.le_of_ble_eq_true rfl) ?_
  intro x hl hD hz G
  subst hl hD hz
  unfold f_L_load at hf
  have G : KG ad cy x cL_load "NoonGuidesLaw" 3 (some (some .int)) 9 := G
  show KV ad cy x (some (.int y.1), y.2) 0 [(0, .ref (ad a0)), (1, .ref (ad a1))] [] M
  refine v_aload_n G dL_load_0 1 rfl ?_
  refine v_bipush (21 : Int32) G dL_load_1 (by decide) ?_
  obtain ⟨g1, hf⟩ := gd_e hf
  refine al_34 G h1 g1 dL_load_3 ?_
  refine v_nmi (fun v2 ev2 => ?_)
  replace hf := lt_e hf ev2
  refine v_istore_n [(2, .int v2), (0, .ref (ad a0)), (1, .ref (ad a1))] G dL_load_4 (by decide) rfl ?_
  refine v_aload_n G dL_load_5 2 rfl ?_
  refine v_bipush (20 : Int32) G dL_load_6 (by decide) ?_
  obtain ⟨g3, hf⟩ := gd_e hf
  refine al_34 G h1 g3 dL_load_8 ?_
  obtain ⟨j17, ej17, hf⟩ := lt_j hf
  have hj17 : ∀ (M4 : KM), j17 M4 = some y → KV ad cy x (some (.int y.1), y.2) 17 [(0, .ref (ad a0)), (1, .ref (ad a1)), (2, .int v2)] [] M4 := by
    intro M4 hf
    rw [ej17] at hf
    refine v_aload_n G dL_load_17 1 rfl ?_
    refine v_bipush (21 : Int32) G dL_load_18 (by decide) ?_
    refine v_iconst (0 : Int32) G dL_load_20 (by decide) ?_
    obtain ⟨g5, hf⟩ := gd_e hf
    refine as_34 G h1 g5 dL_load_21 ?_
    refine v_nmM (fun M6 eM6 => ?_)
    replace hf := lt_e hf eM6
    refine v_aload_n G dL_load_22 1 rfl ?_
    refine v_bipush (22 : Int32) G dL_load_23 (by decide) ?_
    obtain ⟨g7, hf⟩ := gd_e hf
    refine al_34 G h1 g7 dL_load_25 ?_
    refine v_if_ne 37 G dL_load_26 (by decide) (fun h10 => ?_) (fun h10 => ?_)
    · replace hf := (if_neg h10).symm.trans hf
      refine v_aload_n G dL_load_37 0 rfl ?_
      refine v_iload_n G dL_load_38 2 rfl ?_
      obtain ⟨v8, hcv8, hf⟩ := bd_e hf
      refine v_callV [.int v2] G (c_X11_days n h0 hcv8) h0 (by decide) rfl rfl rfl t_1182 t_1183 t_1184 t_1 t_1185 nm_X11_days (by decide) (by decide) rfl rfl (Nat.le_of_ble_eq_true rfl) dL_load_39 (kv_ri ?_)
      obtain rfl := Option.some.inj hf
      exact v_iret G dL_load_42
    · replace hf := (if_pos h10).symm.trans hf
      refine v_aload_n G dL_load_29 0 rfl ?_
      refine v_iload_n G dL_load_30 2 rfl ?_
      obtain ⟨v9, hcv9, hf⟩ := bd_e hf
      refine v_callV [.int v2] G (c_X11_land n h0 hcv9) h0 (by decide) rfl rfl rfl t_983 t_984 t_985 t_1 t_986 nm_X11_land (by decide) (by decide) rfl rfl (Nat.le_of_ble_eq_true rfl) dL_load_31 (kv_ri ?_)
      refine v_goto 42 G dL_load_34 (by decide) ?_
      obtain rfl := Option.some.inj hf
      exact v_iret G dL_load_42
  refine v_if_le 17 G dL_load_9 (by decide) (fun h12 => ?_) (fun h12 => ?_)
  · replace hf := (if_pos h12).symm.trans hf
    refine v_sub _ [1, 2, 0] rfl ?_
    exact hj17 M hf
  · replace hf := (if_neg h12).symm.trans hf
    refine v_aload_n G dL_load_12 1 rfl ?_
    refine v_aload_n G dL_load_13 2 rfl ?_
    obtain ⟨v11, hcv11, hf⟩ := bd_e hf
    refine v_callS [.ref (ad a0), .ref (ad a1)] G (c_L_feed n h0 h1 hcv11) t_945 t_946 t_0 t_947 nm_L_feed (by decide) (by decide) rfl rfl (Nat.le_of_ble_eq_true rfl) dL_load_14 (kv_rv ?_)
    refine v_sub _ [1, 2, 0] rfl ?_
    exact hj17 v11 hf
abbrev cL_number : ByteArray := method_7_code
def yL_number : MethodName := ⟨RL, "number", "(LNoonGuides;[II)V"⟩
theorem dL_number_0 : dc cL_number 0 (.aload_n 0) 1 1 := ⟨by decide +kernel, rfl⟩
theorem dL_number_1 : dc cL_number 1 (.aload_n 1) 1 2 := ⟨by decide +kernel, rfl⟩
theorem dL_number_2 : dc cL_number 2 (.bipush 32) 2 4 := ⟨by decide +kernel, rfl⟩
theorem dL_number_4 : dc cL_number 4 (.invokestatic 32) 3 7 := ⟨by decide +kernel, rfl⟩
theorem dL_number_7 : dc cL_number 7 (.iload_n 2) 1 8 := ⟨by decide +kernel, rfl⟩
theorem dL_number_8 : dc cL_number 8 (.sipush 999) 3 11 := ⟨by decide +kernel, rfl⟩
theorem dL_number_11 : dc cL_number 11 (.if_icmp .le 16) 3 14 := ⟨by decide +kernel, rfl⟩
theorem dL_number_14 : dc cL_number 14 (.aload_n 0) 1 15 := ⟨by decide +kernel, rfl⟩
theorem dL_number_15 : dc cL_number 15 (.aload_n 1) 1 16 := ⟨by decide +kernel, rfl⟩
theorem dL_number_16 : dc cL_number 16 (.bipush 48) 2 18 := ⟨by decide +kernel, rfl⟩
theorem dL_number_18 : dc cL_number 18 (.iload_n 2) 1 19 := ⟨by decide +kernel, rfl⟩
theorem dL_number_19 : dc cL_number 19 (.sipush 1000) 3 22 := ⟨by decide +kernel, rfl⟩
theorem dL_number_22 : dc cL_number 22 (.idiv) 1 23 := ⟨by decide +kernel, rfl⟩
theorem dL_number_23 : dc cL_number 23 (.iadd) 1 24 := ⟨by decide +kernel, rfl⟩
theorem dL_number_24 : dc cL_number 24 (.invokestatic 32) 3 27 := ⟨by decide +kernel, rfl⟩
theorem dL_number_27 : dc cL_number 27 (.iload_n 2) 1 28 := ⟨by decide +kernel, rfl⟩
theorem dL_number_28 : dc cL_number 28 (.bipush 99) 2 30 := ⟨by decide +kernel, rfl⟩
theorem dL_number_30 : dc cL_number 30 (.if_icmp .le 18) 3 33 := ⟨by decide +kernel, rfl⟩
theorem dL_number_33 : dc cL_number 33 (.aload_n 0) 1 34 := ⟨by decide +kernel, rfl⟩
theorem dL_number_34 : dc cL_number 34 (.aload_n 1) 1 35 := ⟨by decide +kernel, rfl⟩
theorem dL_number_35 : dc cL_number 35 (.bipush 48) 2 37 := ⟨by decide +kernel, rfl⟩
theorem dL_number_37 : dc cL_number 37 (.iload_n 2) 1 38 := ⟨by decide +kernel, rfl⟩
theorem dL_number_38 : dc cL_number 38 (.bipush 100) 2 40 := ⟨by decide +kernel, rfl⟩
theorem dL_number_40 : dc cL_number 40 (.idiv) 1 41 := ⟨by decide +kernel, rfl⟩
theorem dL_number_41 : dc cL_number 41 (.bipush 10) 2 43 := ⟨by decide +kernel, rfl⟩
theorem dL_number_43 : dc cL_number 43 (.irem) 1 44 := ⟨by decide +kernel, rfl⟩
theorem dL_number_44 : dc cL_number 44 (.iadd) 1 45 := ⟨by decide +kernel, rfl⟩
theorem dL_number_45 : dc cL_number 45 (.invokestatic 32) 3 48 := ⟨by decide +kernel, rfl⟩
theorem dL_number_48 : dc cL_number 48 (.iload_n 2) 1 49 := ⟨by decide +kernel, rfl⟩
theorem dL_number_49 : dc cL_number 49 (.bipush 9) 2 51 := ⟨by decide +kernel, rfl⟩
theorem dL_number_51 : dc cL_number 51 (.if_icmp .le 18) 3 54 := ⟨by decide +kernel, rfl⟩
theorem dL_number_54 : dc cL_number 54 (.aload_n 0) 1 55 := ⟨by decide +kernel, rfl⟩
theorem dL_number_55 : dc cL_number 55 (.aload_n 1) 1 56 := ⟨by decide +kernel, rfl⟩
theorem dL_number_56 : dc cL_number 56 (.bipush 48) 2 58 := ⟨by decide +kernel, rfl⟩
theorem dL_number_58 : dc cL_number 58 (.iload_n 2) 1 59 := ⟨by decide +kernel, rfl⟩
theorem dL_number_59 : dc cL_number 59 (.bipush 10) 2 61 := ⟨by decide +kernel, rfl⟩
theorem dL_number_61 : dc cL_number 61 (.idiv) 1 62 := ⟨by decide +kernel, rfl⟩
theorem dL_number_62 : dc cL_number 62 (.bipush 10) 2 64 := ⟨by decide +kernel, rfl⟩
theorem dL_number_64 : dc cL_number 64 (.irem) 1 65 := ⟨by decide +kernel, rfl⟩
theorem dL_number_65 : dc cL_number 65 (.iadd) 1 66 := ⟨by decide +kernel, rfl⟩
theorem dL_number_66 : dc cL_number 66 (.invokestatic 32) 3 69 := ⟨by decide +kernel, rfl⟩
theorem dL_number_69 : dc cL_number 69 (.aload_n 0) 1 70 := ⟨by decide +kernel, rfl⟩
theorem dL_number_70 : dc cL_number 70 (.aload_n 1) 1 71 := ⟨by decide +kernel, rfl⟩
theorem dL_number_71 : dc cL_number 71 (.bipush 48) 2 73 := ⟨by decide +kernel, rfl⟩
theorem dL_number_73 : dc cL_number 73 (.iload_n 2) 1 74 := ⟨by decide +kernel, rfl⟩
theorem dL_number_74 : dc cL_number 74 (.bipush 10) 2 76 := ⟨by decide +kernel, rfl⟩
theorem dL_number_76 : dc cL_number 76 (.irem) 1 77 := ⟨by decide +kernel, rfl⟩
theorem dL_number_77 : dc cL_number 77 (.iadd) 1 78 := ⟨by decide +kernel, rfl⟩
theorem dL_number_78 : dc cL_number 78 (.invokestatic 32) 3 81 := ⟨by decide +kernel, rfl⟩
theorem dL_number_81 : dc cL_number 81 (.return_) 1 82 := ⟨by decide +kernel, rfl⟩
theorem nm_L_number : (yL_number).cls ≠ "java/lang/invoke/MethodHandle" ∧ (yL_number).cls ≠ "java/lang/invoke/VarHandle" ∧ (parseMethodDescriptor (yL_number).desc).map (fun d => d.parameters.length) = some 3 := ⟨by decide +kernel, by decide +kernel, by decide +kernel⟩
set_option maxRecDepth 100000 in
set_option maxHeartbeats 4000000 in
theorem c_L_number {l : Launch} {ad : Nat → Nat} {cy : Nat → ClassId} {D : va_G} {z : Nat} (n : Nat) {a0 : Nat} {a1 : Nat} {p2 : Int32} {M : KM} {y : KM} (h0 : kty a0 = 11) (h1 : kty a1 = 34) (hf : f_L_number n a0 a1 p2 M = some y) : KC l ad cy D z yL_number cL_number 3 none 5 [.ref (ad a0), .ref (ad a1), .int p2] M (none, y) := by
  refine kv_enter (by decide +kernel) (Nat.le_of_ble_eq_true rfl) ?_
  intro x hl hD hz G
  subst hl hD hz
  unfold f_L_number at hf
  have G : KG ad cy x cL_number "NoonGuidesLaw" 3 (some none) 5 := G
  show KV ad cy x (none, y) 0 [(0, .ref (ad a0)), (1, .ref (ad a1)), (2, .int p2)] [] M
  refine v_aload_n G dL_number_0 0 rfl ?_
  refine v_aload_n G dL_number_1 1 rfl ?_
  refine v_bipush (32 : Int32) G dL_number_2 (by decide) ?_
  obtain ⟨v1, hcv1, hf⟩ := bd_e hf
  refine v_callS [.ref (ad a0), .ref (ad a1), .int (32 : Int32)] G (c_L_put n h0 h1 hcv1) t_942 t_943 t_0 t_944 nm_L_put (by decide) (by decide) rfl rfl (Nat.le_of_ble_eq_true rfl) dL_number_4 (kv_rv ?_)
  refine v_iload_n G dL_number_7 2 rfl ?_
  refine v_sipush (999 : Int32) G dL_number_8 (by decide) ?_
  obtain ⟨j27, ej27, hf⟩ := lt_j hf
  have hj27 : ∀ (M2 : KM), j27 M2 = some y → KV ad cy x (none, y) 27 [(0, .ref (ad a0)), (1, .ref (ad a1)), (2, .int p2)] [] M2 := by
    intro M2 hf
    rw [ej27] at hf
    refine v_iload_n G dL_number_27 2 rfl ?_
    refine v_bipush (99 : Int32) G dL_number_28 (by decide) ?_
    obtain ⟨j48, ej48, hf⟩ := lt_j hf
    have hj48 : ∀ (M3 : KM), j48 M3 = some y → KV ad cy x (none, y) 48 [(0, .ref (ad a0)), (1, .ref (ad a1)), (2, .int p2)] [] M3 := by
      intro M3 hf
      rw [ej48] at hf
      refine v_iload_n G dL_number_48 2 rfl ?_
      refine v_bipush (9 : Int32) G dL_number_49 (by decide) ?_
      obtain ⟨j69, ej69, hf⟩ := lt_j hf
      have hj69 : ∀ (M4 : KM), j69 M4 = some y → KV ad cy x (none, y) 69 [(0, .ref (ad a0)), (1, .ref (ad a1)), (2, .int p2)] [] M4 := by
        intro M4 hf
        rw [ej69] at hf
        refine v_aload_n G dL_number_69 0 rfl ?_
        refine v_aload_n G dL_number_70 1 rfl ?_
        refine v_bipush (48 : Int32) G dL_number_71 (by decide) ?_
        refine v_iload_n G dL_number_73 2 rfl ?_
        refine v_bipush (10 : Int32) G dL_number_74 (by decide) ?_
        refine v_irem G dL_number_76 (by decide) ?_
        refine v_iadd G dL_number_77 ?_
        obtain ⟨v5, hcv5, hf⟩ := bd_e hf
        refine v_callS [.ref (ad a0), .ref (ad a1), .int ((48 : Int32) + (p2 - p2 / (10 : Int32) * (10 : Int32)))] G (c_L_put n h0 h1 hcv5) t_942 t_943 t_0 t_944 nm_L_put (by decide) (by decide) rfl rfl (Nat.le_of_ble_eq_true rfl) dL_number_78 (kv_rv ?_)
        obtain rfl := Option.some.inj hf
        exact v_vret G dL_number_81
      refine v_icmp_le 69 G dL_number_51 (by decide) (fun h7 => ?_) (fun h7 => ?_)
      · replace hf := (if_pos h7).symm.trans hf
        refine v_sub _ [0, 1, 2] rfl ?_
        exact hj69 M3 hf
      · replace hf := (if_neg h7).symm.trans hf
        refine v_aload_n G dL_number_54 0 rfl ?_
        refine v_aload_n G dL_number_55 1 rfl ?_
        refine v_bipush (48 : Int32) G dL_number_56 (by decide) ?_
        refine v_iload_n G dL_number_58 2 rfl ?_
        refine v_bipush (10 : Int32) G dL_number_59 (by decide) ?_
        refine v_idiv G dL_number_61 (by decide) ?_
        refine v_bipush (10 : Int32) G dL_number_62 (by decide) ?_
        refine v_irem G dL_number_64 (by decide) ?_
        refine v_iadd G dL_number_65 ?_
        obtain ⟨v6, hcv6, hf⟩ := bd_e hf
        refine v_callS [.ref (ad a0), .ref (ad a1), .int ((48 : Int32) + ((p2 / (10 : Int32)) - (p2 / (10 : Int32)) / (10 : Int32) * (10 : Int32)))] G (c_L_put n h0 h1 hcv6) t_942 t_943 t_0 t_944 nm_L_put (by decide) (by decide) rfl rfl (Nat.le_of_ble_eq_true rfl) dL_number_66 (kv_rv ?_)
        refine v_sub _ [0, 1, 2] rfl ?_
        exact hj69 v6 hf
    refine v_icmp_le 48 G dL_number_30 (by decide) (fun h9 => ?_) (fun h9 => ?_)
    · replace hf := (if_pos h9).symm.trans hf
      refine v_sub _ [0, 1, 2] rfl ?_
      exact hj48 M2 hf
    · replace hf := (if_neg h9).symm.trans hf
      refine v_aload_n G dL_number_33 0 rfl ?_
      refine v_aload_n G dL_number_34 1 rfl ?_
      refine v_bipush (48 : Int32) G dL_number_35 (by decide) ?_
      refine v_iload_n G dL_number_37 2 rfl ?_
      refine v_bipush (100 : Int32) G dL_number_38 (by decide) ?_
      refine v_idiv G dL_number_40 (by decide) ?_
      refine v_bipush (10 : Int32) G dL_number_41 (by decide) ?_
      refine v_irem G dL_number_43 (by decide) ?_
      refine v_iadd G dL_number_44 ?_
      obtain ⟨v8, hcv8, hf⟩ := bd_e hf
      refine v_callS [.ref (ad a0), .ref (ad a1), .int ((48 : Int32) + ((p2 / (100 : Int32)) - (p2 / (100 : Int32)) / (10 : Int32) * (10 : Int32)))] G (c_L_put n h0 h1 hcv8) t_942 t_943 t_0 t_944 nm_L_put (by decide) (by decide) rfl rfl (Nat.le_of_ble_eq_true rfl) dL_number_45 (kv_rv ?_)
      refine v_sub _ [0, 1, 2] rfl ?_
      exact hj48 v8 hf
  refine v_icmp_le 27 G dL_number_11 (by decide) (fun h11 => ?_) (fun h11 => ?_)
  · replace hf := (if_pos h11).symm.trans hf
    refine v_sub _ [0, 1, 2] rfl ?_
    exact hj27 v1 hf
  · replace hf := (if_neg h11).symm.trans hf
    refine v_aload_n G dL_number_14 0 rfl ?_
    refine v_aload_n G dL_number_15 1 rfl ?_
    refine v_bipush (48 : Int32) G dL_number_16 (by decide) ?_
    refine v_iload_n G dL_number_18 2 rfl ?_
    refine v_sipush (1000 : Int32) G dL_number_19 (by decide) ?_
    refine v_idiv G dL_number_22 (by decide) ?_
    refine v_iadd G dL_number_23 ?_
    obtain ⟨v10, hcv10, hf⟩ := bd_e hf
    refine v_callS [.ref (ad a0), .ref (ad a1), .int ((48 : Int32) + (p2 / (1000 : Int32)))] G (c_L_put n h0 h1 hcv10) t_942 t_943 t_0 t_944 nm_L_put (by decide) (by decide) rfl rfl (Nat.le_of_ble_eq_true rfl) dL_number_24 (kv_rv ?_)
    refine v_sub _ [0, 1, 2] rfl ?_
    exact hj27 v10 hf
abbrev cL_name : ByteArray := method_8_code
def yL_name : MethodName := ⟨RL, "name", "(LNoonGuides;[III)V"⟩
theorem dL_name_0 : dc cL_name 0 (.aload_n 0) 1 1 := ⟨by decide +kernel, rfl⟩
theorem dL_name_1 : dc cL_name 1 (.aload_n 1) 1 2 := ⟨by decide +kernel, rfl⟩
theorem dL_name_2 : dc cL_name 2 (.bipush 32) 2 4 := ⟨by decide +kernel, rfl⟩
theorem dL_name_4 : dc cL_name 4 (.invokestatic 32) 3 7 := ⟨by decide +kernel, rfl⟩
theorem dL_name_7 : dc cL_name 7 (.aload_n 0) 1 8 := ⟨by decide +kernel, rfl⟩
theorem dL_name_8 : dc cL_name 8 (.aload_n 1) 1 9 := ⟨by decide +kernel, rfl⟩
theorem dL_name_9 : dc cL_name 9 (.iload_n 2) 1 10 := ⟨by decide +kernel, rfl⟩
theorem dL_name_10 : dc cL_name 10 (.invokestatic 32) 3 13 := ⟨by decide +kernel, rfl⟩
theorem dL_name_13 : dc cL_name 13 (.aload_n 0) 1 14 := ⟨by decide +kernel, rfl⟩
theorem dL_name_14 : dc cL_name 14 (.aload_n 1) 1 15 := ⟨by decide +kernel, rfl⟩
theorem dL_name_15 : dc cL_name 15 (.bipush 97) 2 17 := ⟨by decide +kernel, rfl⟩
theorem dL_name_17 : dc cL_name 17 (.iload_n 3) 1 18 := ⟨by decide +kernel, rfl⟩
theorem dL_name_18 : dc cL_name 18 (.iadd) 1 19 := ⟨by decide +kernel, rfl⟩
theorem dL_name_19 : dc cL_name 19 (.invokestatic 32) 3 22 := ⟨by decide +kernel, rfl⟩
theorem dL_name_22 : dc cL_name 22 (.return_) 1 23 := ⟨by decide +kernel, rfl⟩
theorem nm_L_name : (yL_name).cls ≠ "java/lang/invoke/MethodHandle" ∧ (yL_name).cls ≠ "java/lang/invoke/VarHandle" ∧ (parseMethodDescriptor (yL_name).desc).map (fun d => d.parameters.length) = some 4 := ⟨by decide +kernel, by decide +kernel, by decide +kernel⟩
set_option maxRecDepth 100000 in
set_option maxHeartbeats 4000000 in
theorem c_L_name {l : Launch} {ad : Nat → Nat} {cy : Nat → ClassId} {D : va_G} {z : Nat} (n : Nat) {a0 : Nat} {a1 : Nat} {p2 : Int32} {p3 : Int32} {M : KM} {y : KM} (h0 : kty a0 = 11) (h1 : kty a1 = 34) (hf : f_L_name n a0 a1 p2 p3 M = some y) : KC l ad cy D z yL_name cL_name 4 none 5 [.ref (ad a0), .ref (ad a1), .int p2, .int p3] M (none, y) := by
  refine kv_enter (by decide +kernel) (Nat.le_of_ble_eq_true rfl) ?_
  intro x hl hD hz G
  subst hl hD hz
  unfold f_L_name at hf
  have G : KG ad cy x cL_name "NoonGuidesLaw" 4 (some none) 5 := G
  show KV ad cy x (none, y) 0 [(0, .ref (ad a0)), (1, .ref (ad a1)), (2, .int p2), (3, .int p3)] [] M
  refine v_aload_n G dL_name_0 0 rfl ?_
  refine v_aload_n G dL_name_1 1 rfl ?_
  refine v_bipush (32 : Int32) G dL_name_2 (by decide) ?_
  obtain ⟨v1, hcv1, hf⟩ := bd_e hf
  refine v_callS [.ref (ad a0), .ref (ad a1), .int (32 : Int32)] G (c_L_put n h0 h1 hcv1) t_942 t_943 t_0 t_944 nm_L_put (by decide) (by decide) rfl rfl (Nat.le_of_ble_eq_true rfl) dL_name_4 (kv_rv ?_)
  refine v_aload_n G dL_name_7 0 rfl ?_
  refine v_aload_n G dL_name_8 1 rfl ?_
  refine v_iload_n G dL_name_9 2 rfl ?_
  obtain ⟨v2, hcv2, hf⟩ := bd_e hf
  refine v_callS [.ref (ad a0), .ref (ad a1), .int p2] G (c_L_put n h0 h1 hcv2) t_942 t_943 t_0 t_944 nm_L_put (by decide) (by decide) rfl rfl (Nat.le_of_ble_eq_true rfl) dL_name_10 (kv_rv ?_)
  refine v_aload_n G dL_name_13 0 rfl ?_
  refine v_aload_n G dL_name_14 1 rfl ?_
  refine v_bipush (97 : Int32) G dL_name_15 (by decide) ?_
  refine v_iload_n G dL_name_17 3 rfl ?_
  refine v_iadd G dL_name_18 ?_
  obtain ⟨v3, hcv3, hf⟩ := bd_e hf
  refine v_callS [.ref (ad a0), .ref (ad a1), .int ((97 : Int32) + p3)] G (c_L_put n h0 h1 hcv3) t_942 t_943 t_0 t_944 nm_L_put (by decide) (by decide) rfl rfl (Nat.le_of_ble_eq_true rfl) dL_name_19 (kv_rv ?_)
  obtain rfl := Option.some.inj hf
  exact v_vret G dL_name_22
abbrev cL_lay : ByteArray := method_9_code
def yL_lay : MethodName := ⟨RL, "lay", "(LNoonGuides;[I[I)Z"⟩
theorem dL_lay_0 : dc cL_lay 0 (.aload_n 1) 1 1 := ⟨by decide +kernel, rfl⟩
theorem dL_lay_1 : dc cL_lay 1 (.bipush 22) 2 3 := ⟨by decide +kernel, rfl⟩
theorem dL_lay_3 : dc cL_lay 3 (.iconst 0) 1 4 := ⟨by decide +kernel, rfl⟩
theorem dL_lay_4 : dc cL_lay 4 (.iastore) 1 5 := ⟨by decide +kernel, rfl⟩
theorem dL_lay_5 : dc cL_lay 5 (.aload_n 0) 1 6 := ⟨by decide +kernel, rfl⟩
theorem dL_lay_6 : dc cL_lay 6 (.aload_n 1) 1 7 := ⟨by decide +kernel, rfl⟩
theorem dL_lay_7 : dc cL_lay 7 (.ldc 43) 2 9 := ⟨by decide +kernel, rfl⟩
theorem dL_lay_9 : dc cL_lay 9 (.invokestatic 45) 3 12 := ⟨by decide +kernel, rfl⟩
theorem dL_lay_12 : dc cL_lay 12 (.aload_n 0) 1 13 := ⟨by decide +kernel, rfl⟩
theorem dL_lay_13 : dc cL_lay 13 (.aload_n 1) 1 14 := ⟨by decide +kernel, rfl⟩
theorem dL_lay_14 : dc cL_lay 14 (.aload_n 2) 1 15 := ⟨by decide +kernel, rfl⟩
theorem dL_lay_15 : dc cL_lay 15 (.iconst 3) 1 16 := ⟨by decide +kernel, rfl⟩
theorem dL_lay_16 : dc cL_lay 16 (.iaload) 1 17 := ⟨by decide +kernel, rfl⟩
theorem dL_lay_17 : dc cL_lay 17 (.invokestatic 49) 3 20 := ⟨by decide +kernel, rfl⟩
theorem dL_lay_20 : dc cL_lay 20 (.aload_n 0) 1 21 := ⟨by decide +kernel, rfl⟩
theorem dL_lay_21 : dc cL_lay 21 (.aload_n 1) 1 22 := ⟨by decide +kernel, rfl⟩
theorem dL_lay_22 : dc cL_lay 22 (.ldc 52) 2 24 := ⟨by decide +kernel, rfl⟩
theorem dL_lay_24 : dc cL_lay 24 (.invokestatic 45) 3 27 := ⟨by decide +kernel, rfl⟩
theorem dL_lay_27 : dc cL_lay 27 (.aload_n 0) 1 28 := ⟨by decide +kernel, rfl⟩
theorem dL_lay_28 : dc cL_lay 28 (.aload_n 1) 1 29 := ⟨by decide +kernel, rfl⟩
theorem dL_lay_29 : dc cL_lay 29 (.aload_n 2) 1 30 := ⟨by decide +kernel, rfl⟩
theorem dL_lay_30 : dc cL_lay 30 (.iconst 4) 1 31 := ⟨by decide +kernel, rfl⟩
theorem dL_lay_31 : dc cL_lay 31 (.iaload) 1 32 := ⟨by decide +kernel, rfl⟩
theorem dL_lay_32 : dc cL_lay 32 (.invokestatic 49) 3 35 := ⟨by decide +kernel, rfl⟩
theorem dL_lay_35 : dc cL_lay 35 (.aload_n 0) 1 36 := ⟨by decide +kernel, rfl⟩
theorem dL_lay_36 : dc cL_lay 36 (.aload_n 1) 1 37 := ⟨by decide +kernel, rfl⟩
theorem dL_lay_37 : dc cL_lay 37 (.ldc 54) 2 39 := ⟨by decide +kernel, rfl⟩
theorem dL_lay_39 : dc cL_lay 39 (.invokestatic 45) 3 42 := ⟨by decide +kernel, rfl⟩
theorem dL_lay_42 : dc cL_lay 42 (.aload_n 0) 1 43 := ⟨by decide +kernel, rfl⟩
theorem dL_lay_43 : dc cL_lay 43 (.aload_n 1) 1 44 := ⟨by decide +kernel, rfl⟩
theorem dL_lay_44 : dc cL_lay 44 (.aload_n 2) 1 45 := ⟨by decide +kernel, rfl⟩
theorem dL_lay_45 : dc cL_lay 45 (.iconst 5) 1 46 := ⟨by decide +kernel, rfl⟩
theorem dL_lay_46 : dc cL_lay 46 (.iaload) 1 47 := ⟨by decide +kernel, rfl⟩
theorem dL_lay_47 : dc cL_lay 47 (.invokestatic 49) 3 50 := ⟨by decide +kernel, rfl⟩
theorem dL_lay_50 : dc cL_lay 50 (.aload_n 0) 1 51 := ⟨by decide +kernel, rfl⟩
theorem dL_lay_51 : dc cL_lay 51 (.aload_n 1) 1 52 := ⟨by decide +kernel, rfl⟩
theorem dL_lay_52 : dc cL_lay 52 (.ldc 56) 2 54 := ⟨by decide +kernel, rfl⟩
theorem dL_lay_54 : dc cL_lay 54 (.invokestatic 45) 3 57 := ⟨by decide +kernel, rfl⟩
theorem dL_lay_57 : dc cL_lay 57 (.aload_n 0) 1 58 := ⟨by decide +kernel, rfl⟩
theorem dL_lay_58 : dc cL_lay 58 (.aload_n 1) 1 59 := ⟨by decide +kernel, rfl⟩
theorem dL_lay_59 : dc cL_lay 59 (.aload_n 2) 1 60 := ⟨by decide +kernel, rfl⟩
theorem dL_lay_60 : dc cL_lay 60 (.bipush 6) 2 62 := ⟨by decide +kernel, rfl⟩
theorem dL_lay_62 : dc cL_lay 62 (.iaload) 1 63 := ⟨by decide +kernel, rfl⟩
theorem dL_lay_63 : dc cL_lay 63 (.invokestatic 49) 3 66 := ⟨by decide +kernel, rfl⟩
theorem dL_lay_66 : dc cL_lay 66 (.aload_n 0) 1 67 := ⟨by decide +kernel, rfl⟩
theorem dL_lay_67 : dc cL_lay 67 (.aload_n 1) 1 68 := ⟨by decide +kernel, rfl⟩
theorem dL_lay_68 : dc cL_lay 68 (.ldc 58) 2 70 := ⟨by decide +kernel, rfl⟩
theorem dL_lay_70 : dc cL_lay 70 (.invokestatic 45) 3 73 := ⟨by decide +kernel, rfl⟩
theorem dL_lay_73 : dc cL_lay 73 (.aload_n 0) 1 74 := ⟨by decide +kernel, rfl⟩
theorem dL_lay_74 : dc cL_lay 74 (.aload_n 1) 1 75 := ⟨by decide +kernel, rfl⟩
theorem dL_lay_75 : dc cL_lay 75 (.aload_n 2) 1 76 := ⟨by decide +kernel, rfl⟩
theorem dL_lay_76 : dc cL_lay 76 (.bipush 7) 2 78 := ⟨by decide +kernel, rfl⟩
theorem dL_lay_78 : dc cL_lay 78 (.iaload) 1 79 := ⟨by decide +kernel, rfl⟩
theorem dL_lay_79 : dc cL_lay 79 (.invokestatic 49) 3 82 := ⟨by decide +kernel, rfl⟩
theorem dL_lay_82 : dc cL_lay 82 (.aload_n 0) 1 83 := ⟨by decide +kernel, rfl⟩
theorem dL_lay_83 : dc cL_lay 83 (.aload_n 1) 1 84 := ⟨by decide +kernel, rfl⟩
theorem dL_lay_84 : dc cL_lay 84 (.ldc 60) 2 86 := ⟨by decide +kernel, rfl⟩
theorem dL_lay_86 : dc cL_lay 86 (.invokestatic 45) 3 89 := ⟨by decide +kernel, rfl⟩
theorem dL_lay_89 : dc cL_lay 89 (.aload_n 0) 1 90 := ⟨by decide +kernel, rfl⟩
theorem dL_lay_90 : dc cL_lay 90 (.aload_n 1) 1 91 := ⟨by decide +kernel, rfl⟩
theorem dL_lay_91 : dc cL_lay 91 (.aload_n 2) 1 92 := ⟨by decide +kernel, rfl⟩
theorem dL_lay_92 : dc cL_lay 92 (.bipush 8) 2 94 := ⟨by decide +kernel, rfl⟩
theorem dL_lay_94 : dc cL_lay 94 (.iaload) 1 95 := ⟨by decide +kernel, rfl⟩
theorem dL_lay_95 : dc cL_lay 95 (.invokestatic 49) 3 98 := ⟨by decide +kernel, rfl⟩
theorem dL_lay_98 : dc cL_lay 98 (.aload_n 0) 1 99 := ⟨by decide +kernel, rfl⟩
theorem dL_lay_99 : dc cL_lay 99 (.aload_n 1) 1 100 := ⟨by decide +kernel, rfl⟩
theorem dL_lay_100 : dc cL_lay 100 (.ldc 62) 2 102 := ⟨by decide +kernel, rfl⟩
theorem dL_lay_102 : dc cL_lay 102 (.invokestatic 45) 3 105 := ⟨by decide +kernel, rfl⟩
theorem dL_lay_105 : dc cL_lay 105 (.iconst 0) 1 106 := ⟨by decide +kernel, rfl⟩
theorem dL_lay_106 : dc cL_lay 106 (.istore_n 3) 1 107 := ⟨by decide +kernel, rfl⟩
theorem dL_lay_107 : dc cL_lay 107 (.iload_n 3) 1 108 := ⟨by decide +kernel, rfl⟩
theorem dL_lay_108 : dc cL_lay 108 (.aload_n 2) 1 109 := ⟨by decide +kernel, rfl⟩
theorem dL_lay_109 : dc cL_lay 109 (.iconst 0) 1 110 := ⟨by decide +kernel, rfl⟩
theorem dL_lay_110 : dc cL_lay 110 (.iaload) 1 111 := ⟨by decide +kernel, rfl⟩
theorem dL_lay_111 : dc cL_lay 111 (.if_icmp .ge 31) 3 114 := ⟨by decide +kernel, rfl⟩
theorem dL_lay_114 : dc cL_lay 114 (.aload_n 0) 1 115 := ⟨by decide +kernel, rfl⟩
theorem dL_lay_115 : dc cL_lay 115 (.aload_n 1) 1 116 := ⟨by decide +kernel, rfl⟩
theorem dL_lay_116 : dc cL_lay 116 (.ldc 64) 2 118 := ⟨by decide +kernel, rfl⟩
theorem dL_lay_118 : dc cL_lay 118 (.invokestatic 45) 3 121 := ⟨by decide +kernel, rfl⟩
theorem dL_lay_121 : dc cL_lay 121 (.aload_n 0) 1 122 := ⟨by decide +kernel, rfl⟩
theorem dL_lay_122 : dc cL_lay 122 (.aload_n 1) 1 123 := ⟨by decide +kernel, rfl⟩
theorem dL_lay_123 : dc cL_lay 123 (.bipush 108) 2 125 := ⟨by decide +kernel, rfl⟩
theorem dL_lay_125 : dc cL_lay 125 (.iload_n 3) 1 126 := ⟨by decide +kernel, rfl⟩
theorem dL_lay_126 : dc cL_lay 126 (.invokestatic 66) 3 129 := ⟨by decide +kernel, rfl⟩
theorem dL_lay_129 : dc cL_lay 129 (.aload_n 0) 1 130 := ⟨by decide +kernel, rfl⟩
theorem dL_lay_130 : dc cL_lay 130 (.aload_n 1) 1 131 := ⟨by decide +kernel, rfl⟩
theorem dL_lay_131 : dc cL_lay 131 (.ldc 62) 2 133 := ⟨by decide +kernel, rfl⟩
theorem dL_lay_133 : dc cL_lay 133 (.invokestatic 45) 3 136 := ⟨by decide +kernel, rfl⟩
theorem dL_lay_136 : dc cL_lay 136 (.iinc 3 1) 3 139 := ⟨by decide +kernel, rfl⟩
theorem dL_lay_139 : dc cL_lay 139 (.goto (-32)) 3 142 := ⟨by decide +kernel, rfl⟩
theorem dL_lay_142 : dc cL_lay 142 (.iconst 0) 1 143 := ⟨by decide +kernel, rfl⟩
theorem dL_lay_143 : dc cL_lay 143 (.istore_n 3) 1 144 := ⟨by decide +kernel, rfl⟩
theorem dL_lay_144 : dc cL_lay 144 (.iload_n 3) 1 145 := ⟨by decide +kernel, rfl⟩
theorem dL_lay_145 : dc cL_lay 145 (.aload_n 2) 1 146 := ⟨by decide +kernel, rfl⟩
theorem dL_lay_146 : dc cL_lay 146 (.iconst 1) 1 147 := ⟨by decide +kernel, rfl⟩
theorem dL_lay_147 : dc cL_lay 147 (.iaload) 1 148 := ⟨by decide +kernel, rfl⟩
theorem dL_lay_148 : dc cL_lay 148 (.if_icmp .ge 82) 3 151 := ⟨by decide +kernel, rfl⟩
theorem dL_lay_151 : dc cL_lay 151 (.aload_n 0) 1 152 := ⟨by decide +kernel, rfl⟩
theorem dL_lay_152 : dc cL_lay 152 (.aload_n 1) 1 153 := ⟨by decide +kernel, rfl⟩
theorem dL_lay_153 : dc cL_lay 153 (.ldc 70) 2 155 := ⟨by decide +kernel, rfl⟩
theorem dL_lay_155 : dc cL_lay 155 (.invokestatic 45) 3 158 := ⟨by decide +kernel, rfl⟩
theorem dL_lay_158 : dc cL_lay 158 (.aload_n 0) 1 159 := ⟨by decide +kernel, rfl⟩
theorem dL_lay_159 : dc cL_lay 159 (.aload_n 1) 1 160 := ⟨by decide +kernel, rfl⟩
theorem dL_lay_160 : dc cL_lay 160 (.bipush 108) 2 162 := ⟨by decide +kernel, rfl⟩
theorem dL_lay_162 : dc cL_lay 162 (.aload_n 2) 1 163 := ⟨by decide +kernel, rfl⟩
theorem dL_lay_163 : dc cL_lay 163 (.bipush 9) 2 165 := ⟨by decide +kernel, rfl⟩
theorem dL_lay_165 : dc cL_lay 165 (.iload_n 3) 1 166 := ⟨by decide +kernel, rfl⟩
theorem dL_lay_166 : dc cL_lay 166 (.iadd) 1 167 := ⟨by decide +kernel, rfl⟩
theorem dL_lay_167 : dc cL_lay 167 (.iaload) 1 168 := ⟨by decide +kernel, rfl⟩
theorem dL_lay_168 : dc cL_lay 168 (.invokestatic 66) 3 171 := ⟨by decide +kernel, rfl⟩
theorem dL_lay_171 : dc cL_lay 171 (.aload_n 0) 1 172 := ⟨by decide +kernel, rfl⟩
theorem dL_lay_172 : dc cL_lay 172 (.aload_n 1) 1 173 := ⟨by decide +kernel, rfl⟩
theorem dL_lay_173 : dc cL_lay 173 (.bipush 108) 2 175 := ⟨by decide +kernel, rfl⟩
theorem dL_lay_175 : dc cL_lay 175 (.aload_n 2) 1 176 := ⟨by decide +kernel, rfl⟩
theorem dL_lay_176 : dc cL_lay 176 (.bipush 13) 2 178 := ⟨by decide +kernel, rfl⟩
theorem dL_lay_178 : dc cL_lay 178 (.iload_n 3) 1 179 := ⟨by decide +kernel, rfl⟩
theorem dL_lay_179 : dc cL_lay 179 (.iadd) 1 180 := ⟨by decide +kernel, rfl⟩
theorem dL_lay_180 : dc cL_lay 180 (.iaload) 1 181 := ⟨by decide +kernel, rfl⟩
theorem dL_lay_181 : dc cL_lay 181 (.invokestatic 66) 3 184 := ⟨by decide +kernel, rfl⟩
theorem dL_lay_184 : dc cL_lay 184 (.aload_n 0) 1 185 := ⟨by decide +kernel, rfl⟩
theorem dL_lay_185 : dc cL_lay 185 (.aload_n 1) 1 186 := ⟨by decide +kernel, rfl⟩
theorem dL_lay_186 : dc cL_lay 186 (.ldc 72) 2 188 := ⟨by decide +kernel, rfl⟩
theorem dL_lay_188 : dc cL_lay 188 (.invokestatic 45) 3 191 := ⟨by decide +kernel, rfl⟩
theorem dL_lay_191 : dc cL_lay 191 (.aload_n 0) 1 192 := ⟨by decide +kernel, rfl⟩
theorem dL_lay_192 : dc cL_lay 192 (.aload_n 1) 1 193 := ⟨by decide +kernel, rfl⟩
theorem dL_lay_193 : dc cL_lay 193 (.aload_n 2) 1 194 := ⟨by decide +kernel, rfl⟩
theorem dL_lay_194 : dc cL_lay 194 (.bipush 17) 2 196 := ⟨by decide +kernel, rfl⟩
theorem dL_lay_196 : dc cL_lay 196 (.iload_n 3) 1 197 := ⟨by decide +kernel, rfl⟩
theorem dL_lay_197 : dc cL_lay 197 (.iadd) 1 198 := ⟨by decide +kernel, rfl⟩
theorem dL_lay_198 : dc cL_lay 198 (.iaload) 1 199 := ⟨by decide +kernel, rfl⟩
theorem dL_lay_199 : dc cL_lay 199 (.invokestatic 49) 3 202 := ⟨by decide +kernel, rfl⟩
theorem dL_lay_202 : dc cL_lay 202 (.aload_n 0) 1 203 := ⟨by decide +kernel, rfl⟩
theorem dL_lay_203 : dc cL_lay 203 (.aload_n 1) 1 204 := ⟨by decide +kernel, rfl⟩
theorem dL_lay_204 : dc cL_lay 204 (.aload_n 2) 1 205 := ⟨by decide +kernel, rfl⟩
theorem dL_lay_205 : dc cL_lay 205 (.bipush 21) 2 207 := ⟨by decide +kernel, rfl⟩
theorem dL_lay_207 : dc cL_lay 207 (.iload_n 3) 1 208 := ⟨by decide +kernel, rfl⟩
theorem dL_lay_208 : dc cL_lay 208 (.iadd) 1 209 := ⟨by decide +kernel, rfl⟩
theorem dL_lay_209 : dc cL_lay 209 (.iaload) 1 210 := ⟨by decide +kernel, rfl⟩
theorem dL_lay_210 : dc cL_lay 210 (.iconst 1) 1 211 := ⟨by decide +kernel, rfl⟩
theorem dL_lay_211 : dc cL_lay 211 (.if_icmp .ne 8) 3 214 := ⟨by decide +kernel, rfl⟩
theorem dL_lay_214 : dc cL_lay 214 (.ldc 74) 2 216 := ⟨by decide +kernel, rfl⟩
theorem dL_lay_216 : dc cL_lay 216 (.goto 5) 3 219 := ⟨by decide +kernel, rfl⟩
theorem dL_lay_219 : dc cL_lay 219 (.ldc 62) 2 221 := ⟨by decide +kernel, rfl⟩
theorem dL_lay_221 : dc cL_lay 221 (.invokestatic 45) 3 224 := ⟨by decide +kernel, rfl⟩
theorem dL_lay_224 : dc cL_lay 224 (.iinc 3 1) 3 227 := ⟨by decide +kernel, rfl⟩
theorem dL_lay_227 : dc cL_lay 227 (.goto (-83)) 3 230 := ⟨by decide +kernel, rfl⟩
theorem dL_lay_230 : dc cL_lay 230 (.iconst 0) 1 231 := ⟨by decide +kernel, rfl⟩
theorem dL_lay_231 : dc cL_lay 231 (.istore_n 3) 1 232 := ⟨by decide +kernel, rfl⟩
theorem dL_lay_232 : dc cL_lay 232 (.iload_n 3) 1 233 := ⟨by decide +kernel, rfl⟩
theorem dL_lay_233 : dc cL_lay 233 (.aload_n 2) 1 234 := ⟨by decide +kernel, rfl⟩
theorem dL_lay_234 : dc cL_lay 234 (.iconst 2) 1 235 := ⟨by decide +kernel, rfl⟩
theorem dL_lay_235 : dc cL_lay 235 (.iaload) 1 236 := ⟨by decide +kernel, rfl⟩
theorem dL_lay_236 : dc cL_lay 236 (.if_icmp .ge 165) 3 239 := ⟨by decide +kernel, rfl⟩
theorem dL_lay_239 : dc cL_lay 239 (.aload_n 0) 1 240 := ⟨by decide +kernel, rfl⟩
theorem dL_lay_240 : dc cL_lay 240 (.aload_n 1) 1 241 := ⟨by decide +kernel, rfl⟩
theorem dL_lay_241 : dc cL_lay 241 (.aload_n 2) 1 242 := ⟨by decide +kernel, rfl⟩
theorem dL_lay_242 : dc cL_lay 242 (.bipush 33) 2 244 := ⟨by decide +kernel, rfl⟩
theorem dL_lay_244 : dc cL_lay 244 (.iload_n 3) 1 245 := ⟨by decide +kernel, rfl⟩
theorem dL_lay_245 : dc cL_lay 245 (.iadd) 1 246 := ⟨by decide +kernel, rfl⟩
theorem dL_lay_246 : dc cL_lay 246 (.iaload) 1 247 := ⟨by decide +kernel, rfl⟩
theorem dL_lay_247 : dc cL_lay 247 (.iconst 1) 1 248 := ⟨by decide +kernel, rfl⟩
theorem dL_lay_248 : dc cL_lay 248 (.if_icmp .ne 8) 3 251 := ⟨by decide +kernel, rfl⟩
theorem dL_lay_251 : dc cL_lay 251 (.ldc 76) 2 253 := ⟨by decide +kernel, rfl⟩
theorem dL_lay_253 : dc cL_lay 253 (.goto 5) 3 256 := ⟨by decide +kernel, rfl⟩
theorem dL_lay_256 : dc cL_lay 256 (.ldc 78) 2 258 := ⟨by decide +kernel, rfl⟩
theorem dL_lay_258 : dc cL_lay 258 (.invokestatic 45) 3 261 := ⟨by decide +kernel, rfl⟩
theorem dL_lay_261 : dc cL_lay 261 (.aload_n 0) 1 262 := ⟨by decide +kernel, rfl⟩
theorem dL_lay_262 : dc cL_lay 262 (.aload_n 1) 1 263 := ⟨by decide +kernel, rfl⟩
theorem dL_lay_263 : dc cL_lay 263 (.bipush 112) 2 265 := ⟨by decide +kernel, rfl⟩
theorem dL_lay_265 : dc cL_lay 265 (.iload_n 3) 1 266 := ⟨by decide +kernel, rfl⟩
theorem dL_lay_266 : dc cL_lay 266 (.invokestatic 66) 3 269 := ⟨by decide +kernel, rfl⟩
theorem dL_lay_269 : dc cL_lay 269 (.aload_n 0) 1 270 := ⟨by decide +kernel, rfl⟩
theorem dL_lay_270 : dc cL_lay 270 (.aload_n 1) 1 271 := ⟨by decide +kernel, rfl⟩
theorem dL_lay_271 : dc cL_lay 271 (.ldc 80) 2 273 := ⟨by decide +kernel, rfl⟩
theorem dL_lay_273 : dc cL_lay 273 (.invokestatic 45) 3 276 := ⟨by decide +kernel, rfl⟩
theorem dL_lay_276 : dc cL_lay 276 (.aload_n 0) 1 277 := ⟨by decide +kernel, rfl⟩
theorem dL_lay_277 : dc cL_lay 277 (.aload_n 1) 1 278 := ⟨by decide +kernel, rfl⟩
theorem dL_lay_278 : dc cL_lay 278 (.bipush 108) 2 280 := ⟨by decide +kernel, rfl⟩
theorem dL_lay_280 : dc cL_lay 280 (.aload_n 2) 1 281 := ⟨by decide +kernel, rfl⟩
theorem dL_lay_281 : dc cL_lay 281 (.bipush 25) 2 283 := ⟨by decide +kernel, rfl⟩
theorem dL_lay_283 : dc cL_lay 283 (.iload_n 3) 1 284 := ⟨by decide +kernel, rfl⟩
theorem dL_lay_284 : dc cL_lay 284 (.iadd) 1 285 := ⟨by decide +kernel, rfl⟩
theorem dL_lay_285 : dc cL_lay 285 (.iaload) 1 286 := ⟨by decide +kernel, rfl⟩
theorem dL_lay_286 : dc cL_lay 286 (.invokestatic 66) 3 289 := ⟨by decide +kernel, rfl⟩
theorem dL_lay_289 : dc cL_lay 289 (.aload_n 0) 1 290 := ⟨by decide +kernel, rfl⟩
theorem dL_lay_290 : dc cL_lay 290 (.aload_n 1) 1 291 := ⟨by decide +kernel, rfl⟩
theorem dL_lay_291 : dc cL_lay 291 (.aload_n 2) 1 292 := ⟨by decide +kernel, rfl⟩
theorem dL_lay_292 : dc cL_lay 292 (.bipush 29) 2 294 := ⟨by decide +kernel, rfl⟩
theorem dL_lay_294 : dc cL_lay 294 (.iload_n 3) 1 295 := ⟨by decide +kernel, rfl⟩
theorem dL_lay_295 : dc cL_lay 295 (.iadd) 1 296 := ⟨by decide +kernel, rfl⟩
theorem dL_lay_296 : dc cL_lay 296 (.iaload) 1 297 := ⟨by decide +kernel, rfl⟩
theorem dL_lay_297 : dc cL_lay 297 (.iconst 1) 1 298 := ⟨by decide +kernel, rfl⟩
theorem dL_lay_298 : dc cL_lay 298 (.if_icmp .ne 8) 3 301 := ⟨by decide +kernel, rfl⟩
theorem dL_lay_301 : dc cL_lay 301 (.ldc 82) 2 303 := ⟨by decide +kernel, rfl⟩
theorem dL_lay_303 : dc cL_lay 303 (.goto 5) 3 306 := ⟨by decide +kernel, rfl⟩
theorem dL_lay_306 : dc cL_lay 306 (.ldc 62) 2 308 := ⟨by decide +kernel, rfl⟩
theorem dL_lay_308 : dc cL_lay 308 (.invokestatic 45) 3 311 := ⟨by decide +kernel, rfl⟩
theorem dL_lay_311 : dc cL_lay 311 (.iconst 0) 1 312 := ⟨by decide +kernel, rfl⟩
theorem dL_lay_312 : dc cL_lay 312 (.istore 4) 2 314 := ⟨by decide +kernel, rfl⟩
theorem dL_lay_314 : dc cL_lay 314 (.iload 4) 2 316 := ⟨by decide +kernel, rfl⟩
theorem dL_lay_316 : dc cL_lay 316 (.aload_n 2) 1 317 := ⟨by decide +kernel, rfl⟩
theorem dL_lay_317 : dc cL_lay 317 (.iconst 1) 1 318 := ⟨by decide +kernel, rfl⟩
theorem dL_lay_318 : dc cL_lay 318 (.iaload) 1 319 := ⟨by decide +kernel, rfl⟩
theorem dL_lay_319 : dc cL_lay 319 (.if_icmp .ge 76) 3 322 := ⟨by decide +kernel, rfl⟩
theorem dL_lay_322 : dc cL_lay 322 (.aload_n 2) 1 323 := ⟨by decide +kernel, rfl⟩
theorem dL_lay_323 : dc cL_lay 323 (.bipush 37) 2 325 := ⟨by decide +kernel, rfl⟩
theorem dL_lay_325 : dc cL_lay 325 (.iconst 4) 1 326 := ⟨by decide +kernel, rfl⟩
theorem dL_lay_326 : dc cL_lay 326 (.iload_n 3) 1 327 := ⟨by decide +kernel, rfl⟩
theorem dL_lay_327 : dc cL_lay 327 (.imul) 1 328 := ⟨by decide +kernel, rfl⟩
theorem dL_lay_328 : dc cL_lay 328 (.iadd) 1 329 := ⟨by decide +kernel, rfl⟩
theorem dL_lay_329 : dc cL_lay 329 (.iload 4) 2 331 := ⟨by decide +kernel, rfl⟩
theorem dL_lay_331 : dc cL_lay 331 (.iadd) 1 332 := ⟨by decide +kernel, rfl⟩
theorem dL_lay_332 : dc cL_lay 332 (.iaload) 1 333 := ⟨by decide +kernel, rfl⟩
theorem dL_lay_333 : dc cL_lay 333 (.ifCond .ne 6) 3 336 := ⟨by decide +kernel, rfl⟩
theorem dL_lay_336 : dc cL_lay 336 (.goto 53) 3 339 := ⟨by decide +kernel, rfl⟩
theorem dL_lay_339 : dc cL_lay 339 (.aload_n 0) 1 340 := ⟨by decide +kernel, rfl⟩
theorem dL_lay_340 : dc cL_lay 340 (.aload_n 1) 1 341 := ⟨by decide +kernel, rfl⟩
theorem dL_lay_341 : dc cL_lay 341 (.ldc 84) 2 343 := ⟨by decide +kernel, rfl⟩
theorem dL_lay_343 : dc cL_lay 343 (.invokestatic 45) 3 346 := ⟨by decide +kernel, rfl⟩
theorem dL_lay_346 : dc cL_lay 346 (.aload_n 0) 1 347 := ⟨by decide +kernel, rfl⟩
theorem dL_lay_347 : dc cL_lay 347 (.aload_n 1) 1 348 := ⟨by decide +kernel, rfl⟩
theorem dL_lay_348 : dc cL_lay 348 (.bipush 112) 2 350 := ⟨by decide +kernel, rfl⟩
theorem dL_lay_350 : dc cL_lay 350 (.iload_n 3) 1 351 := ⟨by decide +kernel, rfl⟩
theorem dL_lay_351 : dc cL_lay 351 (.invokestatic 66) 3 354 := ⟨by decide +kernel, rfl⟩
theorem dL_lay_354 : dc cL_lay 354 (.aload_n 0) 1 355 := ⟨by decide +kernel, rfl⟩
theorem dL_lay_355 : dc cL_lay 355 (.aload_n 1) 1 356 := ⟨by decide +kernel, rfl⟩
theorem dL_lay_356 : dc cL_lay 356 (.bipush 108) 2 358 := ⟨by decide +kernel, rfl⟩
theorem dL_lay_358 : dc cL_lay 358 (.aload_n 2) 1 359 := ⟨by decide +kernel, rfl⟩
theorem dL_lay_359 : dc cL_lay 359 (.bipush 13) 2 361 := ⟨by decide +kernel, rfl⟩
theorem dL_lay_361 : dc cL_lay 361 (.iload 4) 2 363 := ⟨by decide +kernel, rfl⟩
theorem dL_lay_363 : dc cL_lay 363 (.iadd) 1 364 := ⟨by decide +kernel, rfl⟩
theorem dL_lay_364 : dc cL_lay 364 (.iaload) 1 365 := ⟨by decide +kernel, rfl⟩
theorem dL_lay_365 : dc cL_lay 365 (.invokestatic 66) 3 368 := ⟨by decide +kernel, rfl⟩
theorem dL_lay_368 : dc cL_lay 368 (.aload_n 0) 1 369 := ⟨by decide +kernel, rfl⟩
theorem dL_lay_369 : dc cL_lay 369 (.aload_n 1) 1 370 := ⟨by decide +kernel, rfl⟩
theorem dL_lay_370 : dc cL_lay 370 (.bipush 108) 2 372 := ⟨by decide +kernel, rfl⟩
theorem dL_lay_372 : dc cL_lay 372 (.aload_n 2) 1 373 := ⟨by decide +kernel, rfl⟩
theorem dL_lay_373 : dc cL_lay 373 (.bipush 9) 2 375 := ⟨by decide +kernel, rfl⟩
theorem dL_lay_375 : dc cL_lay 375 (.iload 4) 2 377 := ⟨by decide +kernel, rfl⟩
theorem dL_lay_377 : dc cL_lay 377 (.iadd) 1 378 := ⟨by decide +kernel, rfl⟩
theorem dL_lay_378 : dc cL_lay 378 (.iaload) 1 379 := ⟨by decide +kernel, rfl⟩
theorem dL_lay_379 : dc cL_lay 379 (.invokestatic 66) 3 382 := ⟨by decide +kernel, rfl⟩
theorem dL_lay_382 : dc cL_lay 382 (.aload_n 0) 1 383 := ⟨by decide +kernel, rfl⟩
theorem dL_lay_383 : dc cL_lay 383 (.aload_n 1) 1 384 := ⟨by decide +kernel, rfl⟩
theorem dL_lay_384 : dc cL_lay 384 (.ldc 62) 2 386 := ⟨by decide +kernel, rfl⟩
theorem dL_lay_386 : dc cL_lay 386 (.invokestatic 45) 3 389 := ⟨by decide +kernel, rfl⟩
theorem dL_lay_389 : dc cL_lay 389 (.iinc 4 1) 3 392 := ⟨by decide +kernel, rfl⟩
theorem dL_lay_392 : dc cL_lay 392 (.goto (-78)) 3 395 := ⟨by decide +kernel, rfl⟩
theorem dL_lay_395 : dc cL_lay 395 (.iinc 3 1) 3 398 := ⟨by decide +kernel, rfl⟩
theorem dL_lay_398 : dc cL_lay 398 (.goto (-166)) 3 401 := ⟨by decide +kernel, rfl⟩
theorem dL_lay_401 : dc cL_lay 401 (.aload_n 0) 1 402 := ⟨by decide +kernel, rfl⟩
theorem dL_lay_402 : dc cL_lay 402 (.aload_n 1) 1 403 := ⟨by decide +kernel, rfl⟩
theorem dL_lay_403 : dc cL_lay 403 (.invokestatic 86) 3 406 := ⟨by decide +kernel, rfl⟩
theorem dL_lay_406 : dc cL_lay 406 (.aload_n 2) 1 407 := ⟨by decide +kernel, rfl⟩
theorem dL_lay_407 : dc cL_lay 407 (.iconst 2) 1 408 := ⟨by decide +kernel, rfl⟩
theorem dL_lay_408 : dc cL_lay 408 (.iaload) 1 409 := ⟨by decide +kernel, rfl⟩
theorem dL_lay_409 : dc cL_lay 409 (.if_icmp .ne 7) 3 412 := ⟨by decide +kernel, rfl⟩
theorem dL_lay_412 : dc cL_lay 412 (.iconst 1) 1 413 := ⟨by decide +kernel, rfl⟩
theorem dL_lay_413 : dc cL_lay 413 (.goto 4) 3 416 := ⟨by decide +kernel, rfl⟩
theorem dL_lay_416 : dc cL_lay 416 (.iconst 0) 1 417 := ⟨by decide +kernel, rfl⟩
theorem dL_lay_417 : dc cL_lay 417 (.ireturn) 1 418 := ⟨by decide +kernel, rfl⟩
theorem nm_L_lay : (yL_lay).cls ≠ "java/lang/invoke/MethodHandle" ∧ (yL_lay).cls ≠ "java/lang/invoke/VarHandle" ∧ (parseMethodDescriptor (yL_lay).desc).map (fun d => d.parameters.length) = some 3 := ⟨by decide +kernel, by decide +kernel, by decide +kernel⟩
theorem zs_L_lay_107 {a0 : Nat} {a1 : Nat} {a2 : Nat} {k142 : KM → Option (Int32 × KM)} {y : (Int32 × KM)} (hk142 : ∀ (M : KM), k142 M = some y → (y.1 = 0 ∨ y.1 = 1)) : ∀ (n : Nat) (w3 : Int32) (M : KM), lp_L_lay_107 n a0 a1 a2 w3 M k142 = some y → (y.1 = 0 ∨ y.1 = 1) := by
  intro n
  induction n with
  | zero =>
    intro w3 M hf
    cases hf
  | succ n ih =>
    intro w3 M hf
    rw [lp_L_lay_107] at hf
    obtain ⟨g22, hf⟩ := gd_e hf
    by_cases h27 : (M.1 a2 ((0 : Int32)).toNatClampNeg) ≤ w3
    · replace hf := (if_pos h27).symm.trans hf
      exact hk142 M hf
    · replace hf := (if_neg h27).symm.trans hf
      obtain ⟨v23, hcv23, hf⟩ := bd_e hf
      obtain ⟨v24, hcv24, hf⟩ := bd_e hf
      obtain ⟨v25, hcv25, hf⟩ := bd_e hf
      obtain ⟨v26, ev26⟩ : ∃ q : Int32, q = w3 + (1 : Int32) := ⟨_, rfl⟩
      replace hf := lt_e hf ev26
      exact ih v26 v25 hf
theorem zs_L_lay_144 {a0 : Nat} {a1 : Nat} {a2 : Nat} {k230 : KM → Option (Int32 × KM)} {y : (Int32 × KM)} (hk230 : ∀ (M : KM), k230 M = some y → (y.1 = 0 ∨ y.1 = 1)) : ∀ (n : Nat) (w3 : Int32) (M : KM), lp_L_lay_144 n a0 a1 a2 w3 M k230 = some y → (y.1 = 0 ∨ y.1 = 1) := by
  intro n
  induction n with
  | zero =>
    intro w3 M hf
    cases hf
  | succ n ih =>
    intro w3 M hf
    rw [lp_L_lay_144] at hf
    obtain ⟨g29, hf⟩ := gd_e hf
    by_cases h44 : (M.1 a2 ((1 : Int32)).toNatClampNeg) ≤ w3
    · replace hf := (if_pos h44).symm.trans hf
      exact hk230 M hf
    · replace hf := (if_neg h44).symm.trans hf
      obtain ⟨v30, hcv30, hf⟩ := bd_e hf
      obtain ⟨g31, hf⟩ := gd_e hf
      obtain ⟨v32, hcv32, hf⟩ := bd_e hf
      obtain ⟨g33, hf⟩ := gd_e hf
      obtain ⟨v34, hcv34, hf⟩ := bd_e hf
      obtain ⟨v35, hcv35, hf⟩ := bd_e hf
      obtain ⟨g36, hf⟩ := gd_e hf
      obtain ⟨v37, hcv37, hf⟩ := bd_e hf
      obtain ⟨g38, hf⟩ := gd_e hf
      by_cases h43 : (v37.1 a2 (((21 : Int32) + w3)).toNatClampNeg) = (1 : Int32)
      · replace hf := (if_pos h43).symm.trans hf
        obtain ⟨v41, hcv41, hf⟩ := bd_e hf
        obtain ⟨v42, ev42⟩ : ∃ q : Int32, q = w3 + (1 : Int32) := ⟨_, rfl⟩
        replace hf := lt_e hf ev42
        exact ih v42 v41 hf
      · replace hf := (if_neg h43).symm.trans hf
        obtain ⟨v39, hcv39, hf⟩ := bd_e hf
        obtain ⟨v40, ev40⟩ : ∃ q : Int32, q = w3 + (1 : Int32) := ⟨_, rfl⟩
        replace hf := lt_e hf ev40
        exact ih v40 v39 hf
theorem zs_L_lay_314 {a0 : Nat} {a1 : Nat} {a2 : Nat} {c3 : Int32} {k395 : KM → Option (Int32 × KM)} {y : (Int32 × KM)} (hk395 : ∀ (M : KM), k395 M = some y → (y.1 = 0 ∨ y.1 = 1)) : ∀ (n : Nat) (w4 : Int32) (M : KM), lp_L_lay_314 n a0 a1 a2 c3 w4 M k395 = some y → (y.1 = 0 ∨ y.1 = 1) := by
  intro n
  induction n with
  | zero =>
    intro w4 M hf
    cases hf
  | succ n ih =>
    intro w4 M hf
    rw [lp_L_lay_314] at hf
    obtain ⟨g55, hf⟩ := gd_e hf
    by_cases h67 : (M.1 a2 ((1 : Int32)).toNatClampNeg) ≤ w4
    · replace hf := (if_pos h67).symm.trans hf
      exact hk395 M hf
    · replace hf := (if_neg h67).symm.trans hf
      obtain ⟨g56, hf⟩ := gd_e hf
      obtain ⟨j389, ej389, hf⟩ := lt_j hf
      have hj389 : ∀ (M57 : KM), j389 M57 = some y → (y.1 = 0 ∨ y.1 = 1) := by
        intro M57 hf
        rw [ej389] at hf
        obtain ⟨v58, ev58⟩ : ∃ q : Int32, q = w4 + (1 : Int32) := ⟨_, rfl⟩
        replace hf := lt_e hf ev58
        exact ih v58 M57 hf
      by_cases h66 : (M.1 a2 ((((37 : Int32) + ((4 : Int32) * c3)) + w4)).toNatClampNeg) = 0
      · replace hf := (if_pos h66).symm.trans hf
        exact hj389 M hf
      · replace hf := (if_neg h66).symm.trans hf
        obtain ⟨v59, hcv59, hf⟩ := bd_e hf
        obtain ⟨v60, hcv60, hf⟩ := bd_e hf
        obtain ⟨g61, hf⟩ := gd_e hf
        obtain ⟨v62, hcv62, hf⟩ := bd_e hf
        obtain ⟨g63, hf⟩ := gd_e hf
        obtain ⟨v64, hcv64, hf⟩ := bd_e hf
        obtain ⟨v65, hcv65, hf⟩ := bd_e hf
        exact hj389 v65 hf
theorem zs_L_lay_232 {a0 : Nat} {a1 : Nat} {a2 : Nat} {k401 : KM → Option (Int32 × KM)} {y : (Int32 × KM)} (hk401 : ∀ (M : KM), k401 M = some y → (y.1 = 0 ∨ y.1 = 1)) : ∀ (n : Nat) (w3 : Int32) (M : KM), lp_L_lay_232 n a0 a1 a2 w3 M k401 = some y → (y.1 = 0 ∨ y.1 = 1) := by
  intro n
  induction n with
  | zero =>
    intro w3 M hf
    cases hf
  | succ n ih =>
    intro w3 M hf
    rw [lp_L_lay_232] at hf
    obtain ⟨g46, hf⟩ := gd_e hf
    by_cases h88 : (M.1 a2 ((2 : Int32)).toNatClampNeg) ≤ w3
    · replace hf := (if_pos h88).symm.trans hf
      exact hk401 M hf
    · replace hf := (if_neg h88).symm.trans hf
      obtain ⟨g47, hf⟩ := gd_e hf
      by_cases h87 : (M.1 a2 (((33 : Int32) + w3)).toNatClampNeg) = (1 : Int32)
      · replace hf := (if_pos h87).symm.trans hf
        obtain ⟨v74, hcv74, hf⟩ := bd_e hf
        obtain ⟨v75, hcv75, hf⟩ := bd_e hf
        obtain ⟨v76, hcv76, hf⟩ := bd_e hf
        obtain ⟨g77, hf⟩ := gd_e hf
        obtain ⟨v78, hcv78, hf⟩ := bd_e hf
        obtain ⟨g79, hf⟩ := gd_e hf
        by_cases h86 : (v78.1 a2 (((29 : Int32) + w3)).toNatClampNeg) = (1 : Int32)
        · replace hf := (if_pos h86).symm.trans hf
          obtain ⟨v83, hcv83, hf⟩ := bd_e hf
          refine zs_L_lay_314 (fun M84 hf => ?_) n (0 : Int32) v83 hf
          · obtain ⟨v85, ev85⟩ : ∃ q : Int32, q = w3 + (1 : Int32) := ⟨_, rfl⟩
            replace hf := lt_e hf ev85
            exact ih v85 M84 hf
        · replace hf := (if_neg h86).symm.trans hf
          obtain ⟨v80, hcv80, hf⟩ := bd_e hf
          refine zs_L_lay_314 (fun M81 hf => ?_) n (0 : Int32) v80 hf
          · obtain ⟨v82, ev82⟩ : ∃ q : Int32, q = w3 + (1 : Int32) := ⟨_, rfl⟩
            replace hf := lt_e hf ev82
            exact ih v82 M81 hf
      · replace hf := (if_neg h87).symm.trans hf
        obtain ⟨v48, hcv48, hf⟩ := bd_e hf
        obtain ⟨v49, hcv49, hf⟩ := bd_e hf
        obtain ⟨v50, hcv50, hf⟩ := bd_e hf
        obtain ⟨g51, hf⟩ := gd_e hf
        obtain ⟨v52, hcv52, hf⟩ := bd_e hf
        obtain ⟨g53, hf⟩ := gd_e hf
        by_cases h73 : (v52.1 a2 (((29 : Int32) + w3)).toNatClampNeg) = (1 : Int32)
        · replace hf := (if_pos h73).symm.trans hf
          obtain ⟨v70, hcv70, hf⟩ := bd_e hf
          refine zs_L_lay_314 (fun M71 hf => ?_) n (0 : Int32) v70 hf
          · obtain ⟨v72, ev72⟩ : ∃ q : Int32, q = w3 + (1 : Int32) := ⟨_, rfl⟩
            replace hf := lt_e hf ev72
            exact ih v72 M71 hf
        · replace hf := (if_neg h73).symm.trans hf
          obtain ⟨v54, hcv54, hf⟩ := bd_e hf
          refine zs_L_lay_314 (fun M68 hf => ?_) n (0 : Int32) v54 hf
          · obtain ⟨v69, ev69⟩ : ∃ q : Int32, q = w3 + (1 : Int32) := ⟨_, rfl⟩
            replace hf := lt_e hf ev69
            exact ih v69 M68 hf
set_option maxRecDepth 100000 in
theorem z_L_lay (n : Nat) {a0 : Nat} {a1 : Nat} {a2 : Nat} {M : KM} {y : (Int32 × KM)} (hf : f_L_lay n a0 a1 a2 M = some y) : (y.1 = 0 ∨ y.1 = 1) := by
  unfold f_L_lay at hf
  obtain ⟨g1, hf⟩ := gd_e hf
  obtain ⟨M2, eM2⟩ : ∃ q : KM, q = (uI M a1 ((22 : Int32)).toNatClampNeg (0 : Int32)) := ⟨_, rfl⟩
  replace hf := lt_e hf eM2
  obtain ⟨v3, hcv3, hf⟩ := bd_e hf
  obtain ⟨g4, hf⟩ := gd_e hf
  obtain ⟨v5, hcv5, hf⟩ := bd_e hf
  obtain ⟨v6, hcv6, hf⟩ := bd_e hf
  obtain ⟨g7, hf⟩ := gd_e hf
  obtain ⟨v8, hcv8, hf⟩ := bd_e hf
  obtain ⟨v9, hcv9, hf⟩ := bd_e hf
  obtain ⟨g10, hf⟩ := gd_e hf
  obtain ⟨v11, hcv11, hf⟩ := bd_e hf
  obtain ⟨v12, hcv12, hf⟩ := bd_e hf
  obtain ⟨g13, hf⟩ := gd_e hf
  obtain ⟨v14, hcv14, hf⟩ := bd_e hf
  obtain ⟨v15, hcv15, hf⟩ := bd_e hf
  obtain ⟨g16, hf⟩ := gd_e hf
  obtain ⟨v17, hcv17, hf⟩ := bd_e hf
  obtain ⟨v18, hcv18, hf⟩ := bd_e hf
  obtain ⟨g19, hf⟩ := gd_e hf
  obtain ⟨v20, hcv20, hf⟩ := bd_e hf
  obtain ⟨v21, hcv21, hf⟩ := bd_e hf
  refine zs_L_lay_107 (fun M28 hf => ?_) n (0 : Int32) v21 hf
  · refine zs_L_lay_144 (fun M45 hf => ?_) n (0 : Int32) M28 hf
    · refine zs_L_lay_232 (fun M89 hf => ?_) n (0 : Int32) M45 hf
      · obtain ⟨v90, hcv90, hf⟩ := bd_e hf
        obtain ⟨g91, hf⟩ := gd_e hf
        by_cases h92 : v90.1 = (v90.2.1 a2 ((2 : Int32)).toNatClampNeg)
        · replace hf := (if_pos h92).symm.trans hf
          obtain rfl := Option.some.inj hf
          exact (Or.inr rfl)
        · replace hf := (if_neg h92).symm.trans hf
          obtain rfl := Option.some.inj hf
          exact (Or.inl rfl)
set_option maxRecDepth 100000 in
set_option maxHeartbeats 4000000 in
theorem s_L_lay_107 {ad : Nat → Nat} {cy : Nat → ClassId} {x : KX} (G : KG ad cy x cL_lay "NoonGuidesLaw" 5 (some (some .boolean)) 10) {a0 : Nat} {a1 : Nat} {a2 : Nat} {b Ln : Nat} {xs : Nat → Int32} {aK aV : Nat → Nat} (GW : KWx b Ln xs aK aV x) (h0 : kty a0 = 11) (h1 : kty a1 = 34) (h2 : kty a2 = 35) {k142 : KM → Option (Int32 × KM)} {y : (Int32 × KM)} (hk142 : ∀ (M : KM), k142 M = some y → KV ad cy x (some (.int y.1), y.2) 142 [(0, .ref (ad a0)), (1, .ref (ad a1)), (2, .ref (ad a2))] [] M) : ∀ (n : Nat) (w3 : Int32) (M : KM), lp_L_lay_107 n a0 a1 a2 w3 M k142 = some y → KV ad cy x (some (.int y.1), y.2) 107 [(0, .ref (ad a0)), (1, .ref (ad a1)), (2, .ref (ad a2)), (3, .int w3)] [] M := by
  intro n
  induction n with
  | zero =>
    intro w3 M hf
    cases hf
  | succ n ih =>
    intro w3 M hf
    rw [lp_L_lay_107] at hf
    refine v_iload_n G dL_lay_107 3 rfl ?_
    refine v_aload_n G dL_lay_108 2 rfl ?_
    refine v_iconst (0 : Int32) G dL_lay_109 (by decide) ?_
    obtain ⟨g22, hf⟩ := gd_e hf
    refine al_35 G h2 g22 dL_lay_110 ?_
    refine v_icmp_ge 142 G dL_lay_111 (by decide) (fun h27 => ?_) (fun h27 => ?_)
    · replace hf := (if_pos h27).symm.trans hf
      refine v_sub _ [0, 1, 2] rfl ?_
      exact hk142 M hf
    · replace hf := (if_neg h27).symm.trans hf
      refine v_aload_n G dL_lay_114 0 rfl ?_
      refine v_aload_n G dL_lay_115 1 rfl ?_
      refine v_ldcS (i := 7) G GW (by decide) rfl rfl dL_lay_116 ?_
      obtain ⟨v23, hcv23, hf⟩ := bd_e hf
      refine v_callS2 [.ref (ad a0), .ref (ad a1), .ref (aK 7)] G GW (c_L_say n h0 h1 (by decide) hcv23) t_937 t_938 t_0 t_939 nm_L_say (by decide) (by decide) rfl rfl (Nat.le_of_ble_eq_true rfl) dL_lay_118 (kv_rv ?_)
      refine v_aload_n G dL_lay_121 0 rfl ?_
      refine v_aload_n G dL_lay_122 1 rfl ?_
      refine v_bipush (108 : Int32) G dL_lay_123 (by decide) ?_
      refine v_iload_n G dL_lay_125 3 rfl ?_
      obtain ⟨v24, hcv24, hf⟩ := bd_e hf
      refine v_callS [.ref (ad a0), .ref (ad a1), .int (108 : Int32), .int w3] G (c_L_name n h0 h1 hcv24) t_969 t_970 t_0 t_971 nm_L_name (by decide) (by decide) rfl rfl (Nat.le_of_ble_eq_true rfl) dL_lay_126 (kv_rv ?_)
      refine v_aload_n G dL_lay_129 0 rfl ?_
      refine v_aload_n G dL_lay_130 1 rfl ?_
      refine v_ldcS (i := 6) G GW (by decide) rfl rfl dL_lay_131 ?_
      obtain ⟨v25, hcv25, hf⟩ := bd_e hf
      refine v_callS2 [.ref (ad a0), .ref (ad a1), .ref (aK 6)] G GW (c_L_say n h0 h1 (by decide) hcv25) t_937 t_938 t_0 t_939 nm_L_say (by decide) (by decide) rfl rfl (Nat.le_of_ble_eq_true rfl) dL_lay_133 (kv_rv ?_)
      obtain ⟨v26, ev26⟩ : ∃ q : Int32, q = w3 + (1 : Int32) := ⟨_, rfl⟩
      replace hf := lt_e hf ev26
      refine v_iinc v26 [(3, .int v26), (0, .ref (ad a0)), (1, .ref (ad a1)), (2, .ref (ad a2))] G dL_lay_136 3 rfl (by rw [ev26]; rfl) (by decide) rfl ?_
      refine v_goto 107 G dL_lay_139 (by decide) ?_
      refine v_sub _ [1, 2, 3, 0] rfl ?_
      exact ih v26 v25 hf
set_option maxRecDepth 100000 in
set_option maxHeartbeats 4000000 in
theorem s_L_lay_144 {ad : Nat → Nat} {cy : Nat → ClassId} {x : KX} (G : KG ad cy x cL_lay "NoonGuidesLaw" 5 (some (some .boolean)) 10) {a0 : Nat} {a1 : Nat} {a2 : Nat} {b Ln : Nat} {xs : Nat → Int32} {aK aV : Nat → Nat} (GW : KWx b Ln xs aK aV x) (h0 : kty a0 = 11) (h1 : kty a1 = 34) (h2 : kty a2 = 35) {k230 : KM → Option (Int32 × KM)} {y : (Int32 × KM)} (hk230 : ∀ (M : KM), k230 M = some y → KV ad cy x (some (.int y.1), y.2) 230 [(0, .ref (ad a0)), (1, .ref (ad a1)), (2, .ref (ad a2))] [] M) : ∀ (n : Nat) (w3 : Int32) (M : KM), lp_L_lay_144 n a0 a1 a2 w3 M k230 = some y → KV ad cy x (some (.int y.1), y.2) 144 [(0, .ref (ad a0)), (1, .ref (ad a1)), (2, .ref (ad a2)), (3, .int w3)] [] M := by
  intro n
  induction n with
  | zero =>
    intro w3 M hf
    cases hf
  | succ n ih =>
    intro w3 M hf
    rw [lp_L_lay_144] at hf
    refine v_iload_n G dL_lay_144 3 rfl ?_
    refine v_aload_n G dL_lay_145 2 rfl ?_
    refine v_iconst (1 : Int32) G dL_lay_146 (by decide) ?_
    obtain ⟨g29, hf⟩ := gd_e hf
    refine al_35 G h2 g29 dL_lay_147 ?_
    refine v_icmp_ge 230 G dL_lay_148 (by decide) (fun h44 => ?_) (fun h44 => ?_)
    · replace hf := (if_pos h44).symm.trans hf
      refine v_sub _ [0, 1, 2] rfl ?_
      exact hk230 M hf
    · replace hf := (if_neg h44).symm.trans hf
      refine v_aload_n G dL_lay_151 0 rfl ?_
      refine v_aload_n G dL_lay_152 1 rfl ?_
      refine v_ldcS (i := 8) G GW (by decide) rfl rfl dL_lay_153 ?_
      obtain ⟨v30, hcv30, hf⟩ := bd_e hf
      refine v_callS2 [.ref (ad a0), .ref (ad a1), .ref (aK 8)] G GW (c_L_say n h0 h1 (by decide) hcv30) t_937 t_938 t_0 t_939 nm_L_say (by decide) (by decide) rfl rfl (Nat.le_of_ble_eq_true rfl) dL_lay_155 (kv_rv ?_)
      refine v_aload_n G dL_lay_158 0 rfl ?_
      refine v_aload_n G dL_lay_159 1 rfl ?_
      refine v_bipush (108 : Int32) G dL_lay_160 (by decide) ?_
      refine v_aload_n G dL_lay_162 2 rfl ?_
      refine v_bipush (9 : Int32) G dL_lay_163 (by decide) ?_
      refine v_iload_n G dL_lay_165 3 rfl ?_
      refine v_iadd G dL_lay_166 ?_
      obtain ⟨g31, hf⟩ := gd_e hf
      refine al_35 G h2 g31 dL_lay_167 ?_
      obtain ⟨v32, hcv32, hf⟩ := bd_e hf
      refine v_callS [.ref (ad a0), .ref (ad a1), .int (108 : Int32), .int (v30.1 a2 (((9 : Int32) + w3)).toNatClampNeg)] G (c_L_name n h0 h1 hcv32) t_969 t_970 t_0 t_971 nm_L_name (by decide) (by decide) rfl rfl (Nat.le_of_ble_eq_true rfl) dL_lay_168 (kv_rv ?_)
      refine v_aload_n G dL_lay_171 0 rfl ?_
      refine v_aload_n G dL_lay_172 1 rfl ?_
      refine v_bipush (108 : Int32) G dL_lay_173 (by decide) ?_
      refine v_aload_n G dL_lay_175 2 rfl ?_
      refine v_bipush (13 : Int32) G dL_lay_176 (by decide) ?_
      refine v_iload_n G dL_lay_178 3 rfl ?_
      refine v_iadd G dL_lay_179 ?_
      obtain ⟨g33, hf⟩ := gd_e hf
      refine al_35 G h2 g33 dL_lay_180 ?_
      obtain ⟨v34, hcv34, hf⟩ := bd_e hf
      refine v_callS [.ref (ad a0), .ref (ad a1), .int (108 : Int32), .int (v32.1 a2 (((13 : Int32) + w3)).toNatClampNeg)] G (c_L_name n h0 h1 hcv34) t_969 t_970 t_0 t_971 nm_L_name (by decide) (by decide) rfl rfl (Nat.le_of_ble_eq_true rfl) dL_lay_181 (kv_rv ?_)
      refine v_aload_n G dL_lay_184 0 rfl ?_
      refine v_aload_n G dL_lay_185 1 rfl ?_
      refine v_ldcS (i := 9) G GW (by decide) rfl rfl dL_lay_186 ?_
      obtain ⟨v35, hcv35, hf⟩ := bd_e hf
      refine v_callS2 [.ref (ad a0), .ref (ad a1), .ref (aK 9)] G GW (c_L_say n h0 h1 (by decide) hcv35) t_937 t_938 t_0 t_939 nm_L_say (by decide) (by decide) rfl rfl (Nat.le_of_ble_eq_true rfl) dL_lay_188 (kv_rv ?_)
      refine v_aload_n G dL_lay_191 0 rfl ?_
      refine v_aload_n G dL_lay_192 1 rfl ?_
      refine v_aload_n G dL_lay_193 2 rfl ?_
      refine v_bipush (17 : Int32) G dL_lay_194 (by decide) ?_
      refine v_iload_n G dL_lay_196 3 rfl ?_
      refine v_iadd G dL_lay_197 ?_
      obtain ⟨g36, hf⟩ := gd_e hf
      refine al_35 G h2 g36 dL_lay_198 ?_
      obtain ⟨v37, hcv37, hf⟩ := bd_e hf
      refine v_callS [.ref (ad a0), .ref (ad a1), .int (v35.1 a2 (((17 : Int32) + w3)).toNatClampNeg)] G (c_L_number n h0 h1 hcv37) t_959 t_960 t_0 t_961 nm_L_number (by decide) (by decide) rfl rfl (Nat.le_of_ble_eq_true rfl) dL_lay_199 (kv_rv ?_)
      refine v_aload_n G dL_lay_202 0 rfl ?_
      refine v_aload_n G dL_lay_203 1 rfl ?_
      refine v_aload_n G dL_lay_204 2 rfl ?_
      refine v_bipush (21 : Int32) G dL_lay_205 (by decide) ?_
      refine v_iload_n G dL_lay_207 3 rfl ?_
      refine v_iadd G dL_lay_208 ?_
      obtain ⟨g38, hf⟩ := gd_e hf
      refine al_35 G h2 g38 dL_lay_209 ?_
      refine v_iconst (1 : Int32) G dL_lay_210 (by decide) ?_
      refine v_icmp_ne 219 G dL_lay_211 (by decide) (fun h43 => ?_) (fun h43 => ?_)
      · replace hf := (if_neg h43).symm.trans hf
        refine v_ldcS (i := 6) G GW (by decide) rfl rfl dL_lay_219 ?_
        obtain ⟨v39, hcv39, hf⟩ := bd_e hf
        refine v_callS2 [.ref (ad a0), .ref (ad a1), .ref (aK 6)] G GW (c_L_say n h0 h1 (by decide) hcv39) t_937 t_938 t_0 t_939 nm_L_say (by decide) (by decide) rfl rfl (Nat.le_of_ble_eq_true rfl) dL_lay_221 (kv_rv ?_)
        obtain ⟨v40, ev40⟩ : ∃ q : Int32, q = w3 + (1 : Int32) := ⟨_, rfl⟩
        replace hf := lt_e hf ev40
        refine v_iinc v40 [(3, .int v40), (0, .ref (ad a0)), (1, .ref (ad a1)), (2, .ref (ad a2))] G dL_lay_224 3 rfl (by rw [ev40]; rfl) (by decide) rfl ?_
        refine v_goto 144 G dL_lay_227 (by decide) ?_
        refine v_sub _ [1, 2, 3, 0] rfl ?_
        exact ih v40 v39 hf
      · replace hf := (if_pos h43).symm.trans hf
        refine v_ldcS (i := 10) G GW (by decide) rfl rfl dL_lay_214 ?_
        refine v_goto 221 G dL_lay_216 (by decide) ?_
        obtain ⟨v41, hcv41, hf⟩ := bd_e hf
        refine v_callS2 [.ref (ad a0), .ref (ad a1), .ref (aK 10)] G GW (c_L_say n h0 h1 (by decide) hcv41) t_937 t_938 t_0 t_939 nm_L_say (by decide) (by decide) rfl rfl (Nat.le_of_ble_eq_true rfl) dL_lay_221 (kv_rv ?_)
        obtain ⟨v42, ev42⟩ : ∃ q : Int32, q = w3 + (1 : Int32) := ⟨_, rfl⟩
        replace hf := lt_e hf ev42
        refine v_iinc v42 [(3, .int v42), (0, .ref (ad a0)), (1, .ref (ad a1)), (2, .ref (ad a2))] G dL_lay_224 3 rfl (by rw [ev42]; rfl) (by decide) rfl ?_
        refine v_goto 144 G dL_lay_227 (by decide) ?_
        refine v_sub _ [1, 2, 3, 0] rfl ?_
        exact ih v42 v41 hf
set_option maxRecDepth 100000 in
set_option maxHeartbeats 4000000 in
theorem s_L_lay_314 {ad : Nat → Nat} {cy : Nat → ClassId} {x : KX} (G : KG ad cy x cL_lay "NoonGuidesLaw" 5 (some (some .boolean)) 10) {a0 : Nat} {a1 : Nat} {a2 : Nat} {c3 : Int32} {b Ln : Nat} {xs : Nat → Int32} {aK aV : Nat → Nat} (GW : KWx b Ln xs aK aV x) (h0 : kty a0 = 11) (h1 : kty a1 = 34) (h2 : kty a2 = 35) {k395 : KM → Option (Int32 × KM)} {y : (Int32 × KM)} (hk395 : ∀ (M : KM), k395 M = some y → KV ad cy x (some (.int y.1), y.2) 395 [(0, .ref (ad a0)), (1, .ref (ad a1)), (2, .ref (ad a2)), (3, .int c3)] [] M) : ∀ (n : Nat) (w4 : Int32) (M : KM), lp_L_lay_314 n a0 a1 a2 c3 w4 M k395 = some y → KV ad cy x (some (.int y.1), y.2) 314 [(0, .ref (ad a0)), (1, .ref (ad a1)), (2, .ref (ad a2)), (3, .int c3), (4, .int w4)] [] M := by
  intro n
  induction n with
  | zero =>
    intro w4 M hf
    cases hf
  | succ n ih =>
    intro w4 M hf
    rw [lp_L_lay_314] at hf
    refine v_iload G dL_lay_314 4 rfl ?_
    refine v_aload_n G dL_lay_316 2 rfl ?_
    refine v_iconst (1 : Int32) G dL_lay_317 (by decide) ?_
    obtain ⟨g55, hf⟩ := gd_e hf
    refine al_35 G h2 g55 dL_lay_318 ?_
    refine v_icmp_ge 395 G dL_lay_319 (by decide) (fun h67 => ?_) (fun h67 => ?_)
    · replace hf := (if_pos h67).symm.trans hf
      refine v_sub _ [0, 1, 2, 3] rfl ?_
      exact hk395 M hf
    · replace hf := (if_neg h67).symm.trans hf
      refine v_aload_n G dL_lay_322 2 rfl ?_
      refine v_bipush (37 : Int32) G dL_lay_323 (by decide) ?_
      refine v_iconst (4 : Int32) G dL_lay_325 (by decide) ?_
      refine v_iload_n G dL_lay_326 3 rfl ?_
      refine v_imul G dL_lay_327 ?_
      refine v_iadd G dL_lay_328 ?_
      refine v_iload G dL_lay_329 4 rfl ?_
      refine v_iadd G dL_lay_331 ?_
      obtain ⟨g56, hf⟩ := gd_e hf
      refine al_35 G h2 g56 dL_lay_332 ?_
      obtain ⟨j389, ej389, hf⟩ := lt_j hf
      have hj389 : ∀ (M57 : KM), j389 M57 = some y → KV ad cy x (some (.int y.1), y.2) 389 [(0, .ref (ad a0)), (1, .ref (ad a1)), (2, .ref (ad a2)), (3, .int c3), (4, .int w4)] [] M57 := by
        intro M57 hf
        rw [ej389] at hf
        obtain ⟨v58, ev58⟩ : ∃ q : Int32, q = w4 + (1 : Int32) := ⟨_, rfl⟩
        replace hf := lt_e hf ev58
        refine v_iinc v58 [(4, .int v58), (0, .ref (ad a0)), (1, .ref (ad a1)), (2, .ref (ad a2)), (3, .int c3)] G dL_lay_389 4 rfl (by rw [ev58]; rfl) (by decide) rfl ?_
        refine v_goto 314 G dL_lay_392 (by decide) ?_
        refine v_sub _ [1, 2, 3, 4, 0] rfl ?_
        exact ih v58 M57 hf
      refine v_if_ne 339 G dL_lay_333 (by decide) (fun h66 => ?_) (fun h66 => ?_)
      · replace hf := (if_neg h66).symm.trans hf
        refine v_aload_n G dL_lay_339 0 rfl ?_
        refine v_aload_n G dL_lay_340 1 rfl ?_
        refine v_ldcS (i := 15) G GW (by decide) rfl rfl dL_lay_341 ?_
        obtain ⟨v59, hcv59, hf⟩ := bd_e hf
        refine v_callS2 [.ref (ad a0), .ref (ad a1), .ref (aK 15)] G GW (c_L_say n h0 h1 (by decide) hcv59) t_937 t_938 t_0 t_939 nm_L_say (by decide) (by decide) rfl rfl (Nat.le_of_ble_eq_true rfl) dL_lay_343 (kv_rv ?_)
        refine v_aload_n G dL_lay_346 0 rfl ?_
        refine v_aload_n G dL_lay_347 1 rfl ?_
        refine v_bipush (112 : Int32) G dL_lay_348 (by decide) ?_
        refine v_iload_n G dL_lay_350 3 rfl ?_
        obtain ⟨v60, hcv60, hf⟩ := bd_e hf
        refine v_callS [.ref (ad a0), .ref (ad a1), .int (112 : Int32), .int c3] G (c_L_name n h0 h1 hcv60) t_969 t_970 t_0 t_971 nm_L_name (by decide) (by decide) rfl rfl (Nat.le_of_ble_eq_true rfl) dL_lay_351 (kv_rv ?_)
        refine v_aload_n G dL_lay_354 0 rfl ?_
        refine v_aload_n G dL_lay_355 1 rfl ?_
        refine v_bipush (108 : Int32) G dL_lay_356 (by decide) ?_
        refine v_aload_n G dL_lay_358 2 rfl ?_
        refine v_bipush (13 : Int32) G dL_lay_359 (by decide) ?_
        refine v_iload G dL_lay_361 4 rfl ?_
        refine v_iadd G dL_lay_363 ?_
        obtain ⟨g61, hf⟩ := gd_e hf
        refine al_35 G h2 g61 dL_lay_364 ?_
        obtain ⟨v62, hcv62, hf⟩ := bd_e hf
        refine v_callS [.ref (ad a0), .ref (ad a1), .int (108 : Int32), .int (v60.1 a2 (((13 : Int32) + w4)).toNatClampNeg)] G (c_L_name n h0 h1 hcv62) t_969 t_970 t_0 t_971 nm_L_name (by decide) (by decide) rfl rfl (Nat.le_of_ble_eq_true rfl) dL_lay_365 (kv_rv ?_)
        refine v_aload_n G dL_lay_368 0 rfl ?_
        refine v_aload_n G dL_lay_369 1 rfl ?_
        refine v_bipush (108 : Int32) G dL_lay_370 (by decide) ?_
        refine v_aload_n G dL_lay_372 2 rfl ?_
        refine v_bipush (9 : Int32) G dL_lay_373 (by decide) ?_
        refine v_iload G dL_lay_375 4 rfl ?_
        refine v_iadd G dL_lay_377 ?_
        obtain ⟨g63, hf⟩ := gd_e hf
        refine al_35 G h2 g63 dL_lay_378 ?_
        obtain ⟨v64, hcv64, hf⟩ := bd_e hf
        refine v_callS [.ref (ad a0), .ref (ad a1), .int (108 : Int32), .int (v62.1 a2 (((9 : Int32) + w4)).toNatClampNeg)] G (c_L_name n h0 h1 hcv64) t_969 t_970 t_0 t_971 nm_L_name (by decide) (by decide) rfl rfl (Nat.le_of_ble_eq_true rfl) dL_lay_379 (kv_rv ?_)
        refine v_aload_n G dL_lay_382 0 rfl ?_
        refine v_aload_n G dL_lay_383 1 rfl ?_
        refine v_ldcS (i := 6) G GW (by decide) rfl rfl dL_lay_384 ?_
        obtain ⟨v65, hcv65, hf⟩ := bd_e hf
        refine v_callS2 [.ref (ad a0), .ref (ad a1), .ref (aK 6)] G GW (c_L_say n h0 h1 (by decide) hcv65) t_937 t_938 t_0 t_939 nm_L_say (by decide) (by decide) rfl rfl (Nat.le_of_ble_eq_true rfl) dL_lay_386 (kv_rv ?_)
        refine v_sub _ [0, 1, 2, 3, 4] rfl ?_
        exact hj389 v65 hf
      · replace hf := (if_pos h66).symm.trans hf
        refine v_goto 389 G dL_lay_336 (by decide) ?_
        refine v_sub _ [0, 1, 2, 3, 4] rfl ?_
        exact hj389 M hf
set_option maxRecDepth 100000 in
set_option maxHeartbeats 4000000 in
theorem s_L_lay_232 {ad : Nat → Nat} {cy : Nat → ClassId} {x : KX} (G : KG ad cy x cL_lay "NoonGuidesLaw" 5 (some (some .boolean)) 10) {a0 : Nat} {a1 : Nat} {a2 : Nat} {b Ln : Nat} {xs : Nat → Int32} {aK aV : Nat → Nat} (GW : KWx b Ln xs aK aV x) (h0 : kty a0 = 11) (h1 : kty a1 = 34) (h2 : kty a2 = 35) {k401 : KM → Option (Int32 × KM)} {y : (Int32 × KM)} (hk401 : ∀ (M : KM), k401 M = some y → KV ad cy x (some (.int y.1), y.2) 401 [(0, .ref (ad a0)), (1, .ref (ad a1)), (2, .ref (ad a2))] [] M) : ∀ (n : Nat) (w3 : Int32) (M : KM), lp_L_lay_232 n a0 a1 a2 w3 M k401 = some y → KV ad cy x (some (.int y.1), y.2) 232 [(0, .ref (ad a0)), (1, .ref (ad a1)), (2, .ref (ad a2)), (3, .int w3)] [] M := by
  intro n
  induction n with
  | zero =>
    intro w3 M hf
    cases hf
  | succ n ih =>
    intro w3 M hf
    rw [lp_L_lay_232] at hf
    refine v_iload_n G dL_lay_232 3 rfl ?_
    refine v_aload_n G dL_lay_233 2 rfl ?_
    refine v_iconst (2 : Int32) G dL_lay_234 (by decide) ?_
    obtain ⟨g46, hf⟩ := gd_e hf
    refine al_35 G h2 g46 dL_lay_235 ?_
    refine v_icmp_ge 401 G dL_lay_236 (by decide) (fun h88 => ?_) (fun h88 => ?_)
    · replace hf := (if_pos h88).symm.trans hf
      refine v_sub _ [0, 1, 2] rfl ?_
      exact hk401 M hf
    · replace hf := (if_neg h88).symm.trans hf
      refine v_aload_n G dL_lay_239 0 rfl ?_
      refine v_aload_n G dL_lay_240 1 rfl ?_
      refine v_aload_n G dL_lay_241 2 rfl ?_
      refine v_bipush (33 : Int32) G dL_lay_242 (by decide) ?_
      refine v_iload_n G dL_lay_244 3 rfl ?_
      refine v_iadd G dL_lay_245 ?_
      obtain ⟨g47, hf⟩ := gd_e hf
      refine al_35 G h2 g47 dL_lay_246 ?_
      refine v_iconst (1 : Int32) G dL_lay_247 (by decide) ?_
      refine v_icmp_ne 256 G dL_lay_248 (by decide) (fun h87 => ?_) (fun h87 => ?_)
      · replace hf := (if_neg h87).symm.trans hf
        refine v_ldcS (i := 12) G GW (by decide) rfl rfl dL_lay_256 ?_
        obtain ⟨v48, hcv48, hf⟩ := bd_e hf
        refine v_callS2 [.ref (ad a0), .ref (ad a1), .ref (aK 12)] G GW (c_L_say n h0 h1 (by decide) hcv48) t_937 t_938 t_0 t_939 nm_L_say (by decide) (by decide) rfl rfl (Nat.le_of_ble_eq_true rfl) dL_lay_258 (kv_rv ?_)
        refine v_aload_n G dL_lay_261 0 rfl ?_
        refine v_aload_n G dL_lay_262 1 rfl ?_
        refine v_bipush (112 : Int32) G dL_lay_263 (by decide) ?_
        refine v_iload_n G dL_lay_265 3 rfl ?_
        obtain ⟨v49, hcv49, hf⟩ := bd_e hf
        refine v_callS [.ref (ad a0), .ref (ad a1), .int (112 : Int32), .int w3] G (c_L_name n h0 h1 hcv49) t_969 t_970 t_0 t_971 nm_L_name (by decide) (by decide) rfl rfl (Nat.le_of_ble_eq_true rfl) dL_lay_266 (kv_rv ?_)
        refine v_aload_n G dL_lay_269 0 rfl ?_
        refine v_aload_n G dL_lay_270 1 rfl ?_
        refine v_ldcS (i := 13) G GW (by decide) rfl rfl dL_lay_271 ?_
        obtain ⟨v50, hcv50, hf⟩ := bd_e hf
        refine v_callS2 [.ref (ad a0), .ref (ad a1), .ref (aK 13)] G GW (c_L_say n h0 h1 (by decide) hcv50) t_937 t_938 t_0 t_939 nm_L_say (by decide) (by decide) rfl rfl (Nat.le_of_ble_eq_true rfl) dL_lay_273 (kv_rv ?_)
        refine v_aload_n G dL_lay_276 0 rfl ?_
        refine v_aload_n G dL_lay_277 1 rfl ?_
        refine v_bipush (108 : Int32) G dL_lay_278 (by decide) ?_
        refine v_aload_n G dL_lay_280 2 rfl ?_
        refine v_bipush (25 : Int32) G dL_lay_281 (by decide) ?_
        refine v_iload_n G dL_lay_283 3 rfl ?_
        refine v_iadd G dL_lay_284 ?_
        obtain ⟨g51, hf⟩ := gd_e hf
        refine al_35 G h2 g51 dL_lay_285 ?_
        obtain ⟨v52, hcv52, hf⟩ := bd_e hf
        refine v_callS [.ref (ad a0), .ref (ad a1), .int (108 : Int32), .int (v50.1 a2 (((25 : Int32) + w3)).toNatClampNeg)] G (c_L_name n h0 h1 hcv52) t_969 t_970 t_0 t_971 nm_L_name (by decide) (by decide) rfl rfl (Nat.le_of_ble_eq_true rfl) dL_lay_286 (kv_rv ?_)
        refine v_aload_n G dL_lay_289 0 rfl ?_
        refine v_aload_n G dL_lay_290 1 rfl ?_
        refine v_aload_n G dL_lay_291 2 rfl ?_
        refine v_bipush (29 : Int32) G dL_lay_292 (by decide) ?_
        refine v_iload_n G dL_lay_294 3 rfl ?_
        refine v_iadd G dL_lay_295 ?_
        obtain ⟨g53, hf⟩ := gd_e hf
        refine al_35 G h2 g53 dL_lay_296 ?_
        refine v_iconst (1 : Int32) G dL_lay_297 (by decide) ?_
        refine v_icmp_ne 306 G dL_lay_298 (by decide) (fun h73 => ?_) (fun h73 => ?_)
        · replace hf := (if_neg h73).symm.trans hf
          refine v_ldcS (i := 6) G GW (by decide) rfl rfl dL_lay_306 ?_
          obtain ⟨v54, hcv54, hf⟩ := bd_e hf
          refine v_callS2 [.ref (ad a0), .ref (ad a1), .ref (aK 6)] G GW (c_L_say n h0 h1 (by decide) hcv54) t_937 t_938 t_0 t_939 nm_L_say (by decide) (by decide) rfl rfl (Nat.le_of_ble_eq_true rfl) dL_lay_308 (kv_rv ?_)
          refine v_iconst (0 : Int32) G dL_lay_311 (by decide) ?_
          refine v_istore [(4, .int (0 : Int32)), (0, .ref (ad a0)), (1, .ref (ad a1)), (2, .ref (ad a2)), (3, .int w3)] G dL_lay_312 (by decide) rfl ?_
          refine v_sub _ [1, 2, 3, 4, 0] rfl ?_
          refine s_L_lay_314 G GW h0 h1 h2 (fun M68 hf => ?_) n (0 : Int32) v54 hf
          · obtain ⟨v69, ev69⟩ : ∃ q : Int32, q = w3 + (1 : Int32) := ⟨_, rfl⟩
            replace hf := lt_e hf ev69
            refine v_iinc v69 [(3, .int v69), (0, .ref (ad a0)), (1, .ref (ad a1)), (2, .ref (ad a2))] G dL_lay_395 3 rfl (by rw [ev69]; rfl) (by decide) rfl ?_
            refine v_goto 232 G dL_lay_398 (by decide) ?_
            refine v_sub _ [1, 2, 3, 0] rfl ?_
            exact ih v69 M68 hf
        · replace hf := (if_pos h73).symm.trans hf
          refine v_ldcS (i := 14) G GW (by decide) rfl rfl dL_lay_301 ?_
          refine v_goto 308 G dL_lay_303 (by decide) ?_
          obtain ⟨v70, hcv70, hf⟩ := bd_e hf
          refine v_callS2 [.ref (ad a0), .ref (ad a1), .ref (aK 14)] G GW (c_L_say n h0 h1 (by decide) hcv70) t_937 t_938 t_0 t_939 nm_L_say (by decide) (by decide) rfl rfl (Nat.le_of_ble_eq_true rfl) dL_lay_308 (kv_rv ?_)
          refine v_iconst (0 : Int32) G dL_lay_311 (by decide) ?_
          refine v_istore [(4, .int (0 : Int32)), (0, .ref (ad a0)), (1, .ref (ad a1)), (2, .ref (ad a2)), (3, .int w3)] G dL_lay_312 (by decide) rfl ?_
          refine v_sub _ [1, 2, 3, 4, 0] rfl ?_
          refine s_L_lay_314 G GW h0 h1 h2 (fun M71 hf => ?_) n (0 : Int32) v70 hf
          · obtain ⟨v72, ev72⟩ : ∃ q : Int32, q = w3 + (1 : Int32) := ⟨_, rfl⟩
            replace hf := lt_e hf ev72
            refine v_iinc v72 [(3, .int v72), (0, .ref (ad a0)), (1, .ref (ad a1)), (2, .ref (ad a2))] G dL_lay_395 3 rfl (by rw [ev72]; rfl) (by decide) rfl ?_
            refine v_goto 232 G dL_lay_398 (by decide) ?_
            refine v_sub _ [1, 2, 3, 0] rfl ?_
            exact ih v72 M71 hf
      · replace hf := (if_pos h87).symm.trans hf
        refine v_ldcS (i := 11) G GW (by decide) rfl rfl dL_lay_251 ?_
        refine v_goto 258 G dL_lay_253 (by decide) ?_
        obtain ⟨v74, hcv74, hf⟩ := bd_e hf
        refine v_callS2 [.ref (ad a0), .ref (ad a1), .ref (aK 11)] G GW (c_L_say n h0 h1 (by decide) hcv74) t_937 t_938 t_0 t_939 nm_L_say (by decide) (by decide) rfl rfl (Nat.le_of_ble_eq_true rfl) dL_lay_258 (kv_rv ?_)
        refine v_aload_n G dL_lay_261 0 rfl ?_
        refine v_aload_n G dL_lay_262 1 rfl ?_
        refine v_bipush (112 : Int32) G dL_lay_263 (by decide) ?_
        refine v_iload_n G dL_lay_265 3 rfl ?_
        obtain ⟨v75, hcv75, hf⟩ := bd_e hf
        refine v_callS [.ref (ad a0), .ref (ad a1), .int (112 : Int32), .int w3] G (c_L_name n h0 h1 hcv75) t_969 t_970 t_0 t_971 nm_L_name (by decide) (by decide) rfl rfl (Nat.le_of_ble_eq_true rfl) dL_lay_266 (kv_rv ?_)
        refine v_aload_n G dL_lay_269 0 rfl ?_
        refine v_aload_n G dL_lay_270 1 rfl ?_
        refine v_ldcS (i := 13) G GW (by decide) rfl rfl dL_lay_271 ?_
        obtain ⟨v76, hcv76, hf⟩ := bd_e hf
        refine v_callS2 [.ref (ad a0), .ref (ad a1), .ref (aK 13)] G GW (c_L_say n h0 h1 (by decide) hcv76) t_937 t_938 t_0 t_939 nm_L_say (by decide) (by decide) rfl rfl (Nat.le_of_ble_eq_true rfl) dL_lay_273 (kv_rv ?_)
        refine v_aload_n G dL_lay_276 0 rfl ?_
        refine v_aload_n G dL_lay_277 1 rfl ?_
        refine v_bipush (108 : Int32) G dL_lay_278 (by decide) ?_
        refine v_aload_n G dL_lay_280 2 rfl ?_
        refine v_bipush (25 : Int32) G dL_lay_281 (by decide) ?_
        refine v_iload_n G dL_lay_283 3 rfl ?_
        refine v_iadd G dL_lay_284 ?_
        obtain ⟨g77, hf⟩ := gd_e hf
        refine al_35 G h2 g77 dL_lay_285 ?_
        obtain ⟨v78, hcv78, hf⟩ := bd_e hf
        refine v_callS [.ref (ad a0), .ref (ad a1), .int (108 : Int32), .int (v76.1 a2 (((25 : Int32) + w3)).toNatClampNeg)] G (c_L_name n h0 h1 hcv78) t_969 t_970 t_0 t_971 nm_L_name (by decide) (by decide) rfl rfl (Nat.le_of_ble_eq_true rfl) dL_lay_286 (kv_rv ?_)
        refine v_aload_n G dL_lay_289 0 rfl ?_
        refine v_aload_n G dL_lay_290 1 rfl ?_
        refine v_aload_n G dL_lay_291 2 rfl ?_
        refine v_bipush (29 : Int32) G dL_lay_292 (by decide) ?_
        refine v_iload_n G dL_lay_294 3 rfl ?_
        refine v_iadd G dL_lay_295 ?_
        obtain ⟨g79, hf⟩ := gd_e hf
        refine al_35 G h2 g79 dL_lay_296 ?_
        refine v_iconst (1 : Int32) G dL_lay_297 (by decide) ?_
        refine v_icmp_ne 306 G dL_lay_298 (by decide) (fun h86 => ?_) (fun h86 => ?_)
        · replace hf := (if_neg h86).symm.trans hf
          refine v_ldcS (i := 6) G GW (by decide) rfl rfl dL_lay_306 ?_
          obtain ⟨v80, hcv80, hf⟩ := bd_e hf
          refine v_callS2 [.ref (ad a0), .ref (ad a1), .ref (aK 6)] G GW (c_L_say n h0 h1 (by decide) hcv80) t_937 t_938 t_0 t_939 nm_L_say (by decide) (by decide) rfl rfl (Nat.le_of_ble_eq_true rfl) dL_lay_308 (kv_rv ?_)
          refine v_iconst (0 : Int32) G dL_lay_311 (by decide) ?_
          refine v_istore [(4, .int (0 : Int32)), (0, .ref (ad a0)), (1, .ref (ad a1)), (2, .ref (ad a2)), (3, .int w3)] G dL_lay_312 (by decide) rfl ?_
          refine v_sub _ [1, 2, 3, 4, 0] rfl ?_
          refine s_L_lay_314 G GW h0 h1 h2 (fun M81 hf => ?_) n (0 : Int32) v80 hf
          · obtain ⟨v82, ev82⟩ : ∃ q : Int32, q = w3 + (1 : Int32) := ⟨_, rfl⟩
            replace hf := lt_e hf ev82
            refine v_iinc v82 [(3, .int v82), (0, .ref (ad a0)), (1, .ref (ad a1)), (2, .ref (ad a2))] G dL_lay_395 3 rfl (by rw [ev82]; rfl) (by decide) rfl ?_
            refine v_goto 232 G dL_lay_398 (by decide) ?_
            refine v_sub _ [1, 2, 3, 0] rfl ?_
            exact ih v82 M81 hf
        · replace hf := (if_pos h86).symm.trans hf
          refine v_ldcS (i := 14) G GW (by decide) rfl rfl dL_lay_301 ?_
          refine v_goto 308 G dL_lay_303 (by decide) ?_
          obtain ⟨v83, hcv83, hf⟩ := bd_e hf
          refine v_callS2 [.ref (ad a0), .ref (ad a1), .ref (aK 14)] G GW (c_L_say n h0 h1 (by decide) hcv83) t_937 t_938 t_0 t_939 nm_L_say (by decide) (by decide) rfl rfl (Nat.le_of_ble_eq_true rfl) dL_lay_308 (kv_rv ?_)
          refine v_iconst (0 : Int32) G dL_lay_311 (by decide) ?_
          refine v_istore [(4, .int (0 : Int32)), (0, .ref (ad a0)), (1, .ref (ad a1)), (2, .ref (ad a2)), (3, .int w3)] G dL_lay_312 (by decide) rfl ?_
          refine v_sub _ [1, 2, 3, 4, 0] rfl ?_
          refine s_L_lay_314 G GW h0 h1 h2 (fun M84 hf => ?_) n (0 : Int32) v83 hf
          · obtain ⟨v85, ev85⟩ : ∃ q : Int32, q = w3 + (1 : Int32) := ⟨_, rfl⟩
            replace hf := lt_e hf ev85
            refine v_iinc v85 [(3, .int v85), (0, .ref (ad a0)), (1, .ref (ad a1)), (2, .ref (ad a2))] G dL_lay_395 3 rfl (by rw [ev85]; rfl) (by decide) rfl ?_
            refine v_goto 232 G dL_lay_398 (by decide) ?_
            refine v_sub _ [1, 2, 3, 0] rfl ?_
            exact ih v85 M84 hf
set_option maxRecDepth 100000 in
set_option maxHeartbeats 4000000 in
theorem c_L_lay {l : Launch} {ad : Nat → Nat} {cy : Nat → ClassId} {D : va_G} {z : Nat} (n : Nat) {a0 : Nat} {a1 : Nat} {a2 : Nat} {b Ln : Nat} {xs : Nat → Int32} {aK aV : Nat → Nat} {M : KM} {y : (Int32 × KM)} (h0 : kty a0 = 11) (h1 : kty a1 = 34) (h2 : kty a2 = 35) (hf : f_L_lay n a0 a1 a2 M = some y) : KC2 l ad cy D z b Ln xs aK aV yL_lay cL_lay 5 (some .boolean) 10 [.ref (ad a0), .ref (ad a1), .ref (ad a2)] M (some (.int y.1), y.2) := by
  refine kv_enter2 (by decide +kernel) (Nat.le_of_ble_eq_true rfl) ?_
  intro x hl hD hz G GW
  subst hl hD hz
  unfold f_L_lay at hf
  have G : KG ad cy x cL_lay "NoonGuidesLaw" 5 (some (some .boolean)) 10 := G
  show KV ad cy x (some (.int y.1), y.2) 0 [(0, .ref (ad a0)), (1, .ref (ad a1)), (2, .ref (ad a2))] [] M
  refine v_aload_n G dL_lay_0 1 rfl ?_
  refine v_bipush (22 : Int32) G dL_lay_1 (by decide) ?_
  refine v_iconst (0 : Int32) G dL_lay_3 (by decide) ?_
  obtain ⟨g1, hf⟩ := gd_e hf
  refine as_34 G h1 g1 dL_lay_4 ?_
  refine v_nmM (fun M2 eM2 => ?_)
  replace hf := lt_e hf eM2
  refine v_aload_n G dL_lay_5 0 rfl ?_
  refine v_aload_n G dL_lay_6 1 rfl ?_
  refine v_ldcS (i := 0) G GW (by decide) rfl rfl dL_lay_7 ?_
  obtain ⟨v3, hcv3, hf⟩ := bd_e hf
  refine v_callS2 [.ref (ad a0), .ref (ad a1), .ref (aK 0)] G GW (c_L_say n h0 h1 (by decide) hcv3) t_937 t_938 t_0 t_939 nm_L_say (by decide) (by decide) rfl rfl (Nat.le_of_ble_eq_true rfl) dL_lay_9 (kv_rv ?_)
  refine v_aload_n G dL_lay_12 0 rfl ?_
  refine v_aload_n G dL_lay_13 1 rfl ?_
  refine v_aload_n G dL_lay_14 2 rfl ?_
  refine v_iconst (3 : Int32) G dL_lay_15 (by decide) ?_
  obtain ⟨g4, hf⟩ := gd_e hf
  refine al_35 G h2 g4 dL_lay_16 ?_
  obtain ⟨v5, hcv5, hf⟩ := bd_e hf
  refine v_callS [.ref (ad a0), .ref (ad a1), .int (v3.1 a2 ((3 : Int32)).toNatClampNeg)] G (c_L_number n h0 h1 hcv5) t_959 t_960 t_0 t_961 nm_L_number (by decide) (by decide) rfl rfl (Nat.le_of_ble_eq_true rfl) dL_lay_17 (kv_rv ?_)
  refine v_aload_n G dL_lay_20 0 rfl ?_
  refine v_aload_n G dL_lay_21 1 rfl ?_
  refine v_ldcS (i := 1) G GW (by decide) rfl rfl dL_lay_22 ?_
  obtain ⟨v6, hcv6, hf⟩ := bd_e hf
  refine v_callS2 [.ref (ad a0), .ref (ad a1), .ref (aK 1)] G GW (c_L_say n h0 h1 (by decide) hcv6) t_937 t_938 t_0 t_939 nm_L_say (by decide) (by decide) rfl rfl (Nat.le_of_ble_eq_true rfl) dL_lay_24 (kv_rv ?_)
  refine v_aload_n G dL_lay_27 0 rfl ?_
  refine v_aload_n G dL_lay_28 1 rfl ?_
  refine v_aload_n G dL_lay_29 2 rfl ?_
  refine v_iconst (4 : Int32) G dL_lay_30 (by decide) ?_
  obtain ⟨g7, hf⟩ := gd_e hf
  refine al_35 G h2 g7 dL_lay_31 ?_
  obtain ⟨v8, hcv8, hf⟩ := bd_e hf
  refine v_callS [.ref (ad a0), .ref (ad a1), .int (v6.1 a2 ((4 : Int32)).toNatClampNeg)] G (c_L_number n h0 h1 hcv8) t_959 t_960 t_0 t_961 nm_L_number (by decide) (by decide) rfl rfl (Nat.le_of_ble_eq_true rfl) dL_lay_32 (kv_rv ?_)
  refine v_aload_n G dL_lay_35 0 rfl ?_
  refine v_aload_n G dL_lay_36 1 rfl ?_
  refine v_ldcS (i := 2) G GW (by decide) rfl rfl dL_lay_37 ?_
  obtain ⟨v9, hcv9, hf⟩ := bd_e hf
  refine v_callS2 [.ref (ad a0), .ref (ad a1), .ref (aK 2)] G GW (c_L_say n h0 h1 (by decide) hcv9) t_937 t_938 t_0 t_939 nm_L_say (by decide) (by decide) rfl rfl (Nat.le_of_ble_eq_true rfl) dL_lay_39 (kv_rv ?_)
  refine v_aload_n G dL_lay_42 0 rfl ?_
  refine v_aload_n G dL_lay_43 1 rfl ?_
  refine v_aload_n G dL_lay_44 2 rfl ?_
  refine v_iconst (5 : Int32) G dL_lay_45 (by decide) ?_
  obtain ⟨g10, hf⟩ := gd_e hf
  refine al_35 G h2 g10 dL_lay_46 ?_
  obtain ⟨v11, hcv11, hf⟩ := bd_e hf
  refine v_callS [.ref (ad a0), .ref (ad a1), .int (v9.1 a2 ((5 : Int32)).toNatClampNeg)] G (c_L_number n h0 h1 hcv11) t_959 t_960 t_0 t_961 nm_L_number (by decide) (by decide) rfl rfl (Nat.le_of_ble_eq_true rfl) dL_lay_47 (kv_rv ?_)
  refine v_aload_n G dL_lay_50 0 rfl ?_
  refine v_aload_n G dL_lay_51 1 rfl ?_
  refine v_ldcS (i := 3) G GW (by decide) rfl rfl dL_lay_52 ?_
  obtain ⟨v12, hcv12, hf⟩ := bd_e hf
  refine v_callS2 [.ref (ad a0), .ref (ad a1), .ref (aK 3)] G GW (c_L_say n h0 h1 (by decide) hcv12) t_937 t_938 t_0 t_939 nm_L_say (by decide) (by decide) rfl rfl (Nat.le_of_ble_eq_true rfl) dL_lay_54 (kv_rv ?_)
  refine v_aload_n G dL_lay_57 0 rfl ?_
  refine v_aload_n G dL_lay_58 1 rfl ?_
  refine v_aload_n G dL_lay_59 2 rfl ?_
  refine v_bipush (6 : Int32) G dL_lay_60 (by decide) ?_
  obtain ⟨g13, hf⟩ := gd_e hf
  refine al_35 G h2 g13 dL_lay_62 ?_
  obtain ⟨v14, hcv14, hf⟩ := bd_e hf
  refine v_callS [.ref (ad a0), .ref (ad a1), .int (v12.1 a2 ((6 : Int32)).toNatClampNeg)] G (c_L_number n h0 h1 hcv14) t_959 t_960 t_0 t_961 nm_L_number (by decide) (by decide) rfl rfl (Nat.le_of_ble_eq_true rfl) dL_lay_63 (kv_rv ?_)
  refine v_aload_n G dL_lay_66 0 rfl ?_
  refine v_aload_n G dL_lay_67 1 rfl ?_
  refine v_ldcS (i := 4) G GW (by decide) rfl rfl dL_lay_68 ?_
  obtain ⟨v15, hcv15, hf⟩ := bd_e hf
  refine v_callS2 [.ref (ad a0), .ref (ad a1), .ref (aK 4)] G GW (c_L_say n h0 h1 (by decide) hcv15) t_937 t_938 t_0 t_939 nm_L_say (by decide) (by decide) rfl rfl (Nat.le_of_ble_eq_true rfl) dL_lay_70 (kv_rv ?_)
  refine v_aload_n G dL_lay_73 0 rfl ?_
  refine v_aload_n G dL_lay_74 1 rfl ?_
  refine v_aload_n G dL_lay_75 2 rfl ?_
  refine v_bipush (7 : Int32) G dL_lay_76 (by decide) ?_
  obtain ⟨g16, hf⟩ := gd_e hf
  refine al_35 G h2 g16 dL_lay_78 ?_
  obtain ⟨v17, hcv17, hf⟩ := bd_e hf
  refine v_callS [.ref (ad a0), .ref (ad a1), .int (v15.1 a2 ((7 : Int32)).toNatClampNeg)] G (c_L_number n h0 h1 hcv17) t_959 t_960 t_0 t_961 nm_L_number (by decide) (by decide) rfl rfl (Nat.le_of_ble_eq_true rfl) dL_lay_79 (kv_rv ?_)
  refine v_aload_n G dL_lay_82 0 rfl ?_
  refine v_aload_n G dL_lay_83 1 rfl ?_
  refine v_ldcS (i := 5) G GW (by decide) rfl rfl dL_lay_84 ?_
  obtain ⟨v18, hcv18, hf⟩ := bd_e hf
  refine v_callS2 [.ref (ad a0), .ref (ad a1), .ref (aK 5)] G GW (c_L_say n h0 h1 (by decide) hcv18) t_937 t_938 t_0 t_939 nm_L_say (by decide) (by decide) rfl rfl (Nat.le_of_ble_eq_true rfl) dL_lay_86 (kv_rv ?_)
  refine v_aload_n G dL_lay_89 0 rfl ?_
  refine v_aload_n G dL_lay_90 1 rfl ?_
  refine v_aload_n G dL_lay_91 2 rfl ?_
  refine v_bipush (8 : Int32) G dL_lay_92 (by decide) ?_
  obtain ⟨g19, hf⟩ := gd_e hf
  refine al_35 G h2 g19 dL_lay_94 ?_
  obtain ⟨v20, hcv20, hf⟩ := bd_e hf
  refine v_callS [.ref (ad a0), .ref (ad a1), .int (v18.1 a2 ((8 : Int32)).toNatClampNeg)] G (c_L_number n h0 h1 hcv20) t_959 t_960 t_0 t_961 nm_L_number (by decide) (by decide) rfl rfl (Nat.le_of_ble_eq_true rfl) dL_lay_95 (kv_rv ?_)
  refine v_aload_n G dL_lay_98 0 rfl ?_
  refine v_aload_n G dL_lay_99 1 rfl ?_
  refine v_ldcS (i := 6) G GW (by decide) rfl rfl dL_lay_100 ?_
  obtain ⟨v21, hcv21, hf⟩ := bd_e hf
  refine v_callS2 [.ref (ad a0), .ref (ad a1), .ref (aK 6)] G GW (c_L_say n h0 h1 (by decide) hcv21) t_937 t_938 t_0 t_939 nm_L_say (by decide) (by decide) rfl rfl (Nat.le_of_ble_eq_true rfl) dL_lay_102 (kv_rv ?_)
  refine v_iconst (0 : Int32) G dL_lay_105 (by decide) ?_
  refine v_istore_n [(3, .int (0 : Int32)), (0, .ref (ad a0)), (1, .ref (ad a1)), (2, .ref (ad a2))] G dL_lay_106 (by decide) rfl ?_
  refine v_sub _ [1, 2, 3, 0] rfl ?_
  refine s_L_lay_107 G GW h0 h1 h2 (fun M28 hf => ?_) n (0 : Int32) v21 hf
  · refine v_iconst (0 : Int32) G dL_lay_142 (by decide) ?_
    refine v_istore_n [(3, .int (0 : Int32)), (0, .ref (ad a0)), (1, .ref (ad a1)), (2, .ref (ad a2))] G dL_lay_143 (by decide) rfl ?_
    refine v_sub _ [1, 2, 3, 0] rfl ?_
    refine s_L_lay_144 G GW h0 h1 h2 (fun M45 hf => ?_) n (0 : Int32) M28 hf
    · refine v_iconst (0 : Int32) G dL_lay_230 (by decide) ?_
      refine v_istore_n [(3, .int (0 : Int32)), (0, .ref (ad a0)), (1, .ref (ad a1)), (2, .ref (ad a2))] G dL_lay_231 (by decide) rfl ?_
      refine v_sub _ [1, 2, 3, 0] rfl ?_
      refine s_L_lay_232 G GW h0 h1 h2 (fun M89 hf => ?_) n (0 : Int32) M45 hf
      · refine v_aload_n G dL_lay_401 0 rfl ?_
        refine v_aload_n G dL_lay_402 1 rfl ?_
        obtain ⟨v90, hcv90, hf⟩ := bd_e hf
        refine v_callS [.ref (ad a0), .ref (ad a1)] G (c_L_load n h0 h1 hcv90) t_980 t_981 t_0 t_982 nm_L_load (by decide) (by decide) rfl rfl (Nat.le_of_ble_eq_true rfl) dL_lay_403 (kv_ri ?_)
        refine v_aload_n G dL_lay_406 2 rfl ?_
        refine v_iconst (2 : Int32) G dL_lay_407 (by decide) ?_
        obtain ⟨g91, hf⟩ := gd_e hf
        refine al_35 G h2 g91 dL_lay_408 ?_
        refine v_icmp_ne 416 G dL_lay_409 (by decide) (fun h92 => ?_) (fun h92 => ?_)
        · replace hf := (if_neg h92).symm.trans hf
          refine v_iconst (0 : Int32) G dL_lay_416 (by decide) ?_
          obtain rfl := Option.some.inj hf
          exact v_zret G (Or.inl rfl) dL_lay_417
        · replace hf := (if_pos h92).symm.trans hf
          refine v_iconst (1 : Int32) G dL_lay_412 (by decide) ?_
          refine v_goto 417 G dL_lay_413 (by decide) ?_
          obtain rfl := Option.some.inj hf
          exact v_zret G (Or.inr rfl) dL_lay_417
abbrev cL_draw : ByteArray := method_10_code
def yL_draw : MethodName := ⟨RL, "draw", "([I[I)V"⟩
theorem dL_draw_0 : dc cL_draw 0 (.aload_n 0) 1 1 := ⟨by decide +kernel, rfl⟩
theorem dL_draw_1 : dc cL_draw 1 (.arraylength) 1 2 := ⟨by decide +kernel, rfl⟩
theorem dL_draw_2 : dc cL_draw 2 (.ifCond .ne 9) 3 5 := ⟨by decide +kernel, rfl⟩
theorem dL_draw_5 : dc cL_draw 5 (.sipush 7919) 3 8 := ⟨by decide +kernel, rfl⟩
theorem dL_draw_8 : dc cL_draw 8 (.goto 6) 3 11 := ⟨by decide +kernel, rfl⟩
theorem dL_draw_11 : dc cL_draw 11 (.aload_n 0) 1 12 := ⟨by decide +kernel, rfl⟩
theorem dL_draw_12 : dc cL_draw 12 (.iconst 0) 1 13 := ⟨by decide +kernel, rfl⟩
theorem dL_draw_13 : dc cL_draw 13 (.iaload) 1 14 := ⟨by decide +kernel, rfl⟩
theorem dL_draw_14 : dc cL_draw 14 (.istore_n 2) 1 15 := ⟨by decide +kernel, rfl⟩
theorem dL_draw_15 : dc cL_draw 15 (.aload_n 1) 1 16 := ⟨by decide +kernel, rfl⟩
theorem dL_draw_16 : dc cL_draw 16 (.iconst 0) 1 17 := ⟨by decide +kernel, rfl⟩
theorem dL_draw_17 : dc cL_draw 17 (.iconst 1) 1 18 := ⟨by decide +kernel, rfl⟩
theorem dL_draw_18 : dc cL_draw 18 (.iload_n 2) 1 19 := ⟨by decide +kernel, rfl⟩
theorem dL_draw_19 : dc cL_draw 19 (.iconst 3) 1 20 := ⟨by decide +kernel, rfl⟩
theorem dL_draw_20 : dc cL_draw 20 (.iand) 1 21 := ⟨by decide +kernel, rfl⟩
theorem dL_draw_21 : dc cL_draw 21 (.iadd) 1 22 := ⟨by decide +kernel, rfl⟩
theorem dL_draw_22 : dc cL_draw 22 (.iastore) 1 23 := ⟨by decide +kernel, rfl⟩
theorem dL_draw_23 : dc cL_draw 23 (.aload_n 1) 1 24 := ⟨by decide +kernel, rfl⟩
theorem dL_draw_24 : dc cL_draw 24 (.iconst 2) 1 25 := ⟨by decide +kernel, rfl⟩
theorem dL_draw_25 : dc cL_draw 25 (.iload_n 2) 1 26 := ⟨by decide +kernel, rfl⟩
theorem dL_draw_26 : dc cL_draw 26 (.iconst 2) 1 27 := ⟨by decide +kernel, rfl⟩
theorem dL_draw_27 : dc cL_draw 27 (.ishr) 1 28 := ⟨by decide +kernel, rfl⟩
theorem dL_draw_28 : dc cL_draw 28 (.bipush 7) 2 30 := ⟨by decide +kernel, rfl⟩
theorem dL_draw_30 : dc cL_draw 30 (.iand) 1 31 := ⟨by decide +kernel, rfl⟩
theorem dL_draw_31 : dc cL_draw 31 (.iconst 5) 1 32 := ⟨by decide +kernel, rfl⟩
theorem dL_draw_32 : dc cL_draw 32 (.irem) 1 33 := ⟨by decide +kernel, rfl⟩
theorem dL_draw_33 : dc cL_draw 33 (.iastore) 1 34 := ⟨by decide +kernel, rfl⟩
theorem dL_draw_34 : dc cL_draw 34 (.aload_n 1) 1 35 := ⟨by decide +kernel, rfl⟩
theorem dL_draw_35 : dc cL_draw 35 (.iconst 3) 1 36 := ⟨by decide +kernel, rfl⟩
theorem dL_draw_36 : dc cL_draw 36 (.iload_n 2) 1 37 := ⟨by decide +kernel, rfl⟩
theorem dL_draw_37 : dc cL_draw 37 (.iconst 1) 1 38 := ⟨by decide +kernel, rfl⟩
theorem dL_draw_38 : dc cL_draw 38 (.ishr) 1 39 := ⟨by decide +kernel, rfl⟩
theorem dL_draw_39 : dc cL_draw 39 (.bipush 31) 2 41 := ⟨by decide +kernel, rfl⟩
theorem dL_draw_41 : dc cL_draw 41 (.iand) 1 42 := ⟨by decide +kernel, rfl⟩
theorem dL_draw_42 : dc cL_draw 42 (.bipush 24) 2 44 := ⟨by decide +kernel, rfl⟩
theorem dL_draw_44 : dc cL_draw 44 (.irem) 1 45 := ⟨by decide +kernel, rfl⟩
theorem dL_draw_45 : dc cL_draw 45 (.iastore) 1 46 := ⟨by decide +kernel, rfl⟩
theorem dL_draw_46 : dc cL_draw 46 (.aload_n 1) 1 47 := ⟨by decide +kernel, rfl⟩
theorem dL_draw_47 : dc cL_draw 47 (.iconst 4) 1 48 := ⟨by decide +kernel, rfl⟩
theorem dL_draw_48 : dc cL_draw 48 (.aload_n 1) 1 49 := ⟨by decide +kernel, rfl⟩
theorem dL_draw_49 : dc cL_draw 49 (.iconst 3) 1 50 := ⟨by decide +kernel, rfl⟩
theorem dL_draw_50 : dc cL_draw 50 (.iaload) 1 51 := ⟨by decide +kernel, rfl⟩
theorem dL_draw_51 : dc cL_draw 51 (.iconst 1) 1 52 := ⟨by decide +kernel, rfl⟩
theorem dL_draw_52 : dc cL_draw 52 (.iadd) 1 53 := ⟨by decide +kernel, rfl⟩
theorem dL_draw_53 : dc cL_draw 53 (.iload_n 2) 1 54 := ⟨by decide +kernel, rfl⟩
theorem dL_draw_54 : dc cL_draw 54 (.iconst 5) 1 55 := ⟨by decide +kernel, rfl⟩
theorem dL_draw_55 : dc cL_draw 55 (.ishr) 1 56 := ⟨by decide +kernel, rfl⟩
theorem dL_draw_56 : dc cL_draw 56 (.bipush 7) 2 58 := ⟨by decide +kernel, rfl⟩
theorem dL_draw_58 : dc cL_draw 58 (.iand) 1 59 := ⟨by decide +kernel, rfl⟩
theorem dL_draw_59 : dc cL_draw 59 (.iadd) 1 60 := ⟨by decide +kernel, rfl⟩
theorem dL_draw_60 : dc cL_draw 60 (.bipush 24) 2 62 := ⟨by decide +kernel, rfl⟩
theorem dL_draw_62 : dc cL_draw 62 (.if_icmp .le 8) 3 65 := ⟨by decide +kernel, rfl⟩
theorem dL_draw_65 : dc cL_draw 65 (.bipush 24) 2 67 := ⟨by decide +kernel, rfl⟩
theorem dL_draw_67 : dc cL_draw 67 (.goto 15) 3 70 := ⟨by decide +kernel, rfl⟩
theorem dL_draw_70 : dc cL_draw 70 (.aload_n 1) 1 71 := ⟨by decide +kernel, rfl⟩
theorem dL_draw_71 : dc cL_draw 71 (.iconst 3) 1 72 := ⟨by decide +kernel, rfl⟩
theorem dL_draw_72 : dc cL_draw 72 (.iaload) 1 73 := ⟨by decide +kernel, rfl⟩
theorem dL_draw_73 : dc cL_draw 73 (.iconst 1) 1 74 := ⟨by decide +kernel, rfl⟩
theorem dL_draw_74 : dc cL_draw 74 (.iadd) 1 75 := ⟨by decide +kernel, rfl⟩
theorem dL_draw_75 : dc cL_draw 75 (.iload_n 2) 1 76 := ⟨by decide +kernel, rfl⟩
theorem dL_draw_76 : dc cL_draw 76 (.iconst 5) 1 77 := ⟨by decide +kernel, rfl⟩
theorem dL_draw_77 : dc cL_draw 77 (.ishr) 1 78 := ⟨by decide +kernel, rfl⟩
theorem dL_draw_78 : dc cL_draw 78 (.bipush 7) 2 80 := ⟨by decide +kernel, rfl⟩
theorem dL_draw_80 : dc cL_draw 80 (.iand) 1 81 := ⟨by decide +kernel, rfl⟩
theorem dL_draw_81 : dc cL_draw 81 (.iadd) 1 82 := ⟨by decide +kernel, rfl⟩
theorem dL_draw_82 : dc cL_draw 82 (.iastore) 1 83 := ⟨by decide +kernel, rfl⟩
theorem dL_draw_83 : dc cL_draw 83 (.aload_n 1) 1 84 := ⟨by decide +kernel, rfl⟩
theorem dL_draw_84 : dc cL_draw 84 (.iconst 5) 1 85 := ⟨by decide +kernel, rfl⟩
theorem dL_draw_85 : dc cL_draw 85 (.bipush 60) 2 87 := ⟨by decide +kernel, rfl⟩
theorem dL_draw_87 : dc cL_draw 87 (.aload_n 1) 1 88 := ⟨by decide +kernel, rfl⟩
theorem dL_draw_88 : dc cL_draw 88 (.iconst 3) 1 89 := ⟨by decide +kernel, rfl⟩
theorem dL_draw_89 : dc cL_draw 89 (.iaload) 1 90 := ⟨by decide +kernel, rfl⟩
theorem dL_draw_90 : dc cL_draw 90 (.imul) 1 91 := ⟨by decide +kernel, rfl⟩
theorem dL_draw_91 : dc cL_draw 91 (.sipush 1440) 3 94 := ⟨by decide +kernel, rfl⟩
theorem dL_draw_94 : dc cL_draw 94 (.iadd) 1 95 := ⟨by decide +kernel, rfl⟩
theorem dL_draw_95 : dc cL_draw 95 (.iload_n 2) 1 96 := ⟨by decide +kernel, rfl⟩
theorem dL_draw_96 : dc cL_draw 96 (.iconst 3) 1 97 := ⟨by decide +kernel, rfl⟩
theorem dL_draw_97 : dc cL_draw 97 (.ishr) 1 98 := ⟨by decide +kernel, rfl⟩
theorem dL_draw_98 : dc cL_draw 98 (.bipush 127) 2 100 := ⟨by decide +kernel, rfl⟩
theorem dL_draw_100 : dc cL_draw 100 (.iand) 1 101 := ⟨by decide +kernel, rfl⟩
theorem dL_draw_101 : dc cL_draw 101 (.isub) 1 102 := ⟨by decide +kernel, rfl⟩
theorem dL_draw_102 : dc cL_draw 102 (.sipush 1440) 3 105 := ⟨by decide +kernel, rfl⟩
theorem dL_draw_105 : dc cL_draw 105 (.irem) 1 106 := ⟨by decide +kernel, rfl⟩
theorem dL_draw_106 : dc cL_draw 106 (.iastore) 1 107 := ⟨by decide +kernel, rfl⟩
theorem dL_draw_107 : dc cL_draw 107 (.aload_n 1) 1 108 := ⟨by decide +kernel, rfl⟩
theorem dL_draw_108 : dc cL_draw 108 (.bipush 6) 2 110 := ⟨by decide +kernel, rfl⟩
theorem dL_draw_110 : dc cL_draw 110 (.iconst 1) 1 111 := ⟨by decide +kernel, rfl⟩
theorem dL_draw_111 : dc cL_draw 111 (.iload_n 2) 1 112 := ⟨by decide +kernel, rfl⟩
theorem dL_draw_112 : dc cL_draw 112 (.iconst 4) 1 113 := ⟨by decide +kernel, rfl⟩
theorem dL_draw_113 : dc cL_draw 113 (.ishr) 1 114 := ⟨by decide +kernel, rfl⟩
theorem dL_draw_114 : dc cL_draw 114 (.iconst 3) 1 115 := ⟨by decide +kernel, rfl⟩
theorem dL_draw_115 : dc cL_draw 115 (.iand) 1 116 := ⟨by decide +kernel, rfl⟩
theorem dL_draw_116 : dc cL_draw 116 (.iadd) 1 117 := ⟨by decide +kernel, rfl⟩
theorem dL_draw_117 : dc cL_draw 117 (.iastore) 1 118 := ⟨by decide +kernel, rfl⟩
theorem dL_draw_118 : dc cL_draw 118 (.aload_n 1) 1 119 := ⟨by decide +kernel, rfl⟩
theorem dL_draw_119 : dc cL_draw 119 (.bipush 7) 2 121 := ⟨by decide +kernel, rfl⟩
theorem dL_draw_121 : dc cL_draw 121 (.iconst 1) 1 122 := ⟨by decide +kernel, rfl⟩
theorem dL_draw_122 : dc cL_draw 122 (.iload_n 2) 1 123 := ⟨by decide +kernel, rfl⟩
theorem dL_draw_123 : dc cL_draw 123 (.bipush 6) 2 125 := ⟨by decide +kernel, rfl⟩
theorem dL_draw_125 : dc cL_draw 125 (.ishr) 1 126 := ⟨by decide +kernel, rfl⟩
theorem dL_draw_126 : dc cL_draw 126 (.iconst 3) 1 127 := ⟨by decide +kernel, rfl⟩
theorem dL_draw_127 : dc cL_draw 127 (.iand) 1 128 := ⟨by decide +kernel, rfl⟩
theorem dL_draw_128 : dc cL_draw 128 (.iadd) 1 129 := ⟨by decide +kernel, rfl⟩
theorem dL_draw_129 : dc cL_draw 129 (.iastore) 1 130 := ⟨by decide +kernel, rfl⟩
theorem dL_draw_130 : dc cL_draw 130 (.aload_n 1) 1 131 := ⟨by decide +kernel, rfl⟩
theorem dL_draw_131 : dc cL_draw 131 (.bipush 8) 2 133 := ⟨by decide +kernel, rfl⟩
theorem dL_draw_133 : dc cL_draw 133 (.iload_n 2) 1 134 := ⟨by decide +kernel, rfl⟩
theorem dL_draw_134 : dc cL_draw 134 (.iconst 2) 1 135 := ⟨by decide +kernel, rfl⟩
theorem dL_draw_135 : dc cL_draw 135 (.ishr) 1 136 := ⟨by decide +kernel, rfl⟩
theorem dL_draw_136 : dc cL_draw 136 (.bipush 31) 2 138 := ⟨by decide +kernel, rfl⟩
theorem dL_draw_138 : dc cL_draw 138 (.iand) 1 139 := ⟨by decide +kernel, rfl⟩
theorem dL_draw_139 : dc cL_draw 139 (.bipush 17) 2 141 := ⟨by decide +kernel, rfl⟩
theorem dL_draw_141 : dc cL_draw 141 (.irem) 1 142 := ⟨by decide +kernel, rfl⟩
theorem dL_draw_142 : dc cL_draw 142 (.iastore) 1 143 := ⟨by decide +kernel, rfl⟩
theorem dL_draw_143 : dc cL_draw 143 (.aload_n 1) 1 144 := ⟨by decide +kernel, rfl⟩
theorem dL_draw_144 : dc cL_draw 144 (.iconst 1) 1 145 := ⟨by decide +kernel, rfl⟩
theorem dL_draw_145 : dc cL_draw 145 (.iconst 0) 1 146 := ⟨by decide +kernel, rfl⟩
theorem dL_draw_146 : dc cL_draw 146 (.iastore) 1 147 := ⟨by decide +kernel, rfl⟩
theorem dL_draw_147 : dc cL_draw 147 (.iconst 0) 1 148 := ⟨by decide +kernel, rfl⟩
theorem dL_draw_148 : dc cL_draw 148 (.istore_n 3) 1 149 := ⟨by decide +kernel, rfl⟩
theorem dL_draw_149 : dc cL_draw 149 (.iload_n 3) 1 150 := ⟨by decide +kernel, rfl⟩
theorem dL_draw_150 : dc cL_draw 150 (.aload_n 1) 1 151 := ⟨by decide +kernel, rfl⟩
theorem dL_draw_151 : dc cL_draw 151 (.iconst 0) 1 152 := ⟨by decide +kernel, rfl⟩
theorem dL_draw_152 : dc cL_draw 152 (.iaload) 1 153 := ⟨by decide +kernel, rfl⟩
theorem dL_draw_153 : dc cL_draw 153 (.if_icmp .ge 169) 3 156 := ⟨by decide +kernel, rfl⟩
theorem dL_draw_156 : dc cL_draw 156 (.iload_n 3) 1 157 := ⟨by decide +kernel, rfl⟩
theorem dL_draw_157 : dc cL_draw 157 (.iconst 1) 1 158 := ⟨by decide +kernel, rfl⟩
theorem dL_draw_158 : dc cL_draw 158 (.iadd) 1 159 := ⟨by decide +kernel, rfl⟩
theorem dL_draw_159 : dc cL_draw 159 (.istore 4) 2 161 := ⟨by decide +kernel, rfl⟩
theorem dL_draw_161 : dc cL_draw 161 (.iload 4) 2 163 := ⟨by decide +kernel, rfl⟩
theorem dL_draw_163 : dc cL_draw 163 (.aload_n 1) 1 164 := ⟨by decide +kernel, rfl⟩
theorem dL_draw_164 : dc cL_draw 164 (.iconst 0) 1 165 := ⟨by decide +kernel, rfl⟩
theorem dL_draw_165 : dc cL_draw 165 (.iaload) 1 166 := ⟨by decide +kernel, rfl⟩
theorem dL_draw_166 : dc cL_draw 166 (.if_icmp .ge 150) 3 169 := ⟨by decide +kernel, rfl⟩
theorem dL_draw_169 : dc cL_draw 169 (.iload_n 3) 1 170 := ⟨by decide +kernel, rfl⟩
theorem dL_draw_170 : dc cL_draw 170 (.iload 4) 2 172 := ⟨by decide +kernel, rfl⟩
theorem dL_draw_172 : dc cL_draw 172 (.iadd) 1 173 := ⟨by decide +kernel, rfl⟩
theorem dL_draw_173 : dc cL_draw 173 (.aload_n 0) 1 174 := ⟨by decide +kernel, rfl⟩
theorem dL_draw_174 : dc cL_draw 174 (.arraylength) 1 175 := ⟨by decide +kernel, rfl⟩
theorem dL_draw_175 : dc cL_draw 175 (.if_icmp .ge 14) 3 178 := ⟨by decide +kernel, rfl⟩
theorem dL_draw_178 : dc cL_draw 178 (.aload_n 0) 1 179 := ⟨by decide +kernel, rfl⟩
theorem dL_draw_179 : dc cL_draw 179 (.iload_n 3) 1 180 := ⟨by decide +kernel, rfl⟩
theorem dL_draw_180 : dc cL_draw 180 (.iload 4) 2 182 := ⟨by decide +kernel, rfl⟩
theorem dL_draw_182 : dc cL_draw 182 (.iadd) 1 183 := ⟨by decide +kernel, rfl⟩
theorem dL_draw_183 : dc cL_draw 183 (.iaload) 1 184 := ⟨by decide +kernel, rfl⟩
theorem dL_draw_184 : dc cL_draw 184 (.iload_n 3) 1 185 := ⟨by decide +kernel, rfl⟩
theorem dL_draw_185 : dc cL_draw 185 (.ishr) 1 186 := ⟨by decide +kernel, rfl⟩
theorem dL_draw_186 : dc cL_draw 186 (.goto 16) 3 189 := ⟨by decide +kernel, rfl⟩
theorem dL_draw_189 : dc cL_draw 189 (.sipush 2083) 3 192 := ⟨by decide +kernel, rfl⟩
theorem dL_draw_192 : dc cL_draw 192 (.iload_n 3) 1 193 := ⟨by decide +kernel, rfl⟩
theorem dL_draw_193 : dc cL_draw 193 (.imul) 1 194 := ⟨by decide +kernel, rfl⟩
theorem dL_draw_194 : dc cL_draw 194 (.bipush 59) 2 196 := ⟨by decide +kernel, rfl⟩
theorem dL_draw_196 : dc cL_draw 196 (.iload 4) 2 198 := ⟨by decide +kernel, rfl⟩
theorem dL_draw_198 : dc cL_draw 198 (.imul) 1 199 := ⟨by decide +kernel, rfl⟩
theorem dL_draw_199 : dc cL_draw 199 (.iadd) 1 200 := ⟨by decide +kernel, rfl⟩
theorem dL_draw_200 : dc cL_draw 200 (.iload_n 2) 1 201 := ⟨by decide +kernel, rfl⟩
theorem dL_draw_201 : dc cL_draw 201 (.iadd) 1 202 := ⟨by decide +kernel, rfl⟩
theorem dL_draw_202 : dc cL_draw 202 (.istore 5) 2 204 := ⟨by decide +kernel, rfl⟩
theorem dL_draw_204 : dc cL_draw 204 (.aload_n 1) 1 205 := ⟨by decide +kernel, rfl⟩
theorem dL_draw_205 : dc cL_draw 205 (.iconst 1) 1 206 := ⟨by decide +kernel, rfl⟩
theorem dL_draw_206 : dc cL_draw 206 (.iaload) 1 207 := ⟨by decide +kernel, rfl⟩
theorem dL_draw_207 : dc cL_draw 207 (.iconst 4) 1 208 := ⟨by decide +kernel, rfl⟩
theorem dL_draw_208 : dc cL_draw 208 (.if_icmp .eq 102) 3 211 := ⟨by decide +kernel, rfl⟩
theorem dL_draw_211 : dc cL_draw 211 (.iload 5) 2 213 := ⟨by decide +kernel, rfl⟩
theorem dL_draw_213 : dc cL_draw 213 (.iconst 3) 1 214 := ⟨by decide +kernel, rfl⟩
theorem dL_draw_214 : dc cL_draw 214 (.iand) 1 215 := ⟨by decide +kernel, rfl⟩
theorem dL_draw_215 : dc cL_draw 215 (.ifCond .ne 6) 3 218 := ⟨by decide +kernel, rfl⟩
theorem dL_draw_218 : dc cL_draw 218 (.goto 92) 3 221 := ⟨by decide +kernel, rfl⟩
theorem dL_draw_221 : dc cL_draw 221 (.aload_n 1) 1 222 := ⟨by decide +kernel, rfl⟩
theorem dL_draw_222 : dc cL_draw 222 (.bipush 9) 2 224 := ⟨by decide +kernel, rfl⟩
theorem dL_draw_224 : dc cL_draw 224 (.aload_n 1) 1 225 := ⟨by decide +kernel, rfl⟩
theorem dL_draw_225 : dc cL_draw 225 (.iconst 1) 1 226 := ⟨by decide +kernel, rfl⟩
theorem dL_draw_226 : dc cL_draw 226 (.iaload) 1 227 := ⟨by decide +kernel, rfl⟩
theorem dL_draw_227 : dc cL_draw 227 (.iadd) 1 228 := ⟨by decide +kernel, rfl⟩
theorem dL_draw_228 : dc cL_draw 228 (.iload 5) 2 230 := ⟨by decide +kernel, rfl⟩
theorem dL_draw_230 : dc cL_draw 230 (.iconst 1) 1 231 := ⟨by decide +kernel, rfl⟩
theorem dL_draw_231 : dc cL_draw 231 (.iand) 1 232 := ⟨by decide +kernel, rfl⟩
theorem dL_draw_232 : dc cL_draw 232 (.ifCond .ne 7) 3 235 := ⟨by decide +kernel, rfl⟩
theorem dL_draw_235 : dc cL_draw 235 (.iload_n 3) 1 236 := ⟨by decide +kernel, rfl⟩
theorem dL_draw_236 : dc cL_draw 236 (.goto 5) 3 239 := ⟨by decide +kernel, rfl⟩
theorem dL_draw_239 : dc cL_draw 239 (.iload 4) 2 241 := ⟨by decide +kernel, rfl⟩
theorem dL_draw_241 : dc cL_draw 241 (.iastore) 1 242 := ⟨by decide +kernel, rfl⟩
theorem dL_draw_242 : dc cL_draw 242 (.aload_n 1) 1 243 := ⟨by decide +kernel, rfl⟩
theorem dL_draw_243 : dc cL_draw 243 (.bipush 13) 2 245 := ⟨by decide +kernel, rfl⟩
theorem dL_draw_245 : dc cL_draw 245 (.aload_n 1) 1 246 := ⟨by decide +kernel, rfl⟩
theorem dL_draw_246 : dc cL_draw 246 (.iconst 1) 1 247 := ⟨by decide +kernel, rfl⟩
theorem dL_draw_247 : dc cL_draw 247 (.iaload) 1 248 := ⟨by decide +kernel, rfl⟩
theorem dL_draw_248 : dc cL_draw 248 (.iadd) 1 249 := ⟨by decide +kernel, rfl⟩
theorem dL_draw_249 : dc cL_draw 249 (.iload 5) 2 251 := ⟨by decide +kernel, rfl⟩
theorem dL_draw_251 : dc cL_draw 251 (.iconst 1) 1 252 := ⟨by decide +kernel, rfl⟩
theorem dL_draw_252 : dc cL_draw 252 (.iand) 1 253 := ⟨by decide +kernel, rfl⟩
theorem dL_draw_253 : dc cL_draw 253 (.ifCond .ne 8) 3 256 := ⟨by decide +kernel, rfl⟩
theorem dL_draw_256 : dc cL_draw 256 (.iload 4) 2 258 := ⟨by decide +kernel, rfl⟩
theorem dL_draw_258 : dc cL_draw 258 (.goto 4) 3 261 := ⟨by decide +kernel, rfl⟩
theorem dL_draw_261 : dc cL_draw 261 (.iload_n 3) 1 262 := ⟨by decide +kernel, rfl⟩
theorem dL_draw_262 : dc cL_draw 262 (.iastore) 1 263 := ⟨by decide +kernel, rfl⟩
theorem dL_draw_263 : dc cL_draw 263 (.aload_n 1) 1 264 := ⟨by decide +kernel, rfl⟩
theorem dL_draw_264 : dc cL_draw 264 (.bipush 17) 2 266 := ⟨by decide +kernel, rfl⟩
theorem dL_draw_266 : dc cL_draw 266 (.aload_n 1) 1 267 := ⟨by decide +kernel, rfl⟩
theorem dL_draw_267 : dc cL_draw 267 (.iconst 1) 1 268 := ⟨by decide +kernel, rfl⟩
theorem dL_draw_268 : dc cL_draw 268 (.iaload) 1 269 := ⟨by decide +kernel, rfl⟩
theorem dL_draw_269 : dc cL_draw 269 (.iadd) 1 270 := ⟨by decide +kernel, rfl⟩
theorem dL_draw_270 : dc cL_draw 270 (.iconst 1) 1 271 := ⟨by decide +kernel, rfl⟩
theorem dL_draw_271 : dc cL_draw 271 (.iload 5) 2 273 := ⟨by decide +kernel, rfl⟩
theorem dL_draw_273 : dc cL_draw 273 (.iconst 2) 1 274 := ⟨by decide +kernel, rfl⟩
theorem dL_draw_274 : dc cL_draw 274 (.ishr) 1 275 := ⟨by decide +kernel, rfl⟩
theorem dL_draw_275 : dc cL_draw 275 (.bipush 31) 2 277 := ⟨by decide +kernel, rfl⟩
theorem dL_draw_277 : dc cL_draw 277 (.iand) 1 278 := ⟨by decide +kernel, rfl⟩
theorem dL_draw_278 : dc cL_draw 278 (.iadd) 1 279 := ⟨by decide +kernel, rfl⟩
theorem dL_draw_279 : dc cL_draw 279 (.iastore) 1 280 := ⟨by decide +kernel, rfl⟩
theorem dL_draw_280 : dc cL_draw 280 (.aload_n 1) 1 281 := ⟨by decide +kernel, rfl⟩
theorem dL_draw_281 : dc cL_draw 281 (.bipush 21) 2 283 := ⟨by decide +kernel, rfl⟩
theorem dL_draw_283 : dc cL_draw 283 (.aload_n 1) 1 284 := ⟨by decide +kernel, rfl⟩
theorem dL_draw_284 : dc cL_draw 284 (.iconst 1) 1 285 := ⟨by decide +kernel, rfl⟩
theorem dL_draw_285 : dc cL_draw 285 (.iaload) 1 286 := ⟨by decide +kernel, rfl⟩
theorem dL_draw_286 : dc cL_draw 286 (.iadd) 1 287 := ⟨by decide +kernel, rfl⟩
theorem dL_draw_287 : dc cL_draw 287 (.iload 5) 2 289 := ⟨by decide +kernel, rfl⟩
theorem dL_draw_289 : dc cL_draw 289 (.iconst 4) 1 290 := ⟨by decide +kernel, rfl⟩
theorem dL_draw_290 : dc cL_draw 290 (.ishr) 1 291 := ⟨by decide +kernel, rfl⟩
theorem dL_draw_291 : dc cL_draw 291 (.iconst 3) 1 292 := ⟨by decide +kernel, rfl⟩
theorem dL_draw_292 : dc cL_draw 292 (.iand) 1 293 := ⟨by decide +kernel, rfl⟩
theorem dL_draw_293 : dc cL_draw 293 (.iconst 1) 1 294 := ⟨by decide +kernel, rfl⟩
theorem dL_draw_294 : dc cL_draw 294 (.if_icmp .ne 7) 3 297 := ⟨by decide +kernel, rfl⟩
theorem dL_draw_297 : dc cL_draw 297 (.iconst 1) 1 298 := ⟨by decide +kernel, rfl⟩
theorem dL_draw_298 : dc cL_draw 298 (.goto 4) 3 301 := ⟨by decide +kernel, rfl⟩
theorem dL_draw_301 : dc cL_draw 301 (.iconst 0) 1 302 := ⟨by decide +kernel, rfl⟩
theorem dL_draw_302 : dc cL_draw 302 (.iastore) 1 303 := ⟨by decide +kernel, rfl⟩
theorem dL_draw_303 : dc cL_draw 303 (.aload_n 1) 1 304 := ⟨by decide +kernel, rfl⟩
theorem dL_draw_304 : dc cL_draw 304 (.iconst 1) 1 305 := ⟨by decide +kernel, rfl⟩
theorem dL_draw_305 : dc cL_draw 305 (.dup2) 1 306 := ⟨by decide +kernel, rfl⟩
theorem dL_draw_306 : dc cL_draw 306 (.iaload) 1 307 := ⟨by decide +kernel, rfl⟩
theorem dL_draw_307 : dc cL_draw 307 (.iconst 1) 1 308 := ⟨by decide +kernel, rfl⟩
theorem dL_draw_308 : dc cL_draw 308 (.iadd) 1 309 := ⟨by decide +kernel, rfl⟩
theorem dL_draw_309 : dc cL_draw 309 (.iastore) 1 310 := ⟨by decide +kernel, rfl⟩
theorem dL_draw_310 : dc cL_draw 310 (.iinc 4 1) 3 313 := ⟨by decide +kernel, rfl⟩
theorem dL_draw_313 : dc cL_draw 313 (.goto (-152)) 3 316 := ⟨by decide +kernel, rfl⟩
theorem dL_draw_316 : dc cL_draw 316 (.iinc 3 1) 3 319 := ⟨by decide +kernel, rfl⟩
theorem dL_draw_319 : dc cL_draw 319 (.goto (-170)) 3 322 := ⟨by decide +kernel, rfl⟩
theorem dL_draw_322 : dc cL_draw 322 (.iconst 0) 1 323 := ⟨by decide +kernel, rfl⟩
theorem dL_draw_323 : dc cL_draw 323 (.istore_n 3) 1 324 := ⟨by decide +kernel, rfl⟩
theorem dL_draw_324 : dc cL_draw 324 (.iload_n 3) 1 325 := ⟨by decide +kernel, rfl⟩
theorem dL_draw_325 : dc cL_draw 325 (.iconst 4) 1 326 := ⟨by decide +kernel, rfl⟩
theorem dL_draw_326 : dc cL_draw 326 (.if_icmp .ge 147) 3 329 := ⟨by decide +kernel, rfl⟩
theorem dL_draw_329 : dc cL_draw 329 (.iload_n 3) 1 330 := ⟨by decide +kernel, rfl⟩
theorem dL_draw_330 : dc cL_draw 330 (.iconst 2) 1 331 := ⟨by decide +kernel, rfl⟩
theorem dL_draw_331 : dc cL_draw 331 (.iadd) 1 332 := ⟨by decide +kernel, rfl⟩
theorem dL_draw_332 : dc cL_draw 332 (.aload_n 0) 1 333 := ⟨by decide +kernel, rfl⟩
theorem dL_draw_333 : dc cL_draw 333 (.arraylength) 1 334 := ⟨by decide +kernel, rfl⟩
theorem dL_draw_334 : dc cL_draw 334 (.if_icmp .ge 13) 3 337 := ⟨by decide +kernel, rfl⟩
theorem dL_draw_337 : dc cL_draw 337 (.aload_n 0) 1 338 := ⟨by decide +kernel, rfl⟩
theorem dL_draw_338 : dc cL_draw 338 (.iload_n 3) 1 339 := ⟨by decide +kernel, rfl⟩
theorem dL_draw_339 : dc cL_draw 339 (.iconst 2) 1 340 := ⟨by decide +kernel, rfl⟩
theorem dL_draw_340 : dc cL_draw 340 (.iadd) 1 341 := ⟨by decide +kernel, rfl⟩
theorem dL_draw_341 : dc cL_draw 341 (.iaload) 1 342 := ⟨by decide +kernel, rfl⟩
theorem dL_draw_342 : dc cL_draw 342 (.iconst 1) 1 343 := ⟨by decide +kernel, rfl⟩
theorem dL_draw_343 : dc cL_draw 343 (.ishr) 1 344 := ⟨by decide +kernel, rfl⟩
theorem dL_draw_344 : dc cL_draw 344 (.goto 10) 3 347 := ⟨by decide +kernel, rfl⟩
theorem dL_draw_347 : dc cL_draw 347 (.sipush 953) 3 350 := ⟨by decide +kernel, rfl⟩
theorem dL_draw_350 : dc cL_draw 350 (.iload_n 3) 1 351 := ⟨by decide +kernel, rfl⟩
theorem dL_draw_351 : dc cL_draw 351 (.imul) 1 352 := ⟨by decide +kernel, rfl⟩
theorem dL_draw_352 : dc cL_draw 352 (.iload_n 2) 1 353 := ⟨by decide +kernel, rfl⟩
theorem dL_draw_353 : dc cL_draw 353 (.iadd) 1 354 := ⟨by decide +kernel, rfl⟩
theorem dL_draw_354 : dc cL_draw 354 (.istore 4) 2 356 := ⟨by decide +kernel, rfl⟩
theorem dL_draw_356 : dc cL_draw 356 (.aload_n 1) 1 357 := ⟨by decide +kernel, rfl⟩
theorem dL_draw_357 : dc cL_draw 357 (.bipush 25) 2 359 := ⟨by decide +kernel, rfl⟩
theorem dL_draw_359 : dc cL_draw 359 (.iload_n 3) 1 360 := ⟨by decide +kernel, rfl⟩
theorem dL_draw_360 : dc cL_draw 360 (.iadd) 1 361 := ⟨by decide +kernel, rfl⟩
theorem dL_draw_361 : dc cL_draw 361 (.iload 4) 2 363 := ⟨by decide +kernel, rfl⟩
theorem dL_draw_363 : dc cL_draw 363 (.iconst 3) 1 364 := ⟨by decide +kernel, rfl⟩
theorem dL_draw_364 : dc cL_draw 364 (.iand) 1 365 := ⟨by decide +kernel, rfl⟩
theorem dL_draw_365 : dc cL_draw 365 (.aload_n 1) 1 366 := ⟨by decide +kernel, rfl⟩
theorem dL_draw_366 : dc cL_draw 366 (.iconst 0) 1 367 := ⟨by decide +kernel, rfl⟩
theorem dL_draw_367 : dc cL_draw 367 (.iaload) 1 368 := ⟨by decide +kernel, rfl⟩
theorem dL_draw_368 : dc cL_draw 368 (.irem) 1 369 := ⟨by decide +kernel, rfl⟩
theorem dL_draw_369 : dc cL_draw 369 (.iastore) 1 370 := ⟨by decide +kernel, rfl⟩
theorem dL_draw_370 : dc cL_draw 370 (.aload_n 1) 1 371 := ⟨by decide +kernel, rfl⟩
theorem dL_draw_371 : dc cL_draw 371 (.bipush 33) 2 373 := ⟨by decide +kernel, rfl⟩
theorem dL_draw_373 : dc cL_draw 373 (.iload_n 3) 1 374 := ⟨by decide +kernel, rfl⟩
theorem dL_draw_374 : dc cL_draw 374 (.iadd) 1 375 := ⟨by decide +kernel, rfl⟩
theorem dL_draw_375 : dc cL_draw 375 (.iload 4) 2 377 := ⟨by decide +kernel, rfl⟩
theorem dL_draw_377 : dc cL_draw 377 (.iconst 2) 1 378 := ⟨by decide +kernel, rfl⟩
theorem dL_draw_378 : dc cL_draw 378 (.ishr) 1 379 := ⟨by decide +kernel, rfl⟩
theorem dL_draw_379 : dc cL_draw 379 (.iconst 1) 1 380 := ⟨by decide +kernel, rfl⟩
theorem dL_draw_380 : dc cL_draw 380 (.iand) 1 381 := ⟨by decide +kernel, rfl⟩
theorem dL_draw_381 : dc cL_draw 381 (.iastore) 1 382 := ⟨by decide +kernel, rfl⟩
theorem dL_draw_382 : dc cL_draw 382 (.aload_n 1) 1 383 := ⟨by decide +kernel, rfl⟩
theorem dL_draw_383 : dc cL_draw 383 (.bipush 29) 2 385 := ⟨by decide +kernel, rfl⟩
theorem dL_draw_385 : dc cL_draw 385 (.iload_n 3) 1 386 := ⟨by decide +kernel, rfl⟩
theorem dL_draw_386 : dc cL_draw 386 (.iadd) 1 387 := ⟨by decide +kernel, rfl⟩
theorem dL_draw_387 : dc cL_draw 387 (.aload_n 1) 1 388 := ⟨by decide +kernel, rfl⟩
theorem dL_draw_388 : dc cL_draw 388 (.bipush 33) 2 390 := ⟨by decide +kernel, rfl⟩
theorem dL_draw_390 : dc cL_draw 390 (.iload_n 3) 1 391 := ⟨by decide +kernel, rfl⟩
theorem dL_draw_391 : dc cL_draw 391 (.iadd) 1 392 := ⟨by decide +kernel, rfl⟩
theorem dL_draw_392 : dc cL_draw 392 (.iaload) 1 393 := ⟨by decide +kernel, rfl⟩
theorem dL_draw_393 : dc cL_draw 393 (.ifCond .ne 17) 3 396 := ⟨by decide +kernel, rfl⟩
theorem dL_draw_396 : dc cL_draw 396 (.iload 4) 2 398 := ⟨by decide +kernel, rfl⟩
theorem dL_draw_398 : dc cL_draw 398 (.iconst 3) 1 399 := ⟨by decide +kernel, rfl⟩
theorem dL_draw_399 : dc cL_draw 399 (.ishr) 1 400 := ⟨by decide +kernel, rfl⟩
theorem dL_draw_400 : dc cL_draw 400 (.iconst 3) 1 401 := ⟨by decide +kernel, rfl⟩
theorem dL_draw_401 : dc cL_draw 401 (.iand) 1 402 := ⟨by decide +kernel, rfl⟩
theorem dL_draw_402 : dc cL_draw 402 (.iconst 1) 1 403 := ⟨by decide +kernel, rfl⟩
theorem dL_draw_403 : dc cL_draw 403 (.if_icmp .ne 7) 3 406 := ⟨by decide +kernel, rfl⟩
theorem dL_draw_406 : dc cL_draw 406 (.iconst 1) 1 407 := ⟨by decide +kernel, rfl⟩
theorem dL_draw_407 : dc cL_draw 407 (.goto 4) 3 410 := ⟨by decide +kernel, rfl⟩
theorem dL_draw_410 : dc cL_draw 410 (.iconst 0) 1 411 := ⟨by decide +kernel, rfl⟩
theorem dL_draw_411 : dc cL_draw 411 (.iastore) 1 412 := ⟨by decide +kernel, rfl⟩
theorem dL_draw_412 : dc cL_draw 412 (.iconst 0) 1 413 := ⟨by decide +kernel, rfl⟩
theorem dL_draw_413 : dc cL_draw 413 (.istore 5) 2 415 := ⟨by decide +kernel, rfl⟩
theorem dL_draw_415 : dc cL_draw 415 (.iload 5) 2 417 := ⟨by decide +kernel, rfl⟩
theorem dL_draw_417 : dc cL_draw 417 (.iconst 4) 1 418 := ⟨by decide +kernel, rfl⟩
theorem dL_draw_418 : dc cL_draw 418 (.if_icmp .ge 49) 3 421 := ⟨by decide +kernel, rfl⟩
theorem dL_draw_421 : dc cL_draw 421 (.aload_n 1) 1 422 := ⟨by decide +kernel, rfl⟩
theorem dL_draw_422 : dc cL_draw 422 (.bipush 37) 2 424 := ⟨by decide +kernel, rfl⟩
theorem dL_draw_424 : dc cL_draw 424 (.iconst 4) 1 425 := ⟨by decide +kernel, rfl⟩
theorem dL_draw_425 : dc cL_draw 425 (.iload_n 3) 1 426 := ⟨by decide +kernel, rfl⟩
theorem dL_draw_426 : dc cL_draw 426 (.imul) 1 427 := ⟨by decide +kernel, rfl⟩
theorem dL_draw_427 : dc cL_draw 427 (.iadd) 1 428 := ⟨by decide +kernel, rfl⟩
theorem dL_draw_428 : dc cL_draw 428 (.iload 5) 2 430 := ⟨by decide +kernel, rfl⟩
theorem dL_draw_430 : dc cL_draw 430 (.iadd) 1 431 := ⟨by decide +kernel, rfl⟩
theorem dL_draw_431 : dc cL_draw 431 (.iload 5) 2 433 := ⟨by decide +kernel, rfl⟩
theorem dL_draw_433 : dc cL_draw 433 (.aload_n 1) 1 434 := ⟨by decide +kernel, rfl⟩
theorem dL_draw_434 : dc cL_draw 434 (.iconst 1) 1 435 := ⟨by decide +kernel, rfl⟩
theorem dL_draw_435 : dc cL_draw 435 (.iaload) 1 436 := ⟨by decide +kernel, rfl⟩
theorem dL_draw_436 : dc cL_draw 436 (.if_icmp .ge 23) 3 439 := ⟨by decide +kernel, rfl⟩
theorem dL_draw_439 : dc cL_draw 439 (.iload 4) 2 441 := ⟨by decide +kernel, rfl⟩
theorem dL_draw_441 : dc cL_draw 441 (.iload 5) 2 443 := ⟨by decide +kernel, rfl⟩
theorem dL_draw_443 : dc cL_draw 443 (.iconst 4) 1 444 := ⟨by decide +kernel, rfl⟩
theorem dL_draw_444 : dc cL_draw 444 (.iadd) 1 445 := ⟨by decide +kernel, rfl⟩
theorem dL_draw_445 : dc cL_draw 445 (.ishr) 1 446 := ⟨by decide +kernel, rfl⟩
theorem dL_draw_446 : dc cL_draw 446 (.iconst 3) 1 447 := ⟨by decide +kernel, rfl⟩
theorem dL_draw_447 : dc cL_draw 447 (.iand) 1 448 := ⟨by decide +kernel, rfl⟩
theorem dL_draw_448 : dc cL_draw 448 (.iconst 2) 1 449 := ⟨by decide +kernel, rfl⟩
theorem dL_draw_449 : dc cL_draw 449 (.if_icmp .ne 10) 3 452 := ⟨by decide +kernel, rfl⟩
theorem dL_draw_452 : dc cL_draw 452 (.aload_n 1) 1 453 := ⟨by decide +kernel, rfl⟩
theorem dL_draw_453 : dc cL_draw 453 (.bipush 7) 2 455 := ⟨by decide +kernel, rfl⟩
theorem dL_draw_455 : dc cL_draw 455 (.iaload) 1 456 := ⟨by decide +kernel, rfl⟩
theorem dL_draw_456 : dc cL_draw 456 (.goto 4) 3 459 := ⟨by decide +kernel, rfl⟩
theorem dL_draw_459 : dc cL_draw 459 (.iconst 0) 1 460 := ⟨by decide +kernel, rfl⟩
theorem dL_draw_460 : dc cL_draw 460 (.iastore) 1 461 := ⟨by decide +kernel, rfl⟩
theorem dL_draw_461 : dc cL_draw 461 (.iinc 5 1) 3 464 := ⟨by decide +kernel, rfl⟩
theorem dL_draw_464 : dc cL_draw 464 (.goto (-49)) 3 467 := ⟨by decide +kernel, rfl⟩
theorem dL_draw_467 : dc cL_draw 467 (.iinc 3 1) 3 470 := ⟨by decide +kernel, rfl⟩
theorem dL_draw_470 : dc cL_draw 470 (.goto (-146)) 3 473 := ⟨by decide +kernel, rfl⟩
theorem dL_draw_473 : dc cL_draw 473 (.return_) 1 474 := ⟨by decide +kernel, rfl⟩
theorem nm_L_draw : (yL_draw).cls ≠ "java/lang/invoke/MethodHandle" ∧ (yL_draw).cls ≠ "java/lang/invoke/VarHandle" ∧ (parseMethodDescriptor (yL_draw).desc).map (fun d => d.parameters.length) = some 2 := ⟨by decide +kernel, by decide +kernel, by decide +kernel⟩
set_option maxRecDepth 100000 in
set_option maxHeartbeats 4000000 in
theorem s_L_draw_161 {ad : Nat → Nat} {cy : Nat → ClassId} {x : KX} (G : KG ad cy x cL_draw "NoonGuidesLaw" 6 (some none) 1) (Ln : Nat) (xs : Nat → Int32) {a1 : Nat} {c2 : Int32} {c3 : Int32} {b : Nat} {aK aV : Nat → Nat} (GW : KWx b Ln xs aK aV x) (h1 : kty a1 = 35) {k316 : KM → Option KM} {y : KM} (hk316 : ∀ (M : KM), k316 M = some y → KV ad cy x (none, y) 316 [(0, .ref b), (1, .ref (ad a1)), (2, .int c2), (3, .int c3)] [] M) : ∀ (n : Nat) (w4 : Int32) (M : KM), lp_L_draw_161 n Ln xs a1 c2 c3 w4 M k316 = some y → KV ad cy x (none, y) 161 [(0, .ref b), (1, .ref (ad a1)), (2, .int c2), (3, .int c3), (4, .int w4)] [] M := by
  intro n
  induction n with
  | zero =>
    intro w4 M hf
    cases hf
  | succ n ih =>
    intro w4 M hf
    rw [lp_L_draw_161] at hf
    refine v_iload G dL_draw_161 4 rfl ?_
    refine v_aload_n G dL_draw_163 1 rfl ?_
    refine v_iconst (0 : Int32) G dL_draw_164 (by decide) ?_
    obtain ⟨g25, hf⟩ := gd_e hf
    refine al_35 G h1 g25 dL_draw_165 ?_
    refine v_icmp_ge 316 G dL_draw_166 (by decide) (fun h55 => ?_) (fun h55 => ?_)
    · replace hf := (if_pos h55).symm.trans hf
      refine v_sub _ [0, 1, 2, 3] rfl ?_
      exact hk316 M hf
    · replace hf := (if_neg h55).symm.trans hf
      refine v_iload_n G dL_draw_169 3 rfl ?_
      refine v_iload G dL_draw_170 4 rfl ?_
      refine v_iadd G dL_draw_172 ?_
      refine v_aload_n G dL_draw_173 0 rfl ?_
      refine v_slen G GW dL_draw_174 ?_
      obtain ⟨j202, ej202, hf⟩ := lt_j hf
      have hj202 : ∀ (x26 : Int32), j202 x26 = some y → KV ad cy x (none, y) 202 [(0, .ref b), (1, .ref (ad a1)), (2, .int c2), (3, .int c3), (4, .int w4)] [.int x26] M := by
        intro x26 hf
        rw [ej202] at hf
        refine v_istore [(5, .int x26), (0, .ref b), (1, .ref (ad a1)), (2, .int c2), (3, .int c3), (4, .int w4)] G dL_draw_202 (by decide) rfl ?_
        refine v_aload_n G dL_draw_204 2 rfl ?_
        refine v_iconst (1 : Int32) G dL_draw_205 (by decide) ?_
        obtain ⟨g27, hf⟩ := gd_e hf
        refine al_35 G h1 g27 dL_draw_206 ?_
        refine v_iconst (4 : Int32) G dL_draw_207 (by decide) ?_
        obtain ⟨j310, ej310, hf⟩ := lt_j hf
        have hj310 : ∀ (M28 : KM), j310 M28 = some y → KV ad cy x (none, y) 310 [(0, .ref b), (1, .ref (ad a1)), (2, .int c2), (3, .int c3), (4, .int w4)] [] M28 := by
          intro M28 hf
          rw [ej310] at hf
          obtain ⟨v29, ev29⟩ : ∃ q : Int32, q = w4 + (1 : Int32) := ⟨_, rfl⟩
          replace hf := lt_e hf ev29
          refine v_iinc v29 [(4, .int v29), (0, .ref b), (1, .ref (ad a1)), (2, .int c2), (3, .int c3)] G dL_draw_310 4 rfl (by rw [ev29]; rfl) (by decide) rfl ?_
          refine v_goto 161 G dL_draw_313 (by decide) ?_
          refine v_sub _ [1, 2, 3, 4, 0] rfl ?_
          exact ih v29 M28 hf
        refine v_icmp_eq 310 G dL_draw_208 (by decide) (fun h52 => ?_) (fun h52 => ?_)
        · replace hf := (if_pos h52).symm.trans hf
          refine v_sub _ [1, 2, 3, 4, 5] rfl ?_
          exact hj310 M hf
        · replace hf := (if_neg h52).symm.trans hf
          refine v_iload G dL_draw_211 0 rfl ?_
          refine v_iconst (3 : Int32) G dL_draw_213 (by decide) ?_
          refine v_iand G dL_draw_214 ?_
          refine v_if_ne 221 G dL_draw_215 (by decide) (fun h51 => ?_) (fun h51 => ?_)
          · replace hf := (if_neg h51).symm.trans hf
            refine v_aload_n G dL_draw_221 2 rfl ?_
            refine v_bipush (9 : Int32) G dL_draw_222 (by decide) ?_
            refine v_aload_n G dL_draw_224 2 rfl ?_
            refine v_iconst (1 : Int32) G dL_draw_225 (by decide) ?_
            obtain ⟨g30, hf⟩ := gd_e hf
            refine al_35 G h1 g30 dL_draw_226 ?_
            refine v_iadd G dL_draw_227 ?_
            refine v_iload G dL_draw_228 0 rfl ?_
            refine v_iconst (1 : Int32) G dL_draw_230 (by decide) ?_
            refine v_iand G dL_draw_231 ?_
            obtain ⟨j241, ej241, hf⟩ := lt_j hf
            have hj241 : ∀ (x31 : Int32), j241 x31 = some y → KV ad cy x (none, y) 241 [(0, .ref b), (1, .ref (ad a1)), (2, .int c2), (3, .int c3), (4, .int w4), (5, .int x26)] [.int x31, .int ((9 : Int32) + (M.1 a1 ((1 : Int32)).toNatClampNeg)), .ref (ad a1)] M := by
              intro x31 hf
              rw [ej241] at hf
              obtain ⟨g32, hf⟩ := gd_e hf
              refine as_35 G h1 g32 dL_draw_241 ?_
              refine v_nmM (fun M33 eM33 => ?_)
              replace hf := lt_e hf eM33
              refine v_aload_n G dL_draw_242 1 rfl ?_
              refine v_bipush (13 : Int32) G dL_draw_243 (by decide) ?_
              refine v_aload_n G dL_draw_245 1 rfl ?_
              refine v_iconst (1 : Int32) G dL_draw_246 (by decide) ?_
              obtain ⟨g34, hf⟩ := gd_e hf
              refine al_35 G h1 g34 dL_draw_247 ?_
              refine v_iadd G dL_draw_248 ?_
              refine v_iload G dL_draw_249 5 rfl ?_
              refine v_iconst (1 : Int32) G dL_draw_251 (by decide) ?_
              refine v_iand G dL_draw_252 ?_
              obtain ⟨j262, ej262, hf⟩ := lt_j hf
              have hj262 : ∀ (x35 : Int32), j262 x35 = some y → KV ad cy x (none, y) 262 [(0, .ref b), (1, .ref (ad a1)), (2, .int c2), (3, .int c3), (4, .int w4), (5, .int x26)] [.int x35, .int ((13 : Int32) + (M33.1 a1 ((1 : Int32)).toNatClampNeg)), .ref (ad a1)] M33 := by
                intro x35 hf
                rw [ej262] at hf
                obtain ⟨g36, hf⟩ := gd_e hf
                refine as_35 G h1 g36 dL_draw_262 ?_
                refine v_nmM (fun M37 eM37 => ?_)
                replace hf := lt_e hf eM37
                refine v_aload_n G dL_draw_263 1 rfl ?_
                refine v_bipush (17 : Int32) G dL_draw_264 (by decide) ?_
                refine v_aload_n G dL_draw_266 1 rfl ?_
                refine v_iconst (1 : Int32) G dL_draw_267 (by decide) ?_
                obtain ⟨g38, hf⟩ := gd_e hf
                refine al_35 G h1 g38 dL_draw_268 ?_
                refine v_iadd G dL_draw_269 ?_
                refine v_iconst (1 : Int32) G dL_draw_270 (by decide) ?_
                refine v_iload G dL_draw_271 5 rfl ?_
                refine v_iconst (2 : Int32) G dL_draw_273 (by decide) ?_
                refine v_ishr G dL_draw_274 ?_
                refine v_bipush (31 : Int32) G dL_draw_275 (by decide) ?_
                refine v_iand G dL_draw_277 ?_
                refine v_iadd G dL_draw_278 ?_
                obtain ⟨g39, hf⟩ := gd_e hf
                refine as_35 G h1 g39 dL_draw_279 ?_
                refine v_nmM (fun M40 eM40 => ?_)
                replace hf := lt_e hf eM40
                refine v_aload_n G dL_draw_280 1 rfl ?_
                refine v_bipush (21 : Int32) G dL_draw_281 (by decide) ?_
                refine v_aload_n G dL_draw_283 1 rfl ?_
                refine v_iconst (1 : Int32) G dL_draw_284 (by decide) ?_
                obtain ⟨g41, hf⟩ := gd_e hf
                refine al_35 G h1 g41 dL_draw_285 ?_
                refine v_iadd G dL_draw_286 ?_
                refine v_iload G dL_draw_287 5 rfl ?_
                refine v_iconst (4 : Int32) G dL_draw_289 (by decide) ?_
                refine v_ishr G dL_draw_290 ?_
                refine v_iconst (3 : Int32) G dL_draw_291 (by decide) ?_
                refine v_iand G dL_draw_292 ?_
                refine v_iconst (1 : Int32) G dL_draw_293 (by decide) ?_
                obtain ⟨j302, ej302, hf⟩ := lt_j hf
                have hj302 : ∀ (x42 : Int32), j302 x42 = some y → KV ad cy x (none, y) 302 [(0, .ref b), (1, .ref (ad a1)), (2, .int c2), (3, .int c3), (4, .int w4)] [.int x42, .int ((21 : Int32) + (M40.1 a1 ((1 : Int32)).toNatClampNeg)), .ref (ad a1)] M40 := by
                  intro x42 hf
                  rw [ej302] at hf
                  obtain ⟨g43, hf⟩ := gd_e hf
                  refine as_35 G h1 g43 dL_draw_302 ?_
                  refine v_nmM (fun M44 eM44 => ?_)
                  replace hf := lt_e hf eM44
                  refine v_aload_n G dL_draw_303 1 rfl ?_
                  refine v_iconst (1 : Int32) G dL_draw_304 (by decide) ?_
                  refine v_dup2 G dL_draw_305 rfl rfl ?_
                  obtain ⟨g45, hf⟩ := gd_e hf
                  refine al_35 G h1 g45 dL_draw_306 ?_
                  refine v_iconst (1 : Int32) G dL_draw_307 (by decide) ?_
                  refine v_iadd G dL_draw_308 ?_
                  obtain ⟨g46, hf⟩ := gd_e hf
                  refine as_35 G h1 g46 dL_draw_309 ?_
                  refine v_nmM (fun M47 eM47 => ?_)
                  replace hf := lt_e hf eM47
                  refine v_sub _ [0, 1, 2, 3, 4] rfl ?_
                  exact hj310 M47 hf
                refine v_icmp_ne 301 G dL_draw_294 (by decide) (fun h48 => ?_) (fun h48 => ?_)
                · replace hf := (if_neg h48).symm.trans hf
                  refine v_iconst (0 : Int32) G dL_draw_301 (by decide) ?_
                  refine v_sub _ [0, 1, 2, 3, 4] rfl ?_
                  exact hj302 (0 : Int32) hf
                · replace hf := (if_pos h48).symm.trans hf
                  refine v_iconst (1 : Int32) G dL_draw_297 (by decide) ?_
                  refine v_goto 302 G dL_draw_298 (by decide) ?_
                  refine v_sub _ [0, 1, 2, 3, 4] rfl ?_
                  exact hj302 (1 : Int32) hf
              refine v_if_ne 261 G dL_draw_253 (by decide) (fun h49 => ?_) (fun h49 => ?_)
              · replace hf := (if_neg h49).symm.trans hf
                refine v_iload_n G dL_draw_261 3 rfl ?_
                refine v_sub _ [0, 1, 2, 3, 4, 5] rfl ?_
                exact hj262 c3 hf
              · replace hf := (if_pos h49).symm.trans hf
                refine v_iload G dL_draw_256 4 rfl ?_
                refine v_goto 262 G dL_draw_258 (by decide) ?_
                refine v_sub _ [0, 1, 2, 3, 4, 5] rfl ?_
                exact hj262 w4 hf
            refine v_if_ne 239 G dL_draw_232 (by decide) (fun h50 => ?_) (fun h50 => ?_)
            · replace hf := (if_neg h50).symm.trans hf
              refine v_iload G dL_draw_239 5 rfl ?_
              refine v_sub _ [1, 2, 3, 4, 5, 0] rfl ?_
              exact hj241 w4 hf
            · replace hf := (if_pos h50).symm.trans hf
              refine v_iload_n G dL_draw_235 4 rfl ?_
              refine v_goto 241 G dL_draw_236 (by decide) ?_
              refine v_sub _ [1, 2, 3, 4, 5, 0] rfl ?_
              exact hj241 c3 hf
          · replace hf := (if_pos h51).symm.trans hf
            refine v_goto 310 G dL_draw_218 (by decide) ?_
            refine v_sub _ [1, 2, 3, 4, 5] rfl ?_
            exact hj310 M hf
      refine v_icmp_ge 189 G dL_draw_175 (by decide) (fun h54 => ?_) (fun h54 => ?_)
      · replace hf := (if_pos h54).symm.trans hf
        refine v_sipush (2083 : Int32) G dL_draw_189 (by decide) ?_
        refine v_iload_n G dL_draw_192 3 rfl ?_
        refine v_imul G dL_draw_193 ?_
        refine v_bipush (59 : Int32) G dL_draw_194 (by decide) ?_
        refine v_iload G dL_draw_196 4 rfl ?_
        refine v_imul G dL_draw_198 ?_
        refine v_iadd G dL_draw_199 ?_
        refine v_iload_n G dL_draw_200 2 rfl ?_
        refine v_iadd G dL_draw_201 ?_
        refine v_sub _ [0, 1, 2, 3, 4] rfl ?_
        exact hj202 ((((2083 : Int32) * c3) + ((59 : Int32) * w4)) + c2) hf
      · replace hf := (if_neg h54).symm.trans hf
        refine v_aload_n G dL_draw_178 0 rfl ?_
        refine v_iload_n G dL_draw_179 3 rfl ?_
        refine v_iload G dL_draw_180 4 rfl ?_
        refine v_iadd G dL_draw_182 ?_
        obtain ⟨g53, hf⟩ := gd_e hf
        refine v_sld G GW g53 dL_draw_183 ?_
        refine v_iload_n G dL_draw_184 3 rfl ?_
        refine v_ishr G dL_draw_185 ?_
        refine v_goto 202 G dL_draw_186 (by decide) ?_
        refine v_sub _ [0, 1, 2, 3, 4] rfl ?_
        exact hj202 ((xs ((c3 + w4)).toNatClampNeg) >>> (c3 &&& 31)) hf
set_option maxRecDepth 100000 in
set_option maxHeartbeats 4000000 in
theorem s_L_draw_149 {ad : Nat → Nat} {cy : Nat → ClassId} {x : KX} (G : KG ad cy x cL_draw "NoonGuidesLaw" 6 (some none) 1) (Ln : Nat) (xs : Nat → Int32) {a1 : Nat} {c2 : Int32} {b : Nat} {aK aV : Nat → Nat} (GW : KWx b Ln xs aK aV x) (h1 : kty a1 = 35) {k322 : KM → Option KM} {y : KM} (hk322 : ∀ (M : KM), k322 M = some y → KV ad cy x (none, y) 322 [(0, .ref b), (1, .ref (ad a1)), (2, .int c2)] [] M) : ∀ (n : Nat) (w3 : Int32) (M : KM), lp_L_draw_149 n Ln xs a1 c2 w3 M k322 = some y → KV ad cy x (none, y) 149 [(0, .ref b), (1, .ref (ad a1)), (2, .int c2), (3, .int w3)] [] M := by
  intro n
  induction n with
  | zero =>
    intro w3 M hf
    cases hf
  | succ n ih =>
    intro w3 M hf
    rw [lp_L_draw_149] at hf
    refine v_iload_n G dL_draw_149 3 rfl ?_
    refine v_aload_n G dL_draw_150 1 rfl ?_
    refine v_iconst (0 : Int32) G dL_draw_151 (by decide) ?_
    obtain ⟨g23, hf⟩ := gd_e hf
    refine al_35 G h1 g23 dL_draw_152 ?_
    refine v_icmp_ge 322 G dL_draw_153 (by decide) (fun h58 => ?_) (fun h58 => ?_)
    · replace hf := (if_pos h58).symm.trans hf
      refine v_sub _ [0, 1, 2] rfl ?_
      exact hk322 M hf
    · replace hf := (if_neg h58).symm.trans hf
      refine v_iload_n G dL_draw_156 3 rfl ?_
      refine v_iconst (1 : Int32) G dL_draw_157 (by decide) ?_
      refine v_iadd G dL_draw_158 ?_
      refine v_nmi (fun v24 ev24 => ?_)
      replace hf := lt_e hf ev24
      refine v_istore [(4, .int v24), (0, .ref b), (1, .ref (ad a1)), (2, .int c2), (3, .int w3)] G dL_draw_159 (by decide) rfl ?_
      refine v_sub _ [1, 2, 3, 4, 0] rfl ?_
      refine s_L_draw_161 G Ln xs GW h1 (fun M56 hf => ?_) n v24 M hf
      · obtain ⟨v57, ev57⟩ : ∃ q : Int32, q = w3 + (1 : Int32) := ⟨_, rfl⟩
        replace hf := lt_e hf ev57
        refine v_iinc v57 [(3, .int v57), (0, .ref b), (1, .ref (ad a1)), (2, .int c2)] G dL_draw_316 3 rfl (by rw [ev57]; rfl) (by decide) rfl ?_
        refine v_goto 149 G dL_draw_319 (by decide) ?_
        refine v_sub _ [1, 2, 3, 0] rfl ?_
        exact ih v57 M56 hf
set_option maxRecDepth 100000 in
set_option maxHeartbeats 4000000 in
theorem s_L_draw_415 {ad : Nat → Nat} {cy : Nat → ClassId} {x : KX} (G : KG ad cy x cL_draw "NoonGuidesLaw" 6 (some none) 1) (Ln : Nat) (xs : Nat → Int32) {a1 : Nat} {c2 : Int32} {c3 : Int32} {c4 : Int32} {b : Nat} {aK aV : Nat → Nat} (GW : KWx b Ln xs aK aV x) (h1 : kty a1 = 35) {k467 : KM → Option KM} {y : KM} (hk467 : ∀ (M : KM), k467 M = some y → KV ad cy x (none, y) 467 [(0, .ref b), (1, .ref (ad a1)), (2, .int c2), (3, .int c3)] [] M) : ∀ (n : Nat) (w5 : Int32) (M : KM), lp_L_draw_415 n Ln xs a1 c2 c3 c4 w5 M k467 = some y → KV ad cy x (none, y) 415 [(0, .ref b), (1, .ref (ad a1)), (2, .int c2), (3, .int c3), (4, .int c4), (5, .int w5)] [] M := by
  intro n
  induction n with
  | zero =>
    intro w5 M hf
    cases hf
  | succ n ih =>
    intro w5 M hf
    rw [lp_L_draw_415] at hf
    refine v_iload G dL_draw_415 5 rfl ?_
    refine v_iconst (4 : Int32) G dL_draw_417 (by decide) ?_
    refine v_icmp_ge 467 G dL_draw_418 (by decide) (fun h79 => ?_) (fun h79 => ?_)
    · replace hf := (if_pos h79).symm.trans hf
      refine v_sub _ [0, 1, 2, 3] rfl ?_
      exact hk467 M hf
    · replace hf := (if_neg h79).symm.trans hf
      refine v_aload_n G dL_draw_421 1 rfl ?_
      refine v_bipush (37 : Int32) G dL_draw_422 (by decide) ?_
      refine v_iconst (4 : Int32) G dL_draw_424 (by decide) ?_
      refine v_iload_n G dL_draw_425 3 rfl ?_
      refine v_imul G dL_draw_426 ?_
      refine v_iadd G dL_draw_427 ?_
      refine v_iload G dL_draw_428 5 rfl ?_
      refine v_iadd G dL_draw_430 ?_
      refine v_iload G dL_draw_431 5 rfl ?_
      refine v_aload_n G dL_draw_433 1 rfl ?_
      refine v_iconst (1 : Int32) G dL_draw_434 (by decide) ?_
      obtain ⟨g71, hf⟩ := gd_e hf
      refine al_35 G h1 g71 dL_draw_435 ?_
      obtain ⟨j460, ej460, hf⟩ := lt_j hf
      have hj460 : ∀ (x72 : Int32), j460 x72 = some y → KV ad cy x (none, y) 460 [(0, .ref b), (1, .ref (ad a1)), (2, .int c2), (3, .int c3), (4, .int c4), (5, .int w5)] [.int x72, .int (((37 : Int32) + ((4 : Int32) * c3)) + w5), .ref (ad a1)] M := by
        intro x72 hf
        rw [ej460] at hf
        obtain ⟨g73, hf⟩ := gd_e hf
        refine as_35 G h1 g73 dL_draw_460 ?_
        refine v_nmM (fun M74 eM74 => ?_)
        replace hf := lt_e hf eM74
        obtain ⟨v75, ev75⟩ : ∃ q : Int32, q = w5 + (1 : Int32) := ⟨_, rfl⟩
        replace hf := lt_e hf ev75
        refine v_iinc v75 [(5, .int v75), (0, .ref b), (1, .ref (ad a1)), (2, .int c2), (3, .int c3), (4, .int c4)] G dL_draw_461 5 rfl (by rw [ev75]; rfl) (by decide) rfl ?_
        refine v_goto 415 G dL_draw_464 (by decide) ?_
        refine v_sub _ [1, 2, 3, 4, 5, 0] rfl ?_
        exact ih v75 M74 hf
      obtain ⟨j459, ej459, hf⟩ := lt_j hf
      have hj459 : j459 = some y → KV ad cy x (none, y) 459 [(0, .ref b), (1, .ref (ad a1)), (2, .int c2), (3, .int c3), (4, .int c4), (5, .int w5)] [.int (((37 : Int32) + ((4 : Int32) * c3)) + w5), .ref (ad a1)] M := by
        intro hf
        rw [ej459] at hf
        refine v_iconst (0 : Int32) G dL_draw_459 (by decide) ?_
        refine v_sub _ [0, 1, 2, 3, 4, 5] rfl ?_
        exact hj460 (0 : Int32) hf
      refine v_icmp_ge 459 G dL_draw_436 (by decide) (fun h78 => ?_) (fun h78 => ?_)
      · replace hf := (if_pos h78).symm.trans hf
        refine v_sub _ [0, 1, 2, 3, 4, 5] rfl ?_
        exact hj459 hf
      · replace hf := (if_neg h78).symm.trans hf
        refine v_iload G dL_draw_439 4 rfl ?_
        refine v_iload G dL_draw_441 5 rfl ?_
        refine v_iconst (4 : Int32) G dL_draw_443 (by decide) ?_
        refine v_iadd G dL_draw_444 ?_
        refine v_ishr G dL_draw_445 ?_
        refine v_iconst (3 : Int32) G dL_draw_446 (by decide) ?_
        refine v_iand G dL_draw_447 ?_
        refine v_iconst (2 : Int32) G dL_draw_448 (by decide) ?_
        refine v_icmp_ne 459 G dL_draw_449 (by decide) (fun h77 => ?_) (fun h77 => ?_)
        · replace hf := (if_neg h77).symm.trans hf
          refine v_sub _ [0, 1, 2, 3, 4, 5] rfl ?_
          exact hj459 hf
        · replace hf := (if_pos h77).symm.trans hf
          refine v_aload_n G dL_draw_452 1 rfl ?_
          refine v_bipush (7 : Int32) G dL_draw_453 (by decide) ?_
          obtain ⟨g76, hf⟩ := gd_e hf
          refine al_35 G h1 g76 dL_draw_455 ?_
          refine v_goto 460 G dL_draw_456 (by decide) ?_
          refine v_sub _ [0, 1, 2, 3, 4, 5] rfl ?_
          exact hj460 (M.1 a1 ((7 : Int32)).toNatClampNeg) hf
set_option maxRecDepth 100000 in
set_option maxHeartbeats 4000000 in
theorem s_L_draw_324 {ad : Nat → Nat} {cy : Nat → ClassId} {x : KX} (G : KG ad cy x cL_draw "NoonGuidesLaw" 6 (some none) 1) (Ln : Nat) (xs : Nat → Int32) {a1 : Nat} {c2 : Int32} {b : Nat} {aK aV : Nat → Nat} (GW : KWx b Ln xs aK aV x) (h1 : kty a1 = 35) {y : KM} : ∀ (n : Nat) (w3 : Int32) (M : KM), lp_L_draw_324 n Ln xs a1 c2 w3 M = some y → KV ad cy x (none, y) 324 [(0, .ref b), (1, .ref (ad a1)), (2, .int c2), (3, .int w3)] [] M := by
  intro n
  induction n with
  | zero =>
    intro w3 M hf
    cases hf
  | succ n ih =>
    intro w3 M hf
    rw [lp_L_draw_324] at hf
    refine v_iload_n G dL_draw_324 3 rfl ?_
    refine v_iconst (4 : Int32) G dL_draw_325 (by decide) ?_
    refine v_icmp_ge 473 G dL_draw_326 (by decide) (fun h86 => ?_) (fun h86 => ?_)
    · replace hf := (if_pos h86).symm.trans hf
      obtain rfl := Option.some.inj hf
      exact v_vret G dL_draw_473
    · replace hf := (if_neg h86).symm.trans hf
      refine v_iload_n G dL_draw_329 3 rfl ?_
      refine v_iconst (2 : Int32) G dL_draw_330 (by decide) ?_
      refine v_iadd G dL_draw_331 ?_
      refine v_aload_n G dL_draw_332 0 rfl ?_
      refine v_slen G GW dL_draw_333 ?_
      obtain ⟨j354, ej354, hf⟩ := lt_j hf
      have hj354 : ∀ (x60 : Int32), j354 x60 = some y → KV ad cy x (none, y) 354 [(0, .ref b), (1, .ref (ad a1)), (2, .int c2), (3, .int w3)] [.int x60] M := by
        intro x60 hf
        rw [ej354] at hf
        refine v_istore [(4, .int x60), (0, .ref b), (1, .ref (ad a1)), (2, .int c2), (3, .int w3)] G dL_draw_354 (by decide) rfl ?_
        refine v_aload_n G dL_draw_356 2 rfl ?_
        refine v_bipush (25 : Int32) G dL_draw_357 (by decide) ?_
        refine v_iload_n G dL_draw_359 4 rfl ?_
        refine v_iadd G dL_draw_360 ?_
        refine v_iload G dL_draw_361 0 rfl ?_
        refine v_iconst (3 : Int32) G dL_draw_363 (by decide) ?_
        refine v_iand G dL_draw_364 ?_
        refine v_aload_n G dL_draw_365 2 rfl ?_
        refine v_iconst (0 : Int32) G dL_draw_366 (by decide) ?_
        obtain ⟨g61, hf⟩ := gd_e hf
        refine al_35 G h1 g61 dL_draw_367 ?_
        obtain ⟨g62, hf⟩ := gd_e hf
        refine v_irem G dL_draw_368 g62 ?_
        obtain ⟨g63, hf⟩ := gd_e hf
        refine as_35 G h1 g63 dL_draw_369 ?_
        refine v_nmM (fun M64 eM64 => ?_)
        replace hf := lt_e hf eM64
        refine v_aload_n G dL_draw_370 2 rfl ?_
        refine v_bipush (33 : Int32) G dL_draw_371 (by decide) ?_
        refine v_iload_n G dL_draw_373 4 rfl ?_
        refine v_iadd G dL_draw_374 ?_
        refine v_iload G dL_draw_375 0 rfl ?_
        refine v_iconst (2 : Int32) G dL_draw_377 (by decide) ?_
        refine v_ishr G dL_draw_378 ?_
        refine v_iconst (1 : Int32) G dL_draw_379 (by decide) ?_
        refine v_iand G dL_draw_380 ?_
        obtain ⟨g65, hf⟩ := gd_e hf
        refine as_35 G h1 g65 dL_draw_381 ?_
        refine v_nmM (fun M66 eM66 => ?_)
        replace hf := lt_e hf eM66
        refine v_aload_n G dL_draw_382 2 rfl ?_
        refine v_bipush (29 : Int32) G dL_draw_383 (by decide) ?_
        refine v_iload_n G dL_draw_385 4 rfl ?_
        refine v_iadd G dL_draw_386 ?_
        refine v_aload_n G dL_draw_387 2 rfl ?_
        refine v_bipush (33 : Int32) G dL_draw_388 (by decide) ?_
        refine v_iload_n G dL_draw_390 4 rfl ?_
        refine v_iadd G dL_draw_391 ?_
        obtain ⟨g67, hf⟩ := gd_e hf
        refine al_35 G h1 g67 dL_draw_392 ?_
        obtain ⟨j411, ej411, hf⟩ := lt_j hf
        have hj411 : ∀ (x68 : Int32), j411 x68 = some y → KV ad cy x (none, y) 411 [(0, .ref b), (1, .ref (ad a1)), (2, .int c2), (3, .int w3), (4, .int x60)] [.int x68, .int ((29 : Int32) + w3), .ref (ad a1)] M66 := by
          intro x68 hf
          rw [ej411] at hf
          obtain ⟨g69, hf⟩ := gd_e hf
          refine as_35 G h1 g69 dL_draw_411 ?_
          refine v_nmM (fun M70 eM70 => ?_)
          replace hf := lt_e hf eM70
          refine v_iconst (0 : Int32) G dL_draw_412 (by decide) ?_
          refine v_istore [(5, .int (0 : Int32)), (0, .ref b), (1, .ref (ad a1)), (2, .int c2), (3, .int w3), (4, .int x60)] G dL_draw_413 (by decide) rfl ?_
          refine v_sub _ [1, 2, 3, 4, 5, 0] rfl ?_
          refine s_L_draw_415 G Ln xs GW h1 (fun M80 hf => ?_) n (0 : Int32) M70 hf
          · obtain ⟨v81, ev81⟩ : ∃ q : Int32, q = w3 + (1 : Int32) := ⟨_, rfl⟩
            replace hf := lt_e hf ev81
            refine v_iinc v81 [(3, .int v81), (0, .ref b), (1, .ref (ad a1)), (2, .int c2)] G dL_draw_467 3 rfl (by rw [ev81]; rfl) (by decide) rfl ?_
            refine v_goto 324 G dL_draw_470 (by decide) ?_
            refine v_sub _ [1, 2, 3, 0] rfl ?_
            exact ih v81 M80 hf
        obtain ⟨j410, ej410, hf⟩ := lt_j hf
        have hj410 : j410 = some y → KV ad cy x (none, y) 410 [(0, .ref b), (1, .ref (ad a1)), (2, .int c2), (3, .int w3), (4, .int x60)] [.int ((29 : Int32) + w3), .ref (ad a1)] M66 := by
          intro hf
          rw [ej410] at hf
          refine v_iconst (0 : Int32) G dL_draw_410 (by decide) ?_
          refine v_sub _ [0, 1, 2, 3, 4] rfl ?_
          exact hj411 (0 : Int32) hf
        refine v_if_ne 410 G dL_draw_393 (by decide) (fun h83 => ?_) (fun h83 => ?_)
        · replace hf := (if_neg h83).symm.trans hf
          refine v_sub _ [1, 2, 3, 4, 0] rfl ?_
          exact hj410 hf
        · replace hf := (if_pos h83).symm.trans hf
          refine v_iload G dL_draw_396 0 rfl ?_
          refine v_iconst (3 : Int32) G dL_draw_398 (by decide) ?_
          refine v_ishr G dL_draw_399 ?_
          refine v_iconst (3 : Int32) G dL_draw_400 (by decide) ?_
          refine v_iand G dL_draw_401 ?_
          refine v_iconst (1 : Int32) G dL_draw_402 (by decide) ?_
          refine v_icmp_ne 410 G dL_draw_403 (by decide) (fun h82 => ?_) (fun h82 => ?_)
          · replace hf := (if_neg h82).symm.trans hf
            refine v_sub _ [1, 2, 3, 4, 0] rfl ?_
            exact hj410 hf
          · replace hf := (if_pos h82).symm.trans hf
            refine v_iconst (1 : Int32) G dL_draw_406 (by decide) ?_
            refine v_goto 411 G dL_draw_407 (by decide) ?_
            refine v_sub _ [1, 2, 3, 4, 0] rfl ?_
            exact hj411 (1 : Int32) hf
      refine v_icmp_ge 347 G dL_draw_334 (by decide) (fun h85 => ?_) (fun h85 => ?_)
      · replace hf := (if_pos h85).symm.trans hf
        refine v_sipush (953 : Int32) G dL_draw_347 (by decide) ?_
        refine v_iload_n G dL_draw_350 3 rfl ?_
        refine v_imul G dL_draw_351 ?_
        refine v_iload_n G dL_draw_352 2 rfl ?_
        refine v_iadd G dL_draw_353 ?_
        refine v_sub _ [0, 1, 2, 3] rfl ?_
        exact hj354 (((953 : Int32) * w3) + c2) hf
      · replace hf := (if_neg h85).symm.trans hf
        refine v_aload_n G dL_draw_337 0 rfl ?_
        refine v_iload_n G dL_draw_338 3 rfl ?_
        refine v_iconst (2 : Int32) G dL_draw_339 (by decide) ?_
        refine v_iadd G dL_draw_340 ?_
        obtain ⟨g84, hf⟩ := gd_e hf
        refine v_sld G GW g84 dL_draw_341 ?_
        refine v_iconst (1 : Int32) G dL_draw_342 (by decide) ?_
        refine v_ishr G dL_draw_343 ?_
        refine v_goto 354 G dL_draw_344 (by decide) ?_
        refine v_sub _ [0, 1, 2, 3] rfl ?_
        exact hj354 ((xs ((w3 + (2 : Int32))).toNatClampNeg) >>> ((1 : Int32) &&& 31)) hf
set_option maxRecDepth 100000 in
set_option maxHeartbeats 4000000 in
theorem c_L_draw {l : Launch} {ad : Nat → Nat} {cy : Nat → ClassId} {D : va_G} {z : Nat} (Ln : Nat) (xs : Nat → Int32) (n : Nat) {a1 : Nat} {b : Nat} {aK aV : Nat → Nat} {M : KM} {y : KM} (h1 : kty a1 = 35) (hf : f_L_draw Ln xs n a1 M = some y) : KC2 l ad cy D z b Ln xs aK aV yL_draw cL_draw 6 none 1 [.ref b, .ref (ad a1)] M (none, y) := by
  refine kv_enter2 (by decide +kernel) (Nat.le_of_ble_eq_true rfl) ?_
  intro x hl hD hz G GW
  subst hl hD hz
  unfold f_L_draw at hf
  have G : KG ad cy x cL_draw "NoonGuidesLaw" 6 (some none) 1 := G
  show KV ad cy x (none, y) 0 [(0, .ref b), (1, .ref (ad a1))] [] M
  refine v_aload_n G dL_draw_0 0 rfl ?_
  refine v_slen G GW dL_draw_1 ?_
  obtain ⟨j14, ej14, hf⟩ := lt_j hf
  have hj14 : ∀ (x1 : Int32), j14 x1 = some y → KV ad cy x (none, y) 14 [(0, .ref b), (1, .ref (ad a1))] [.int x1] M := by
    intro x1 hf
    rw [ej14] at hf
    refine v_istore_n [(2, .int x1), (0, .ref b), (1, .ref (ad a1))] G dL_draw_14 (by decide) rfl ?_
    refine v_aload_n G dL_draw_15 2 rfl ?_
    refine v_iconst (0 : Int32) G dL_draw_16 (by decide) ?_
    refine v_iconst (1 : Int32) G dL_draw_17 (by decide) ?_
    refine v_iload_n G dL_draw_18 0 rfl ?_
    refine v_iconst (3 : Int32) G dL_draw_19 (by decide) ?_
    refine v_iand G dL_draw_20 ?_
    refine v_iadd G dL_draw_21 ?_
    obtain ⟨g2, hf⟩ := gd_e hf
    refine as_35 G h1 g2 dL_draw_22 ?_
    refine v_nmM (fun M3 eM3 => ?_)
    replace hf := lt_e hf eM3
    refine v_aload_n G dL_draw_23 2 rfl ?_
    refine v_iconst (2 : Int32) G dL_draw_24 (by decide) ?_
    refine v_iload_n G dL_draw_25 0 rfl ?_
    refine v_iconst (2 : Int32) G dL_draw_26 (by decide) ?_
    refine v_ishr G dL_draw_27 ?_
    refine v_bipush (7 : Int32) G dL_draw_28 (by decide) ?_
    refine v_iand G dL_draw_30 ?_
    refine v_iconst (5 : Int32) G dL_draw_31 (by decide) ?_
    refine v_irem G dL_draw_32 (by decide) ?_
    obtain ⟨g4, hf⟩ := gd_e hf
    refine as_35 G h1 g4 dL_draw_33 ?_
    refine v_nmM (fun M5 eM5 => ?_)
    replace hf := lt_e hf eM5
    refine v_aload_n G dL_draw_34 2 rfl ?_
    refine v_iconst (3 : Int32) G dL_draw_35 (by decide) ?_
    refine v_iload_n G dL_draw_36 0 rfl ?_
    refine v_iconst (1 : Int32) G dL_draw_37 (by decide) ?_
    refine v_ishr G dL_draw_38 ?_
    refine v_bipush (31 : Int32) G dL_draw_39 (by decide) ?_
    refine v_iand G dL_draw_41 ?_
    refine v_bipush (24 : Int32) G dL_draw_42 (by decide) ?_
    refine v_irem G dL_draw_44 (by decide) ?_
    obtain ⟨g6, hf⟩ := gd_e hf
    refine as_35 G h1 g6 dL_draw_45 ?_
    refine v_nmM (fun M7 eM7 => ?_)
    replace hf := lt_e hf eM7
    refine v_aload_n G dL_draw_46 2 rfl ?_
    refine v_iconst (4 : Int32) G dL_draw_47 (by decide) ?_
    refine v_aload_n G dL_draw_48 2 rfl ?_
    refine v_iconst (3 : Int32) G dL_draw_49 (by decide) ?_
    obtain ⟨g8, hf⟩ := gd_e hf
    refine al_35 G h1 g8 dL_draw_50 ?_
    refine v_iconst (1 : Int32) G dL_draw_51 (by decide) ?_
    refine v_iadd G dL_draw_52 ?_
    refine v_iload_n G dL_draw_53 0 rfl ?_
    refine v_iconst (5 : Int32) G dL_draw_54 (by decide) ?_
    refine v_ishr G dL_draw_55 ?_
    refine v_bipush (7 : Int32) G dL_draw_56 (by decide) ?_
    refine v_iand G dL_draw_58 ?_
    refine v_iadd G dL_draw_59 ?_
    refine v_bipush (24 : Int32) G dL_draw_60 (by decide) ?_
    obtain ⟨j82, ej82, hf⟩ := lt_j hf
    have hj82 : ∀ (x9 : Int32), j82 x9 = some y → KV ad cy x (none, y) 82 [(0, .ref b), (1, .ref (ad a1)), (2, .int x1)] [.int x9, .int (4 : Int32), .ref (ad a1)] M7 := by
      intro x9 hf
      rw [ej82] at hf
      obtain ⟨g10, hf⟩ := gd_e hf
      refine as_35 G h1 g10 dL_draw_82 ?_
      refine v_nmM (fun M11 eM11 => ?_)
      replace hf := lt_e hf eM11
      refine v_aload_n G dL_draw_83 1 rfl ?_
      refine v_iconst (5 : Int32) G dL_draw_84 (by decide) ?_
      refine v_bipush (60 : Int32) G dL_draw_85 (by decide) ?_
      refine v_aload_n G dL_draw_87 1 rfl ?_
      refine v_iconst (3 : Int32) G dL_draw_88 (by decide) ?_
      obtain ⟨g12, hf⟩ := gd_e hf
      refine al_35 G h1 g12 dL_draw_89 ?_
      refine v_imul G dL_draw_90 ?_
      refine v_sipush (1440 : Int32) G dL_draw_91 (by decide) ?_
      refine v_iadd G dL_draw_94 ?_
      refine v_iload_n G dL_draw_95 2 rfl ?_
      refine v_iconst (3 : Int32) G dL_draw_96 (by decide) ?_
      refine v_ishr G dL_draw_97 ?_
      refine v_bipush (127 : Int32) G dL_draw_98 (by decide) ?_
      refine v_iand G dL_draw_100 ?_
      refine v_isub G dL_draw_101 ?_
      refine v_sipush (1440 : Int32) G dL_draw_102 (by decide) ?_
      refine v_irem G dL_draw_105 (by decide) ?_
      obtain ⟨g13, hf⟩ := gd_e hf
      refine as_35 G h1 g13 dL_draw_106 ?_
      refine v_nmM (fun M14 eM14 => ?_)
      replace hf := lt_e hf eM14
      refine v_aload_n G dL_draw_107 1 rfl ?_
      refine v_bipush (6 : Int32) G dL_draw_108 (by decide) ?_
      refine v_iconst (1 : Int32) G dL_draw_110 (by decide) ?_
      refine v_iload_n G dL_draw_111 2 rfl ?_
      refine v_iconst (4 : Int32) G dL_draw_112 (by decide) ?_
      refine v_ishr G dL_draw_113 ?_
      refine v_iconst (3 : Int32) G dL_draw_114 (by decide) ?_
      refine v_iand G dL_draw_115 ?_
      refine v_iadd G dL_draw_116 ?_
      obtain ⟨g15, hf⟩ := gd_e hf
      refine as_35 G h1 g15 dL_draw_117 ?_
      refine v_nmM (fun M16 eM16 => ?_)
      replace hf := lt_e hf eM16
      refine v_aload_n G dL_draw_118 1 rfl ?_
      refine v_bipush (7 : Int32) G dL_draw_119 (by decide) ?_
      refine v_iconst (1 : Int32) G dL_draw_121 (by decide) ?_
      refine v_iload_n G dL_draw_122 2 rfl ?_
      refine v_bipush (6 : Int32) G dL_draw_123 (by decide) ?_
      refine v_ishr G dL_draw_125 ?_
      refine v_iconst (3 : Int32) G dL_draw_126 (by decide) ?_
      refine v_iand G dL_draw_127 ?_
      refine v_iadd G dL_draw_128 ?_
      obtain ⟨g17, hf⟩ := gd_e hf
      refine as_35 G h1 g17 dL_draw_129 ?_
      refine v_nmM (fun M18 eM18 => ?_)
      replace hf := lt_e hf eM18
      refine v_aload_n G dL_draw_130 1 rfl ?_
      refine v_bipush (8 : Int32) G dL_draw_131 (by decide) ?_
      refine v_iload_n G dL_draw_133 2 rfl ?_
      refine v_iconst (2 : Int32) G dL_draw_134 (by decide) ?_
      refine v_ishr G dL_draw_135 ?_
      refine v_bipush (31 : Int32) G dL_draw_136 (by decide) ?_
      refine v_iand G dL_draw_138 ?_
      refine v_bipush (17 : Int32) G dL_draw_139 (by decide) ?_
      refine v_irem G dL_draw_141 (by decide) ?_
      obtain ⟨g19, hf⟩ := gd_e hf
      refine as_35 G h1 g19 dL_draw_142 ?_
      refine v_nmM (fun M20 eM20 => ?_)
      replace hf := lt_e hf eM20
      refine v_aload_n G dL_draw_143 1 rfl ?_
      refine v_iconst (1 : Int32) G dL_draw_144 (by decide) ?_
      refine v_iconst (0 : Int32) G dL_draw_145 (by decide) ?_
      obtain ⟨g21, hf⟩ := gd_e hf
      refine as_35 G h1 g21 dL_draw_146 ?_
      refine v_nmM (fun M22 eM22 => ?_)
      replace hf := lt_e hf eM22
      refine v_iconst (0 : Int32) G dL_draw_147 (by decide) ?_
      refine v_istore_n [(3, .int (0 : Int32)), (0, .ref b), (1, .ref (ad a1)), (2, .int x1)] G dL_draw_148 (by decide) rfl ?_
      refine v_sub _ [1, 2, 3, 0] rfl ?_
      refine s_L_draw_149 G Ln xs GW h1 (fun M59 hf => ?_) n (0 : Int32) M22 hf
      · refine v_iconst (0 : Int32) G dL_draw_322 (by decide) ?_
        refine v_istore_n [(3, .int (0 : Int32)), (0, .ref b), (1, .ref (ad a1)), (2, .int x1)] G dL_draw_323 (by decide) rfl ?_
        refine v_sub _ [1, 2, 3, 0] rfl ?_
        refine s_L_draw_324 G Ln xs GW h1 n (0 : Int32) M59 hf
    refine v_icmp_le 70 G dL_draw_62 (by decide) (fun h88 => ?_) (fun h88 => ?_)
    · replace hf := (if_pos h88).symm.trans hf
      refine v_aload_n G dL_draw_70 2 rfl ?_
      refine v_iconst (3 : Int32) G dL_draw_71 (by decide) ?_
      obtain ⟨g87, hf⟩ := gd_e hf
      refine al_35 G h1 g87 dL_draw_72 ?_
      refine v_iconst (1 : Int32) G dL_draw_73 (by decide) ?_
      refine v_iadd G dL_draw_74 ?_
      refine v_iload_n G dL_draw_75 0 rfl ?_
      refine v_iconst (5 : Int32) G dL_draw_76 (by decide) ?_
      refine v_ishr G dL_draw_77 ?_
      refine v_bipush (7 : Int32) G dL_draw_78 (by decide) ?_
      refine v_iand G dL_draw_80 ?_
      refine v_iadd G dL_draw_81 ?_
      refine v_sub _ [1, 2, 0] rfl ?_
      exact hj82 (((M7.1 a1 ((3 : Int32)).toNatClampNeg) + (1 : Int32)) + ((x1 >>> ((5 : Int32) &&& 31)) &&& (7 : Int32))) hf
    · replace hf := (if_neg h88).symm.trans hf
      refine v_bipush (24 : Int32) G dL_draw_65 (by decide) ?_
      refine v_goto 82 G dL_draw_67 (by decide) ?_
      refine v_sub _ [1, 2, 0] rfl ?_
      exact hj82 (24 : Int32) hf
  refine v_if_ne 11 G dL_draw_2 (by decide) (fun h90 => ?_) (fun h90 => ?_)
  · replace hf := (if_neg h90).symm.trans hf
    refine v_aload_n G dL_draw_11 0 rfl ?_
    refine v_iconst (0 : Int32) G dL_draw_12 (by decide) ?_
    obtain ⟨g89, hf⟩ := gd_e hf
    refine v_sld G GW g89 dL_draw_13 ?_
    refine v_sub _ [0, 1] rfl ?_
    exact hj14 (xs ((0 : Int32)).toNatClampNeg) hf
  · replace hf := (if_pos h90).symm.trans hf
    refine v_sipush (7919 : Int32) G dL_draw_5 (by decide) ?_
    refine v_goto 14 G dL_draw_8 (by decide) ?_
    refine v_sub _ [0, 1] rfl ?_
    exact hj14 (7919 : Int32) hf
abbrev cL_size : ByteArray := method_18_code
def yL_size : MethodName := ⟨RL, "size", "(I)I"⟩
theorem dL_size_0 : dc cL_size 0 (.iconst 0) 1 1 := ⟨by decide +kernel, rfl⟩
theorem dL_size_1 : dc cL_size 1 (.istore_n 1) 1 2 := ⟨by decide +kernel, rfl⟩
theorem dL_size_2 : dc cL_size 2 (.iconst 0) 1 3 := ⟨by decide +kernel, rfl⟩
theorem dL_size_3 : dc cL_size 3 (.istore_n 2) 1 4 := ⟨by decide +kernel, rfl⟩
theorem dL_size_4 : dc cL_size 4 (.iload_n 2) 1 5 := ⟨by decide +kernel, rfl⟩
theorem dL_size_5 : dc cL_size 5 (.bipush 16) 2 7 := ⟨by decide +kernel, rfl⟩
theorem dL_size_7 : dc cL_size 7 (.if_icmp .ge 17) 3 10 := ⟨by decide +kernel, rfl⟩
theorem dL_size_10 : dc cL_size 10 (.iload_n 1) 1 11 := ⟨by decide +kernel, rfl⟩
theorem dL_size_11 : dc cL_size 11 (.iload_n 0) 1 12 := ⟨by decide +kernel, rfl⟩
theorem dL_size_12 : dc cL_size 12 (.iload_n 2) 1 13 := ⟨by decide +kernel, rfl⟩
theorem dL_size_13 : dc cL_size 13 (.ishr) 1 14 := ⟨by decide +kernel, rfl⟩
theorem dL_size_14 : dc cL_size 14 (.iconst 1) 1 15 := ⟨by decide +kernel, rfl⟩
theorem dL_size_15 : dc cL_size 15 (.iand) 1 16 := ⟨by decide +kernel, rfl⟩
theorem dL_size_16 : dc cL_size 16 (.iadd) 1 17 := ⟨by decide +kernel, rfl⟩
theorem dL_size_17 : dc cL_size 17 (.istore_n 1) 1 18 := ⟨by decide +kernel, rfl⟩
theorem dL_size_18 : dc cL_size 18 (.iinc 2 1) 3 21 := ⟨by decide +kernel, rfl⟩
theorem dL_size_21 : dc cL_size 21 (.goto (-17)) 3 24 := ⟨by decide +kernel, rfl⟩
theorem dL_size_24 : dc cL_size 24 (.iload_n 1) 1 25 := ⟨by decide +kernel, rfl⟩
theorem dL_size_25 : dc cL_size 25 (.ireturn) 1 26 := ⟨by decide +kernel, rfl⟩
theorem nm_L_size : (yL_size).cls ≠ "java/lang/invoke/MethodHandle" ∧ (yL_size).cls ≠ "java/lang/invoke/VarHandle" ∧ (parseMethodDescriptor (yL_size).desc).map (fun d => d.parameters.length) = some 1 := ⟨by decide +kernel, by decide +kernel, by decide +kernel⟩
set_option maxRecDepth 100000 in
set_option maxHeartbeats 4000000 in
theorem s_L_size_4 {ad : Nat → Nat} {cy : Nat → ClassId} {x : KX} (G : KG ad cy x cL_size "NoonGuidesLaw" 3 (some (some .int)) 1) {c0 : Int32} {M : KM} {y : Int32} : ∀ (n : Nat) (w1 : Int32) (w2 : Int32), lp_L_size_4 n c0 M w1 w2 = some y → KV ad cy x (some (.int y), M) 4 [(0, .int c0), (1, .int w1), (2, .int w2)] [] M := by
  intro n
  induction n with
  | zero =>
    intro w1 w2 hf
    cases hf
  | succ n ih =>
    intro w1 w2 hf
    rw [lp_L_size_4] at hf
    refine v_iload_n G dL_size_4 2 rfl ?_
    refine v_bipush (16 : Int32) G dL_size_5 (by decide) ?_
    refine v_icmp_ge 24 G dL_size_7 (by decide) (fun h3 => ?_) (fun h3 => ?_)
    · replace hf := (if_pos h3).symm.trans hf
      refine v_iload_n G dL_size_24 1 rfl ?_
      obtain rfl := Option.some.inj hf
      exact v_iret G dL_size_25
    · replace hf := (if_neg h3).symm.trans hf
      refine v_iload_n G dL_size_10 1 rfl ?_
      refine v_iload_n G dL_size_11 0 rfl ?_
      refine v_iload_n G dL_size_12 2 rfl ?_
      refine v_ishr G dL_size_13 ?_
      refine v_iconst (1 : Int32) G dL_size_14 (by decide) ?_
      refine v_iand G dL_size_15 ?_
      refine v_iadd G dL_size_16 ?_
      refine v_nmi (fun v1 ev1 => ?_)
      replace hf := lt_e hf ev1
      refine v_istore_n [(1, .int v1), (0, .int c0), (2, .int w2)] G dL_size_17 (by decide) rfl ?_
      obtain ⟨v2, ev2⟩ : ∃ q : Int32, q = w2 + (1 : Int32) := ⟨_, rfl⟩
      replace hf := lt_e hf ev2
      refine v_iinc v2 [(2, .int v2), (1, .int v1), (0, .int c0)] G dL_size_18 2 rfl (by rw [ev2]; rfl) (by decide) rfl ?_
      refine v_goto 4 G dL_size_21 (by decide) ?_
      refine v_sub _ [2, 1, 0] rfl ?_
      exact ih v1 v2 hf
set_option maxRecDepth 100000 in
set_option maxHeartbeats 4000000 in
theorem c_L_size {l : Launch} {ad : Nat → Nat} {cy : Nat → ClassId} {D : va_G} {z : Nat} (n : Nat) {p0 : Int32} {M : KM} {y : Int32} (hf : f_L_size n p0 M = some y) : KC l ad cy D z yL_size cL_size 3 (some .int) 1 [.int p0] M (some (.int y), M) := by
  refine kv_enter (by decide +kernel) (Nat.le_of_ble_eq_true rfl) ?_
  intro x hl hD hz G
  subst hl hD hz
  unfold f_L_size at hf
  have G : KG ad cy x cL_size "NoonGuidesLaw" 3 (some (some .int)) 1 := G
  show KV ad cy x (some (.int y), M) 0 [(0, .int p0)] [] M
  refine v_iconst (0 : Int32) G dL_size_0 (by decide) ?_
  refine v_istore_n [(1, .int (0 : Int32)), (0, .int p0)] G dL_size_1 (by decide) rfl ?_
  refine v_iconst (0 : Int32) G dL_size_2 (by decide) ?_
  refine v_istore_n [(2, .int (0 : Int32)), (1, .int (0 : Int32)), (0, .int p0)] G dL_size_3 (by decide) rfl ?_
  refine v_sub _ [2, 1, 0] rfl ?_
  refine s_L_size_4 G n (0 : Int32) (0 : Int32) hf
