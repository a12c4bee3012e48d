abbrev cX7_stayAt : ByteArray := prog_9_method_6_code
def yX7_stayAt : MethodName := ⟨RX7, "stayAt", "(I)V"⟩
theorem dX7_stayAt_0 : dc cX7_stayAt 0 (.aload_n 0) 1 1 := ⟨by decide +kernel, rfl⟩
theorem dX7_stayAt_1 : dc cX7_stayAt 1 (.iload_n 1) 1 2 := ⟨by decide +kernel, rfl⟩
theorem dX7_stayAt_2 : dc cX7_stayAt 2 (.putfield 18) 3 5 := ⟨by decide +kernel, rfl⟩
theorem dX7_stayAt_5 : dc cX7_stayAt 5 (.aload_n 0) 1 6 := ⟨by decide +kernel, rfl⟩
theorem dX7_stayAt_6 : dc cX7_stayAt 6 (.iconst (-1)) 1 7 := ⟨by decide +kernel, rfl⟩
theorem dX7_stayAt_7 : dc cX7_stayAt 7 (.putfield 22) 3 10 := ⟨by decide +kernel, rfl⟩
theorem dX7_stayAt_10 : dc cX7_stayAt 10 (.aload_n 0) 1 11 := ⟨by decide +kernel, rfl⟩
theorem dX7_stayAt_11 : dc cX7_stayAt 11 (.iconst (-1)) 1 12 := ⟨by decide +kernel, rfl⟩
theorem dX7_stayAt_12 : dc cX7_stayAt 12 (.putfield 25) 3 15 := ⟨by decide +kernel, rfl⟩
theorem dX7_stayAt_15 : dc cX7_stayAt 15 (.aload_n 0) 1 16 := ⟨by decide +kernel, rfl⟩
theorem dX7_stayAt_16 : dc cX7_stayAt 16 (.iconst (-1)) 1 17 := ⟨by decide +kernel, rfl⟩
theorem dX7_stayAt_17 : dc cX7_stayAt 17 (.putfield 28) 3 20 := ⟨by decide +kernel, rfl⟩
theorem dX7_stayAt_20 : dc cX7_stayAt 20 (.aload_n 0) 1 21 := ⟨by decide +kernel, rfl⟩
theorem dX7_stayAt_21 : dc cX7_stayAt 21 (.iconst (-1)) 1 22 := ⟨by decide +kernel, rfl⟩
theorem dX7_stayAt_22 : dc cX7_stayAt 22 (.putfield 31) 3 25 := ⟨by decide +kernel, rfl⟩
theorem dX7_stayAt_25 : dc cX7_stayAt 25 (.aload_n 0) 1 26 := ⟨by decide +kernel, rfl⟩
theorem dX7_stayAt_26 : dc cX7_stayAt 26 (.iconst 0) 1 27 := ⟨by decide +kernel, rfl⟩
theorem dX7_stayAt_27 : dc cX7_stayAt 27 (.putfield 58) 3 30 := ⟨by decide +kernel, rfl⟩
theorem dX7_stayAt_30 : dc cX7_stayAt 30 (.return_) 1 31 := ⟨by decide +kernel, rfl⟩
theorem nm_X7_stayAt : (yX7_stayAt).cls ≠ "java/lang/invoke/MethodHandle" ∧ (yX7_stayAt).cls ≠ "java/lang/invoke/VarHandle" ∧ (parseMethodDescriptor (yX7_stayAt).desc).map (fun d => d.parameters.length) = some 1 := ⟨by decide +kernel, by decide +kernel, by decide +kernel⟩
set_option maxRecDepth 100000 in
set_option maxHeartbeats 4000000 in
theorem c_X7_stayAt {l : Launch} {ad : Nat → Nat} {cy : Nat → ClassId} {D : va_G} {z : Nat} {a0 : Nat} {p1 : Int32} {M : KM} {y : KM} (h0 : kty a0 = 8) (hf : f_X7_stayAt a0 p1 M = y) : KC l ad cy D z yX7_stayAt cX7_stayAt 2 none 1 [.ref (ad a0), .int p1] M (none, y) := by
  refine kv_enter (by decide +kernel) (Nat.le_of_ble_eq_true rfl) ?_
  intro x hl hD hz G
  subst hl hD hz
  unfold f_X7_stayAt at hf
  have G : KG ad cy x cX7_stayAt "NoonGuides$Person" 2 (some none) 1 := G
  show KV ad cy x (none, y) 0 [(0, .ref (ad a0)), (1, .int p1)] [] M
  refine v_aload_n G dX7_stayAt_0 0 rfl ?_
  refine v_iload_n G dX7_stayAt_1 1 rfl ?_
  refine pf_7_5 G h0 t_320 (Or.inl rfl) dX7_stayAt_2 ?_
  refine v_nmM (fun M1 eM1 => ?_)
  replace hf := lt_e hf eM1
  refine v_aload_n G dX7_stayAt_5 0 rfl ?_
  refine v_iconst (-1 : Int32) G dX7_stayAt_6 (by decide) ?_
  refine pf_7_6 G h0 t_324 (Or.inl rfl) dX7_stayAt_7 ?_
  refine v_nmM (fun M2 eM2 => ?_)
  replace hf := lt_e hf eM2
  refine v_aload_n G dX7_stayAt_10 0 rfl ?_
  refine v_iconst (-1 : Int32) G dX7_stayAt_11 (by decide) ?_
  refine pf_7_7 G h0 t_326 (Or.inl rfl) dX7_stayAt_12 ?_
  refine v_nmM (fun M3 eM3 => ?_)
  replace hf := lt_e hf eM3
  refine v_aload_n G dX7_stayAt_15 0 rfl ?_
  refine v_iconst (-1 : Int32) G dX7_stayAt_16 (by decide) ?_
  refine pf_7_8 G h0 t_327 (Or.inl rfl) dX7_stayAt_17 ?_
  refine v_nmM (fun M4 eM4 => ?_)
  replace hf := lt_e hf eM4
  refine v_aload_n G dX7_stayAt_20 0 rfl ?_
  refine v_iconst (-1 : Int32) G dX7_stayAt_21 (by decide) ?_
  refine pf_7_9 G h0 t_330 (Or.inl rfl) dX7_stayAt_22 ?_
  refine v_nmM (fun M5 eM5 => ?_)
  replace hf := lt_e hf eM5
  refine v_aload_n G dX7_stayAt_25 0 rfl ?_
  refine v_iconst (0 : Int32) G dX7_stayAt_26 (by decide) ?_
  refine pf_7_10 G h0 t_333 (Or.inl rfl) dX7_stayAt_27 ?_
  refine v_nmM (fun M6 eM6 => ?_)
  replace hf := lt_e hf eM6
  obtain rfl := hf
  exact v_vret G dX7_stayAt_30
abbrev cX7_begin : ByteArray := prog_9_method_2_code
def yX7_begin : MethodName := ⟨RX7, "begin", "(JZZI)V"⟩
theorem dX7_begin_0 : dc cX7_begin 0 (.aload_n 0) 1 1 := ⟨by decide +kernel, rfl⟩
theorem dX7_begin_1 : dc cX7_begin 1 (.lload_n 1) 1 2 := ⟨by decide +kernel, rfl⟩
theorem dX7_begin_2 : dc cX7_begin 2 (.putfield 34) 3 5 := ⟨by decide +kernel, rfl⟩
theorem dX7_begin_5 : dc cX7_begin 5 (.aload_n 0) 1 6 := ⟨by decide +kernel, rfl⟩
theorem dX7_begin_6 : dc cX7_begin 6 (.iload_n 3) 1 7 := ⟨by decide +kernel, rfl⟩
theorem dX7_begin_7 : dc cX7_begin 7 (.putfield 38) 3 10 := ⟨by decide +kernel, rfl⟩
theorem dX7_begin_10 : dc cX7_begin 10 (.aload_n 0) 1 11 := ⟨by decide +kernel, rfl⟩
theorem dX7_begin_11 : dc cX7_begin 11 (.iload 4) 2 13 := ⟨by decide +kernel, rfl⟩
theorem dX7_begin_13 : dc cX7_begin 13 (.putfield 42) 3 16 := ⟨by decide +kernel, rfl⟩
theorem dX7_begin_16 : dc cX7_begin 16 (.aload_n 0) 1 17 := ⟨by decide +kernel, rfl⟩
theorem dX7_begin_17 : dc cX7_begin 17 (.iconst 0) 1 18 := ⟨by decide +kernel, rfl⟩
theorem dX7_begin_18 : dc cX7_begin 18 (.putfield 45) 3 21 := ⟨by decide +kernel, rfl⟩
theorem dX7_begin_21 : dc cX7_begin 21 (.aload_n 0) 1 22 := ⟨by decide +kernel, rfl⟩
theorem dX7_begin_22 : dc cX7_begin 22 (.iload 5) 2 24 := ⟨by decide +kernel, rfl⟩
theorem dX7_begin_24 : dc cX7_begin 24 (.invokevirtual 48) 3 27 := ⟨by decide +kernel, rfl⟩
theorem dX7_begin_27 : dc cX7_begin 27 (.iconst 0) 1 28 := ⟨by decide +kernel, rfl⟩
theorem dX7_begin_28 : dc cX7_begin 28 (.istore 6) 2 30 := ⟨by decide +kernel, rfl⟩
theorem dX7_begin_30 : dc cX7_begin 30 (.iload 6) 2 32 := ⟨by decide +kernel, rfl⟩
theorem dX7_begin_32 : dc cX7_begin 32 (.bipush 12) 2 34 := ⟨by decide +kernel, rfl⟩
theorem dX7_begin_34 : dc cX7_begin 34 (.if_icmp .ge 17) 3 37 := ⟨by decide +kernel, rfl⟩
theorem dX7_begin_37 : dc cX7_begin 37 (.aload_n 0) 1 38 := ⟨by decide +kernel, rfl⟩
theorem dX7_begin_38 : dc cX7_begin 38 (.getfield 9) 3 41 := ⟨by decide +kernel, rfl⟩
theorem dX7_begin_41 : dc cX7_begin 41 (.iload 6) 2 43 := ⟨by decide +kernel, rfl⟩
theorem dX7_begin_43 : dc cX7_begin 43 (.iconst 0) 1 44 := ⟨by decide +kernel, rfl⟩
theorem dX7_begin_44 : dc cX7_begin 44 (.iastore) 1 45 := ⟨by decide +kernel, rfl⟩
theorem dX7_begin_45 : dc cX7_begin 45 (.iinc 6 1) 3 48 := ⟨by decide +kernel, rfl⟩
theorem dX7_begin_48 : dc cX7_begin 48 (.goto (-18)) 3 51 := ⟨by decide +kernel, rfl⟩
theorem dX7_begin_51 : dc cX7_begin 51 (.iconst 0) 1 52 := ⟨by decide +kernel, rfl⟩
theorem dX7_begin_52 : dc cX7_begin 52 (.istore 6) 2 54 := ⟨by decide +kernel, rfl⟩
theorem dX7_begin_54 : dc cX7_begin 54 (.iload 6) 2 56 := ⟨by decide +kernel, rfl⟩
theorem dX7_begin_56 : dc cX7_begin 56 (.bipush 8) 2 58 := ⟨by decide +kernel, rfl⟩
theorem dX7_begin_58 : dc cX7_begin 58 (.if_icmp .ge 17) 3 61 := ⟨by decide +kernel, rfl⟩
theorem dX7_begin_61 : dc cX7_begin 61 (.aload_n 0) 1 62 := ⟨by decide +kernel, rfl⟩
theorem dX7_begin_62 : dc cX7_begin 62 (.getfield 15) 3 65 := ⟨by decide +kernel, rfl⟩
theorem dX7_begin_65 : dc cX7_begin 65 (.iload 6) 2 67 := ⟨by decide +kernel, rfl⟩
theorem dX7_begin_67 : dc cX7_begin 67 (.iconst 0) 1 68 := ⟨by decide +kernel, rfl⟩
theorem dX7_begin_68 : dc cX7_begin 68 (.iastore) 1 69 := ⟨by decide +kernel, rfl⟩
theorem dX7_begin_69 : dc cX7_begin 69 (.iinc 6 1) 3 72 := ⟨by decide +kernel, rfl⟩
theorem dX7_begin_72 : dc cX7_begin 72 (.goto (-18)) 3 75 := ⟨by decide +kernel, rfl⟩
theorem dX7_begin_75 : dc cX7_begin 75 (.return_) 1 76 := ⟨by decide +kernel, rfl⟩
theorem nm_X7_begin : (yX7_begin).cls ≠ "java/lang/invoke/MethodHandle" ∧ (yX7_begin).cls ≠ "java/lang/invoke/VarHandle" ∧ (parseMethodDescriptor (yX7_begin).desc).map (fun d => d.parameters.length) = some 4 := ⟨by decide +kernel, by decide +kernel, by decide +kernel⟩
set_option maxRecDepth 100000 in
set_option maxHeartbeats 4000000 in
theorem s_X7_begin_30 {ad : Nat → Nat} {cy : Nat → ClassId} {x : KX} (G : KG ad cy x cX7_begin "NoonGuides$Person" 7 (some none) 2) {a0 : Nat} (h0 : kty a0 = 8) {k51 : KM → Option KM} {y : KM} (hk51 : ∀ (M : KM), k51 M = some y → KV ad cy x (none, y) 51 [(0, .ref (ad a0))] [] M) : ∀ (n : Nat) (w6 : Int32) (M : KM), lp_X7_begin_30 n a0 w6 M k51 = some y → KV ad cy x (none, y) 30 [(0, .ref (ad a0)), (6, .int w6)] [] M := by
  intro n
  induction n with
  | zero =>
    intro w6 M hf
    cases hf
  | succ n ih =>
    intro w6 M hf
    rw [lp_X7_begin_30] at hf
    refine v_iload G dX7_begin_30 1 rfl ?_
    refine v_bipush (12 : Int32) G dX7_begin_32 (by decide) ?_
    refine v_icmp_ge 51 G dX7_begin_34 (by decide) (fun h11 => ?_) (fun h11 => ?_)
    · replace hf := (if_pos h11).symm.trans hf
      refine v_sub _ [0] rfl ?_
      exact hk51 M hf
    · replace hf := (if_neg h11).symm.trans hf
      refine v_aload_n G dX7_begin_37 0 rfl ?_
      refine gf_7_0 G h0 t_304 (Or.inl rfl) dX7_begin_38 ?_
      refine v_iload G dX7_begin_41 1 rfl ?_
      refine v_iconst (0 : Int32) G dX7_begin_43 (by decide) ?_
      obtain ⟨g8, hf⟩ := gd_e hf
      refine as_30 G (kf_7_1 h0) g8 dX7_begin_44 ?_
      refine v_nmM (fun M9 eM9 => ?_)
      replace hf := lt_e hf eM9
      obtain ⟨v10, ev10⟩ : ∃ q : Int32, q = w6 + (1 : Int32) := ⟨_, rfl⟩
      replace hf := lt_e hf ev10
      refine v_iinc v10 [(6, .int v10), (0, .ref (ad a0))] G dX7_begin_45 1 rfl (by rw [ev10]; rfl) (by decide) rfl ?_
      refine v_goto 30 G dX7_begin_48 (by decide) ?_
      refine v_sub _ [1, 0] rfl ?_
      exact ih v10 M9 hf
set_option maxRecDepth 100000 in
set_option maxHeartbeats 4000000 in
theorem s_X7_begin_54 {ad : Nat → Nat} {cy : Nat → ClassId} {x : KX} (G : KG ad cy x cX7_begin "NoonGuides$Person" 7 (some none) 2) {a0 : Nat} (h0 : kty a0 = 8) {y : KM} : ∀ (n : Nat) (w6 : Int32) (M : KM), lp_X7_begin_54 n a0 w6 M = some y → KV ad cy x (none, y) 54 [(0, .ref (ad a0)), (6, .int w6)] [] M := by
  intro n
  induction n with
  | zero =>
    intro w6 M hf
    cases hf
  | succ n ih =>
    intro w6 M hf
    rw [lp_X7_begin_54] at hf
    refine v_iload G dX7_begin_54 1 rfl ?_
    refine v_bipush (8 : Int32) G dX7_begin_56 (by decide) ?_
    refine v_icmp_ge 75 G dX7_begin_58 (by decide) (fun h16 => ?_) (fun h16 => ?_)
    · replace hf := (if_pos h16).symm.trans hf
      obtain rfl := Option.some.inj hf
      exact v_vret G dX7_begin_75
    · replace hf := (if_neg h16).symm.trans hf
      refine v_aload_n G dX7_begin_61 0 rfl ?_
      refine gf_7_1 G h0 t_307 (Or.inl rfl) dX7_begin_62 ?_
      refine v_iload G dX7_begin_65 1 rfl ?_
      refine v_iconst (0 : Int32) G dX7_begin_67 (by decide) ?_
      obtain ⟨g13, hf⟩ := gd_e hf
      refine as_28 G (kf_7_2 h0) g13 dX7_begin_68 ?_
      refine v_nmM (fun M14 eM14 => ?_)
      replace hf := lt_e hf eM14
      obtain ⟨v15, ev15⟩ : ∃ q : Int32, q = w6 + (1 : Int32) := ⟨_, rfl⟩
      replace hf := lt_e hf ev15
      refine v_iinc v15 [(6, .int v15), (0, .ref (ad a0))] G dX7_begin_69 1 rfl (by rw [ev15]; rfl) (by decide) rfl ?_
      refine v_goto 54 G dX7_begin_72 (by decide) ?_
      refine v_sub _ [1, 0] rfl ?_
      exact ih v15 M14 hf
set_option maxRecDepth 100000 in
set_option maxHeartbeats 4000000 in
theorem c_X7_begin {l : Launch} {ad : Nat → Nat} {cy : Nat → ClassId} {D : va_G} {z : Nat} (n : Nat) {a0 : Nat} {p1 : Int64} {p3 : Int32} {p4 : Int32} {p5 : Int32} {M : KM} {y : KM} (h0 : kty a0 = 8) (hf : f_X7_begin n a0 p1 p3 p4 p5 M = some y) : KC l ad cy D z yX7_begin cX7_begin 7 none 2 [.ref (ad a0), .long p1, .int p3, .int p4, .int p5] M (none, y) := by
  refine kv_enter (by decide +kernel) (Nat.le_of_ble_eq_true rfl) ?_
  intro x hl hD hz G
  subst hl hD hz
  unfold f_X7_begin at hf
  have G : KG ad cy x cX7_begin "NoonGuides$Person" 7 (some none) 2 := G
  show KV ad cy x (none, y) 0 [(0, .ref (ad a0)), (1, .long p1), (3, .int p3), (4, .int p4), (5, .int p5)] [] M
  refine v_aload_n G dX7_begin_0 0 rfl ?_
  refine v_lload_n G dX7_begin_1 1 rfl ?_
  refine pf_7_2 G h0 t_311 (Or.inl rfl) dX7_begin_2 ?_
  refine v_nmM (fun M1 eM1 => ?_)
  replace hf := lt_e hf eM1
  refine v_aload_n G dX7_begin_5 0 rfl ?_
  refine v_iload_n G dX7_begin_6 2 rfl ?_
  obtain ⟨g2, hf⟩ := gd_e hf
  refine pf_7_3 G h0 g2 t_313 (Or.inl rfl) dX7_begin_7 ?_
  refine v_nmM (fun M3 eM3 => ?_)
  replace hf := lt_e hf eM3
  refine v_aload_n G dX7_begin_10 0 rfl ?_
  refine v_iload G dX7_begin_11 3 rfl ?_
  obtain ⟨g4, hf⟩ := gd_e hf
  refine pf_7_4 G h0 g4 t_317 (Or.inl rfl) dX7_begin_13 ?_
  refine v_nmM (fun M5 eM5 => ?_)
  replace hf := lt_e hf eM5
  refine v_aload_n G dX7_begin_16 0 rfl ?_
  refine v_iconst (0 : Int32) G dX7_begin_17 (by decide) ?_
  refine pf_7_11 G h0 t_335 (Or.inl rfl) dX7_begin_18 ?_
  refine v_nmM (fun M6 eM6 => ?_)
  replace hf := lt_e hf eM6
  refine v_aload_n G dX7_begin_21 0 rfl ?_
  refine v_iload G dX7_begin_22 4 rfl ?_
  obtain ⟨v7, hcv7⟩ : ∃ q, f_X7_stayAt a0 p5 M6 = q := ⟨_, rfl⟩
  replace hf := lt_e hf hcv7.symm
  refine v_callV [.int p5] G (c_X7_stayAt h0 hcv7) h0 (by decide) rfl rfl rfl t_1163 t_673 t_674 t_15 t_675 nm_X7_stayAt (by decide) (by decide) rfl rfl (Nat.le_of_ble_eq_true rfl) dX7_begin_24 (kv_rv ?_)
  refine v_iconst (0 : Int32) G dX7_begin_27 (by decide) ?_
  refine v_istore [(6, .int (0 : Int32)), (0, .ref (ad a0)), (1, .long p1), (3, .int p3), (4, .int p4), (5, .int p5)] G dX7_begin_28 (by decide) rfl ?_
  refine v_sub _ [1, 0] rfl ?_
  refine s_X7_begin_30 G h0 (fun M12 hf => ?_) n (0 : Int32) v7 hf
  · refine v_iconst (0 : Int32) G dX7_begin_51 (by decide) ?_
    refine v_istore [(6, .int (0 : Int32)), (0, .ref (ad a0))] G dX7_begin_52 (by decide) rfl ?_
    refine v_sub _ [1, 0] rfl ?_
    refine s_X7_begin_54 G h0 n (0 : Int32) M12 hf
abbrev cX7_copyFrom : ByteArray := prog_9_method_3_code
def yX7_copyFrom : MethodName := ⟨RX7, "copyFrom", "(LNoonGuides$Person;)V"⟩
theorem dX7_copyFrom_0 : dc cX7_copyFrom 0 (.aload_n 1) 1 1 := ⟨by decide +kernel, rfl⟩
theorem dX7_copyFrom_1 : dc cX7_copyFrom 1 (.getfield 9) 3 4 := ⟨by decide +kernel, rfl⟩
theorem dX7_copyFrom_4 : dc cX7_copyFrom 4 (.iconst 0) 1 5 := ⟨by decide +kernel, rfl⟩
theorem dX7_copyFrom_5 : dc cX7_copyFrom 5 (.aload_n 0) 1 6 := ⟨by decide +kernel, rfl⟩
theorem dX7_copyFrom_6 : dc cX7_copyFrom 6 (.getfield 9) 3 9 := ⟨by decide +kernel, rfl⟩
theorem dX7_copyFrom_9 : dc cX7_copyFrom 9 (.iconst 0) 1 10 := ⟨by decide +kernel, rfl⟩
theorem dX7_copyFrom_10 : dc cX7_copyFrom 10 (.bipush 12) 2 12 := ⟨by decide +kernel, rfl⟩
theorem dX7_copyFrom_12 : dc cX7_copyFrom 12 (.invokestatic 52) 3 15 := ⟨by decide +kernel, rfl⟩
theorem dX7_copyFrom_15 : dc cX7_copyFrom 15 (.aload_n 1) 1 16 := ⟨by decide +kernel, rfl⟩
theorem dX7_copyFrom_16 : dc cX7_copyFrom 16 (.getfield 15) 3 19 := ⟨by decide +kernel, rfl⟩
theorem dX7_copyFrom_19 : dc cX7_copyFrom 19 (.iconst 0) 1 20 := ⟨by decide +kernel, rfl⟩
theorem dX7_copyFrom_20 : dc cX7_copyFrom 20 (.aload_n 0) 1 21 := ⟨by decide +kernel, rfl⟩
theorem dX7_copyFrom_21 : dc cX7_copyFrom 21 (.getfield 15) 3 24 := ⟨by decide +kernel, rfl⟩
theorem dX7_copyFrom_24 : dc cX7_copyFrom 24 (.iconst 0) 1 25 := ⟨by decide +kernel, rfl⟩
theorem dX7_copyFrom_25 : dc cX7_copyFrom 25 (.bipush 8) 2 27 := ⟨by decide +kernel, rfl⟩
theorem dX7_copyFrom_27 : dc cX7_copyFrom 27 (.invokestatic 52) 3 30 := ⟨by decide +kernel, rfl⟩
theorem dX7_copyFrom_30 : dc cX7_copyFrom 30 (.aload_n 0) 1 31 := ⟨by decide +kernel, rfl⟩
theorem dX7_copyFrom_31 : dc cX7_copyFrom 31 (.aload_n 1) 1 32 := ⟨by decide +kernel, rfl⟩
theorem dX7_copyFrom_32 : dc cX7_copyFrom 32 (.getfield 34) 3 35 := ⟨by decide +kernel, rfl⟩
theorem dX7_copyFrom_35 : dc cX7_copyFrom 35 (.putfield 34) 3 38 := ⟨by decide +kernel, rfl⟩
theorem dX7_copyFrom_38 : dc cX7_copyFrom 38 (.aload_n 0) 1 39 := ⟨by decide +kernel, rfl⟩
theorem dX7_copyFrom_39 : dc cX7_copyFrom 39 (.aload_n 1) 1 40 := ⟨by decide +kernel, rfl⟩
theorem dX7_copyFrom_40 : dc cX7_copyFrom 40 (.getfield 38) 3 43 := ⟨by decide +kernel, rfl⟩
theorem dX7_copyFrom_43 : dc cX7_copyFrom 43 (.putfield 38) 3 46 := ⟨by decide +kernel, rfl⟩
theorem dX7_copyFrom_46 : dc cX7_copyFrom 46 (.aload_n 0) 1 47 := ⟨by decide +kernel, rfl⟩
theorem dX7_copyFrom_47 : dc cX7_copyFrom 47 (.aload_n 1) 1 48 := ⟨by decide +kernel, rfl⟩
theorem dX7_copyFrom_48 : dc cX7_copyFrom 48 (.getfield 42) 3 51 := ⟨by decide +kernel, rfl⟩
theorem dX7_copyFrom_51 : dc cX7_copyFrom 51 (.putfield 42) 3 54 := ⟨by decide +kernel, rfl⟩
theorem dX7_copyFrom_54 : dc cX7_copyFrom 54 (.aload_n 0) 1 55 := ⟨by decide +kernel, rfl⟩
theorem dX7_copyFrom_55 : dc cX7_copyFrom 55 (.aload_n 1) 1 56 := ⟨by decide +kernel, rfl⟩
theorem dX7_copyFrom_56 : dc cX7_copyFrom 56 (.getfield 18) 3 59 := ⟨by decide +kernel, rfl⟩
theorem dX7_copyFrom_59 : dc cX7_copyFrom 59 (.putfield 18) 3 62 := ⟨by decide +kernel, rfl⟩
theorem dX7_copyFrom_62 : dc cX7_copyFrom 62 (.aload_n 0) 1 63 := ⟨by decide +kernel, rfl⟩
theorem dX7_copyFrom_63 : dc cX7_copyFrom 63 (.aload_n 1) 1 64 := ⟨by decide +kernel, rfl⟩
theorem dX7_copyFrom_64 : dc cX7_copyFrom 64 (.getfield 22) 3 67 := ⟨by decide +kernel, rfl⟩
theorem dX7_copyFrom_67 : dc cX7_copyFrom 67 (.putfield 22) 3 70 := ⟨by decide +kernel, rfl⟩
theorem dX7_copyFrom_70 : dc cX7_copyFrom 70 (.aload_n 0) 1 71 := ⟨by decide +kernel, rfl⟩
theorem dX7_copyFrom_71 : dc cX7_copyFrom 71 (.aload_n 1) 1 72 := ⟨by decide +kernel, rfl⟩
theorem dX7_copyFrom_72 : dc cX7_copyFrom 72 (.getfield 25) 3 75 := ⟨by decide +kernel, rfl⟩
theorem dX7_copyFrom_75 : dc cX7_copyFrom 75 (.putfield 25) 3 78 := ⟨by decide +kernel, rfl⟩
theorem dX7_copyFrom_78 : dc cX7_copyFrom 78 (.aload_n 0) 1 79 := ⟨by decide +kernel, rfl⟩
theorem dX7_copyFrom_79 : dc cX7_copyFrom 79 (.aload_n 1) 1 80 := ⟨by decide +kernel, rfl⟩
theorem dX7_copyFrom_80 : dc cX7_copyFrom 80 (.getfield 28) 3 83 := ⟨by decide +kernel, rfl⟩
theorem dX7_copyFrom_83 : dc cX7_copyFrom 83 (.putfield 28) 3 86 := ⟨by decide +kernel, rfl⟩
theorem dX7_copyFrom_86 : dc cX7_copyFrom 86 (.aload_n 0) 1 87 := ⟨by decide +kernel, rfl⟩
theorem dX7_copyFrom_87 : dc cX7_copyFrom 87 (.aload_n 1) 1 88 := ⟨by decide +kernel, rfl⟩
theorem dX7_copyFrom_88 : dc cX7_copyFrom 88 (.getfield 31) 3 91 := ⟨by decide +kernel, rfl⟩
theorem dX7_copyFrom_91 : dc cX7_copyFrom 91 (.putfield 31) 3 94 := ⟨by decide +kernel, rfl⟩
theorem dX7_copyFrom_94 : dc cX7_copyFrom 94 (.aload_n 0) 1 95 := ⟨by decide +kernel, rfl⟩
theorem dX7_copyFrom_95 : dc cX7_copyFrom 95 (.aload_n 1) 1 96 := ⟨by decide +kernel, rfl⟩
theorem dX7_copyFrom_96 : dc cX7_copyFrom 96 (.getfield 58) 3 99 := ⟨by decide +kernel, rfl⟩
theorem dX7_copyFrom_99 : dc cX7_copyFrom 99 (.putfield 58) 3 102 := ⟨by decide +kernel, rfl⟩
theorem dX7_copyFrom_102 : dc cX7_copyFrom 102 (.aload_n 0) 1 103 := ⟨by decide +kernel, rfl⟩
theorem dX7_copyFrom_103 : dc cX7_copyFrom 103 (.aload_n 1) 1 104 := ⟨by decide +kernel, rfl⟩
theorem dX7_copyFrom_104 : dc cX7_copyFrom 104 (.getfield 45) 3 107 := ⟨by decide +kernel, rfl⟩
theorem dX7_copyFrom_107 : dc cX7_copyFrom 107 (.putfield 45) 3 110 := ⟨by decide +kernel, rfl⟩
theorem dX7_copyFrom_110 : dc cX7_copyFrom 110 (.return_) 1 111 := ⟨by decide +kernel, rfl⟩
theorem nm_X7_copyFrom : (yX7_copyFrom).cls ≠ "java/lang/invoke/MethodHandle" ∧ (yX7_copyFrom).cls ≠ "java/lang/invoke/VarHandle" ∧ (parseMethodDescriptor (yX7_copyFrom).desc).map (fun d => d.parameters.length) = some 1 := ⟨by decide +kernel, by decide +kernel, by decide +kernel⟩
set_option maxRecDepth 100000 in
set_option maxHeartbeats 4000000 in
theorem c_X7_copyFrom {l : Launch} {ad : Nat → Nat} {cy : Nat → ClassId} {D : va_G} {z : Nat} (n : Nat) {a0 : Nat} {a1 : Nat} {M : KM} {y : KM} (h0 : kty a0 = 8) (h1 : kty a1 = 8) (hf : f_X7_copyFrom n a0 a1 M = some y) : KC l ad cy D z yX7_copyFrom cX7_copyFrom 2 none 1 [.ref (ad a0), .ref (ad a1)] M (none, y) := by
  refine kv_enter (by decide +kernel) (Nat.le_of_ble_eq_true rfl) ?_
  intro x hl hD hz G
  subst hl hD hz
  unfold f_X7_copyFrom at hf
  have G : KG ad cy x cX7_copyFrom "NoonGuides$Person" 2 (some none) 1 := G
  show KV ad cy x (none, y) 0 [(0, .ref (ad a0)), (1, .ref (ad a1))] [] M
  refine v_aload_n G dX7_copyFrom_0 1 rfl ?_
  refine gf_7_0 G h1 t_304 (Or.inl rfl) dX7_copyFrom_1 ?_
  refine v_iconst (0 : Int32) G dX7_copyFrom_4 (by decide) ?_
  refine v_aload_n G dX7_copyFrom_5 0 rfl ?_
  refine gf_7_0 G h0 t_304 (Or.inl rfl) dX7_copyFrom_6 ?_
  refine v_iconst (0 : Int32) G dX7_copyFrom_9 (by decide) ?_
  refine v_bipush (12 : Int32) G dX7_copyFrom_10 (by decide) ?_
  obtain ⟨g1, hf⟩ := gd_e hf
  refine v_copyI G (by decide) (kf_7_1 h1) (kf_7_1 h0) (by decide) (by decide) rfl (fun _ => rfl) t_928 t_832 t_831 t_18 g1 (Nat.le_of_ble_eq_true rfl) dX7_copyFrom_12 ?_
  refine v_nmM (fun M2 eM2 => ?_)
  replace hf := lt_e hf eM2
  refine v_aload_n G dX7_copyFrom_15 1 rfl ?_
  refine gf_7_1 G h1 t_307 (Or.inl rfl) dX7_copyFrom_16 ?_
  refine v_iconst (0 : Int32) G dX7_copyFrom_19 (by decide) ?_
  refine v_aload_n G dX7_copyFrom_20 0 rfl ?_
  refine gf_7_1 G h0 t_307 (Or.inl rfl) dX7_copyFrom_21 ?_
  refine v_iconst (0 : Int32) G dX7_copyFrom_24 (by decide) ?_
  refine v_bipush (8 : Int32) G dX7_copyFrom_25 (by decide) ?_
  obtain ⟨g3, hf⟩ := gd_e hf
  refine v_copyI G (by decide) (kf_7_2 h1) (kf_7_2 h0) (by decide) (by decide) rfl (fun _ => rfl) t_928 t_832 t_831 t_18 g3 (Nat.le_of_ble_eq_true rfl) dX7_copyFrom_27 ?_
  refine v_nmM (fun M4 eM4 => ?_)
  replace hf := lt_e hf eM4
  refine v_aload_n G dX7_copyFrom_30 0 rfl ?_
  refine v_aload_n G dX7_copyFrom_31 1 rfl ?_
  refine gf_7_2 G h1 t_311 (Or.inl rfl) dX7_copyFrom_32 ?_
  refine pf_7_2 G h0 t_311 (Or.inl rfl) dX7_copyFrom_35 ?_
  refine v_nmM (fun M5 eM5 => ?_)
  replace hf := lt_e hf eM5
  refine v_aload_n G dX7_copyFrom_38 0 rfl ?_
  refine v_aload_n G dX7_copyFrom_39 1 rfl ?_
  refine gf_7_3 G h1 t_313 (Or.inl rfl) dX7_copyFrom_40 ?_
  obtain ⟨g6, hf⟩ := gd_e hf
  refine pf_7_3 G h0 g6 t_313 (Or.inl rfl) dX7_copyFrom_43 ?_
  refine v_nmM (fun M7 eM7 => ?_)
  replace hf := lt_e hf eM7
  refine v_aload_n G dX7_copyFrom_46 0 rfl ?_
  refine v_aload_n G dX7_copyFrom_47 1 rfl ?_
  refine gf_7_4 G h1 t_317 (Or.inl rfl) dX7_copyFrom_48 ?_
  obtain ⟨g8, hf⟩ := gd_e hf
  refine pf_7_4 G h0 g8 t_317 (Or.inl rfl) dX7_copyFrom_51 ?_
  refine v_nmM (fun M9 eM9 => ?_)
  replace hf := lt_e hf eM9
  refine v_aload_n G dX7_copyFrom_54 0 rfl ?_
  refine v_aload_n G dX7_copyFrom_55 1 rfl ?_
  refine gf_7_5 G h1 t_320 (Or.inl rfl) dX7_copyFrom_56 ?_
  refine pf_7_5 G h0 t_320 (Or.inl rfl) dX7_copyFrom_59 ?_
  refine v_nmM (fun M10 eM10 => ?_)
  replace hf := lt_e hf eM10
  refine v_aload_n G dX7_copyFrom_62 0 rfl ?_
  refine v_aload_n G dX7_copyFrom_63 1 rfl ?_
  refine gf_7_6 G h1 t_324 (Or.inl rfl) dX7_copyFrom_64 ?_
  refine pf_7_6 G h0 t_324 (Or.inl rfl) dX7_copyFrom_67 ?_
  refine v_nmM (fun M11 eM11 => ?_)
  replace hf := lt_e hf eM11
  refine v_aload_n G dX7_copyFrom_70 0 rfl ?_
  refine v_aload_n G dX7_copyFrom_71 1 rfl ?_
  refine gf_7_7 G h1 t_326 (Or.inl rfl) dX7_copyFrom_72 ?_
  refine pf_7_7 G h0 t_326 (Or.inl rfl) dX7_copyFrom_75 ?_
  refine v_nmM (fun M12 eM12 => ?_)
  replace hf := lt_e hf eM12
  refine v_aload_n G dX7_copyFrom_78 0 rfl ?_
  refine v_aload_n G dX7_copyFrom_79 1 rfl ?_
  refine gf_7_8 G h1 t_327 (Or.inl rfl) dX7_copyFrom_80 ?_
  refine pf_7_8 G h0 t_327 (Or.inl rfl) dX7_copyFrom_83 ?_
  refine v_nmM (fun M13 eM13 => ?_)
  replace hf := lt_e hf eM13
  refine v_aload_n G dX7_copyFrom_86 0 rfl ?_
  refine v_aload_n G dX7_copyFrom_87 1 rfl ?_
  refine gf_7_9 G h1 t_330 (Or.inl rfl) dX7_copyFrom_88 ?_
  refine pf_7_9 G h0 t_330 (Or.inl rfl) dX7_copyFrom_91 ?_
  refine v_nmM (fun M14 eM14 => ?_)
  replace hf := lt_e hf eM14
  refine v_aload_n G dX7_copyFrom_94 0 rfl ?_
  refine v_aload_n G dX7_copyFrom_95 1 rfl ?_
  refine gf_7_10 G h1 t_333 (Or.inl rfl) dX7_copyFrom_96 ?_
  refine pf_7_10 G h0 t_333 (Or.inl rfl) dX7_copyFrom_99 ?_
  refine v_nmM (fun M15 eM15 => ?_)
  replace hf := lt_e hf eM15
  refine v_aload_n G dX7_copyFrom_102 0 rfl ?_
  refine v_aload_n G dX7_copyFrom_103 1 rfl ?_
  refine gf_7_11 G h1 t_335 (Or.inl rfl) dX7_copyFrom_104 ?_
  refine pf_7_11 G h0 t_335 (Or.inl rfl) dX7_copyFrom_107 ?_
  refine v_nmM (fun M16 eM16 => ?_)
  replace hf := lt_e hf eM16
  obtain rfl := Option.some.inj hf
  exact v_vret G dX7_copyFrom_110
abbrev cX7_isAtPlace : ByteArray := prog_9_method_4_code
def yX7_isAtPlace : MethodName := ⟨RX7, "isAtPlace", "()Z"⟩
theorem dX7_isAtPlace_0 : dc cX7_isAtPlace 0 (.aload_n 0) 1 1 := ⟨by decide +kernel, rfl⟩
theorem dX7_isAtPlace_1 : dc cX7_isAtPlace 1 (.getfield 18) 3 4 := ⟨by decide +kernel, rfl⟩
theorem dX7_isAtPlace_4 : dc cX7_isAtPlace 4 (.iconst (-1)) 1 5 := ⟨by decide +kernel, rfl⟩
theorem dX7_isAtPlace_5 : dc cX7_isAtPlace 5 (.if_icmp .eq 7) 3 8 := ⟨by decide +kernel, rfl⟩
theorem dX7_isAtPlace_8 : dc cX7_isAtPlace 8 (.iconst 1) 1 9 := ⟨by decide +kernel, rfl⟩
theorem dX7_isAtPlace_9 : dc cX7_isAtPlace 9 (.goto 4) 3 12 := ⟨by decide +kernel, rfl⟩
theorem dX7_isAtPlace_12 : dc cX7_isAtPlace 12 (.iconst 0) 1 13 := ⟨by decide +kernel, rfl⟩
theorem dX7_isAtPlace_13 : dc cX7_isAtPlace 13 (.ireturn) 1 14 := ⟨by decide +kernel, rfl⟩
theorem nm_X7_isAtPlace : (yX7_isAtPlace).cls ≠ "java/lang/invoke/MethodHandle" ∧ (yX7_isAtPlace).cls ≠ "java/lang/invoke/VarHandle" ∧ (parseMethodDescriptor (yX7_isAtPlace).desc).map (fun d => d.parameters.length) = some 0 := ⟨by decide +kernel, by decide +kernel, by decide +kernel⟩
set_option maxRecDepth 100000 in
theorem z_X7_isAtPlace {a0 : Nat} {M : KM} {y : Int32} (hf : f_X7_isAtPlace a0 M = y) : (y = 0 ∨ y = 1) := by
  unfold f_X7_isAtPlace at hf
  by_cases h1 : (M.1 a0 5) = (-1 : Int32)
  · replace hf := (if_pos h1).symm.trans hf
    obtain rfl := hf
    exact (Or.inl rfl)
  · replace hf := (if_neg h1).symm.trans hf
    obtain rfl := hf
    exact (Or.inr rfl)
set_option maxRecDepth 100000 in
set_option maxHeartbeats 4000000 in
theorem c_X7_isAtPlace {l : Launch} {ad : Nat → Nat} {cy : Nat → ClassId} {D : va_G} {z : Nat} {a0 : Nat} {M : KM} {y : Int32} (h0 : kty a0 = 8) (hf : f_X7_isAtPlace a0 M = y) : KC l ad cy D z yX7_isAtPlace cX7_isAtPlace 1 (some .boolean) 1 [.ref (ad a0)] M (some (.int y), M) := by
  refine kv_enter (by decide +kernel) (Nat.le_of_ble_eq_true rfl) ?_
  intro x hl hD hz G
  subst hl hD hz
  unfold f_X7_isAtPlace at hf
  have G : KG ad cy x cX7_isAtPlace "NoonGuides$Person" 1 (some (some .boolean)) 1 := G
  show KV ad cy x (some (.int y), M) 0 [(0, .ref (ad a0))] [] M
  refine v_aload_n G dX7_isAtPlace_0 0 rfl ?_
  refine gf_7_5 G h0 t_320 (Or.inl rfl) dX7_isAtPlace_1 ?_
  refine v_iconst (-1 : Int32) G dX7_isAtPlace_4 (by decide) ?_
  refine v_icmp_eq 12 G dX7_isAtPlace_5 (by decide) (fun h1 => ?_) (fun h1 => ?_)
  · replace hf := (if_pos h1).symm.trans hf
    refine v_iconst (0 : Int32) G dX7_isAtPlace_12 (by decide) ?_
    obtain rfl := hf
    exact v_zret G (Or.inl rfl) dX7_isAtPlace_13
  · replace hf := (if_neg h1).symm.trans hf
    refine v_iconst (1 : Int32) G dX7_isAtPlace_8 (by decide) ?_
    refine v_goto 13 G dX7_isAtPlace_9 (by decide) ?_
    obtain rfl := hf
    exact v_zret G (Or.inr rfl) dX7_isAtPlace_13
abbrev cX7_isWalker : ByteArray := prog_9_method_5_code
def yX7_isWalker : MethodName := ⟨RX7, "isWalker", "()Z"⟩
theorem dX7_isWalker_0 : dc cX7_isWalker 0 (.aload_n 0) 1 1 := ⟨by decide +kernel, rfl⟩
theorem dX7_isWalker_1 : dc cX7_isWalker 1 (.getfield 18) 3 4 := ⟨by decide +kernel, rfl⟩
theorem dX7_isWalker_4 : dc cX7_isWalker 4 (.iconst (-1)) 1 5 := ⟨by decide +kernel, rfl⟩
theorem dX7_isWalker_5 : dc cX7_isWalker 5 (.if_icmp .ne 15) 3 8 := ⟨by decide +kernel, rfl⟩
theorem dX7_isWalker_8 : dc cX7_isWalker 8 (.aload_n 0) 1 9 := ⟨by decide +kernel, rfl⟩
theorem dX7_isWalker_9 : dc cX7_isWalker 9 (.getfield 31) 3 12 := ⟨by decide +kernel, rfl⟩
theorem dX7_isWalker_12 : dc cX7_isWalker 12 (.iconst (-1)) 1 13 := ⟨by decide +kernel, rfl⟩
theorem dX7_isWalker_13 : dc cX7_isWalker 13 (.if_icmp .ne 7) 3 16 := ⟨by decide +kernel, rfl⟩
theorem dX7_isWalker_16 : dc cX7_isWalker 16 (.iconst 1) 1 17 := ⟨by decide +kernel, rfl⟩
theorem dX7_isWalker_17 : dc cX7_isWalker 17 (.goto 4) 3 20 := ⟨by decide +kernel, rfl⟩
theorem dX7_isWalker_20 : dc cX7_isWalker 20 (.iconst 0) 1 21 := ⟨by decide +kernel, rfl⟩
theorem dX7_isWalker_21 : dc cX7_isWalker 21 (.ireturn) 1 22 := ⟨by decide +kernel, rfl⟩
theorem nm_X7_isWalker : (yX7_isWalker).cls ≠ "java/lang/invoke/MethodHandle" ∧ (yX7_isWalker).cls ≠ "java/lang/invoke/VarHandle" ∧ (parseMethodDescriptor (yX7_isWalker).desc).map (fun d => d.parameters.length) = some 0 := ⟨by decide +kernel, by decide +kernel, by decide +kernel⟩
set_option maxRecDepth 100000 in
theorem z_X7_isWalker {a0 : Nat} {M : KM} {y : Int32} (hf : f_X7_isWalker a0 M = y) : (y = 0 ∨ y = 1) := by
  unfold f_X7_isWalker at hf
  by_cases h2 : (M.1 a0 5) = (-1 : Int32)
  · replace hf := (if_pos h2).symm.trans hf
    by_cases h1 : (M.1 a0 9) = (-1 : Int32)
    · replace hf := (if_pos h1).symm.trans hf
      obtain rfl := hf
      exact (Or.inr rfl)
    · replace hf := (if_neg h1).symm.trans hf
      obtain rfl := hf
      exact (Or.inl rfl)
  · replace hf := (if_neg h2).symm.trans hf
    obtain rfl := hf
    exact (Or.inl rfl)
set_option maxRecDepth 100000 in
set_option maxHeartbeats 4000000 in
theorem c_X7_isWalker {l : Launch} {ad : Nat → Nat} {cy : Nat → ClassId} {D : va_G} {z : Nat} {a0 : Nat} {M : KM} {y : Int32} (h0 : kty a0 = 8) (hf : f_X7_isWalker a0 M = y) : KC l ad cy D z yX7_isWalker cX7_isWalker 1 (some .boolean) 1 [.ref (ad a0)] M (some (.int y), M) := by
  refine kv_enter (by decide +kernel) (Nat.le_of_ble_eq_true rfl) ?_
  intro x hl hD hz G
  subst hl hD hz
  unfold f_X7_isWalker at hf
  have G : KG ad cy x cX7_isWalker "NoonGuides$Person" 1 (some (some .boolean)) 1 := G
  show KV ad cy x (some (.int y), M) 0 [(0, .ref (ad a0))] [] M
  refine v_aload_n G dX7_isWalker_0 0 rfl ?_
  refine gf_7_5 G h0 t_320 (Or.inl rfl) dX7_isWalker_1 ?_
  refine v_iconst (-1 : Int32) G dX7_isWalker_4 (by decide) ?_
  refine v_icmp_ne 20 G dX7_isWalker_5 (by decide) (fun h2 => ?_) (fun h2 => ?_)
  · replace hf := (if_neg h2).symm.trans hf
    refine v_iconst (0 : Int32) G dX7_isWalker_20 (by decide) ?_
    obtain rfl := hf
    exact v_zret G (Or.inl rfl) dX7_isWalker_21
  · replace hf := (if_pos h2).symm.trans hf
    refine v_aload_n G dX7_isWalker_8 0 rfl ?_
    refine gf_7_9 G h0 t_330 (Or.inl rfl) dX7_isWalker_9 ?_
    refine v_iconst (-1 : Int32) G dX7_isWalker_12 (by decide) ?_
    refine v_icmp_ne 20 G dX7_isWalker_13 (by decide) (fun h1 => ?_) (fun h1 => ?_)
    · replace hf := (if_neg h1).symm.trans hf
      refine v_iconst (0 : Int32) G dX7_isWalker_20 (by decide) ?_
      obtain rfl := hf
      exact v_zret G (Or.inl rfl) dX7_isWalker_21
    · replace hf := (if_pos h1).symm.trans hf
      refine v_iconst (1 : Int32) G dX7_isWalker_16 (by decide) ?_
      refine v_goto 21 G dX7_isWalker_17 (by decide) ?_
      obtain rfl := hf
      exact v_zret G (Or.inr rfl) dX7_isWalker_21
abbrev cX7_leaveBy : ByteArray := prog_9_method_7_code
def yX7_leaveBy : MethodName := ⟨RX7, "leaveBy", "(IIII)V"⟩
theorem dX7_leaveBy_0 : dc cX7_leaveBy 0 (.aload_n 0) 1 1 := ⟨by decide +kernel, rfl⟩
theorem dX7_leaveBy_1 : dc cX7_leaveBy 1 (.aload_n 0) 1 2 := ⟨by decide +kernel, rfl⟩
theorem dX7_leaveBy_2 : dc cX7_leaveBy 2 (.getfield 18) 3 5 := ⟨by decide +kernel, rfl⟩
theorem dX7_leaveBy_5 : dc cX7_leaveBy 5 (.putfield 25) 3 8 := ⟨by decide +kernel, rfl⟩
theorem dX7_leaveBy_8 : dc cX7_leaveBy 8 (.aload_n 0) 1 9 := ⟨by decide +kernel, rfl⟩
theorem dX7_leaveBy_9 : dc cX7_leaveBy 9 (.iconst (-1)) 1 10 := ⟨by decide +kernel, rfl⟩
theorem dX7_leaveBy_10 : dc cX7_leaveBy 10 (.putfield 18) 3 13 := ⟨by decide +kernel, rfl⟩
theorem dX7_leaveBy_13 : dc cX7_leaveBy 13 (.aload_n 0) 1 14 := ⟨by decide +kernel, rfl⟩
theorem dX7_leaveBy_14 : dc cX7_leaveBy 14 (.iload_n 1) 1 15 := ⟨by decide +kernel, rfl⟩
theorem dX7_leaveBy_15 : dc cX7_leaveBy 15 (.putfield 22) 3 18 := ⟨by decide +kernel, rfl⟩
theorem dX7_leaveBy_18 : dc cX7_leaveBy 18 (.aload_n 0) 1 19 := ⟨by decide +kernel, rfl⟩
theorem dX7_leaveBy_19 : dc cX7_leaveBy 19 (.iload_n 2) 1 20 := ⟨by decide +kernel, rfl⟩
theorem dX7_leaveBy_20 : dc cX7_leaveBy 20 (.putfield 28) 3 23 := ⟨by decide +kernel, rfl⟩
theorem dX7_leaveBy_23 : dc cX7_leaveBy 23 (.aload_n 0) 1 24 := ⟨by decide +kernel, rfl⟩
theorem dX7_leaveBy_24 : dc cX7_leaveBy 24 (.iload_n 3) 1 25 := ⟨by decide +kernel, rfl⟩
theorem dX7_leaveBy_25 : dc cX7_leaveBy 25 (.putfield 31) 3 28 := ⟨by decide +kernel, rfl⟩
theorem dX7_leaveBy_28 : dc cX7_leaveBy 28 (.aload_n 0) 1 29 := ⟨by decide +kernel, rfl⟩
theorem dX7_leaveBy_29 : dc cX7_leaveBy 29 (.iload 4) 2 31 := ⟨by decide +kernel, rfl⟩
theorem dX7_leaveBy_31 : dc cX7_leaveBy 31 (.putfield 58) 3 34 := ⟨by decide +kernel, rfl⟩
theorem dX7_leaveBy_34 : dc cX7_leaveBy 34 (.return_) 1 35 := ⟨by decide +kernel, rfl⟩
theorem nm_X7_leaveBy : (yX7_leaveBy).cls ≠ "java/lang/invoke/MethodHandle" ∧ (yX7_leaveBy).cls ≠ "java/lang/invoke/VarHandle" ∧ (parseMethodDescriptor (yX7_leaveBy).desc).map (fun d => d.parameters.length) = some 4 := ⟨by decide +kernel, by decide +kernel, by decide +kernel⟩
set_option maxRecDepth 100000 in
set_option maxHeartbeats 4000000 in
theorem c_X7_leaveBy {l : Launch} {ad : Nat → Nat} {cy : Nat → ClassId} {D : va_G} {z : Nat} {a0 : Nat} {p1 : Int32} {p2 : Int32} {p3 : Int32} {p4 : Int32} {M : KM} {y : KM} (h0 : kty a0 = 8) (hf : f_X7_leaveBy a0 p1 p2 p3 p4 M = y) : KC l ad cy D z yX7_leaveBy cX7_leaveBy 5 none 1 [.ref (ad a0), .int p1, .int p2, .int p3, .int p4] M (none, y) := by
  refine kv_enter (by decide +kernel) (Nat.le_of_ble_eq_true rfl) ?_
  intro x hl hD hz G
  subst hl hD hz
  unfold f_X7_leaveBy at hf
  have G : KG ad cy x cX7_leaveBy "NoonGuides$Person" 5 (some none) 1 := G
  show KV ad cy x (none, y) 0 [(0, .ref (ad a0)), (1, .int p1), (2, .int p2), (3, .int p3), (4, .int p4)] [] M
  refine v_aload_n G dX7_leaveBy_0 0 rfl ?_
  refine v_aload_n G dX7_leaveBy_1 0 rfl ?_
  refine gf_7_5 G h0 t_320 (Or.inl rfl) dX7_leaveBy_2 ?_
  refine pf_7_7 G h0 t_326 (Or.inl rfl) dX7_leaveBy_5 ?_
  refine v_nmM (fun M1 eM1 => ?_)
  replace hf := lt_e hf eM1
  refine v_aload_n G dX7_leaveBy_8 0 rfl ?_
  refine v_iconst (-1 : Int32) G dX7_leaveBy_9 (by decide) ?_
  refine pf_7_5 G h0 t_320 (Or.inl rfl) dX7_leaveBy_10 ?_
  refine v_nmM (fun M2 eM2 => ?_)
  replace hf := lt_e hf eM2
  refine v_aload_n G dX7_leaveBy_13 0 rfl ?_
  refine v_iload_n G dX7_leaveBy_14 1 rfl ?_
  refine pf_7_6 G h0 t_324 (Or.inl rfl) dX7_leaveBy_15 ?_
  refine v_nmM (fun M3 eM3 => ?_)
  replace hf := lt_e hf eM3
  refine v_aload_n G dX7_leaveBy_18 0 rfl ?_
  refine v_iload_n G dX7_leaveBy_19 2 rfl ?_
  refine pf_7_8 G h0 t_327 (Or.inl rfl) dX7_leaveBy_20 ?_
  refine v_nmM (fun M4 eM4 => ?_)
  replace hf := lt_e hf eM4
  refine v_aload_n G dX7_leaveBy_23 0 rfl ?_
  refine v_iload_n G dX7_leaveBy_24 3 rfl ?_
  refine pf_7_9 G h0 t_330 (Or.inl rfl) dX7_leaveBy_25 ?_
  refine v_nmM (fun M5 eM5 => ?_)
  replace hf := lt_e hf eM5
  refine v_aload_n G dX7_leaveBy_28 0 rfl ?_
  refine v_iload G dX7_leaveBy_29 4 rfl ?_
  refine pf_7_10 G h0 t_333 (Or.inl rfl) dX7_leaveBy_31 ?_
  refine v_nmM (fun M6 eM6 => ?_)
  replace hf := lt_e hf eM6
  obtain rfl := hf
  exact v_vret G dX7_leaveBy_34
abbrev cX8_clear : ByteArray := prog_10_method_2_code
def yX8_clear : MethodName := ⟨RX8, "clear", "()V"⟩
theorem dX8_clear_0 : dc cX8_clear 0 (.aload_n 0) 1 1 := ⟨by decide +kernel, rfl⟩
theorem dX8_clear_1 : dc cX8_clear 1 (.iconst 0) 1 2 := ⟨by decide +kernel, rfl⟩
theorem dX8_clear_2 : dc cX8_clear 2 (.putfield 27) 3 5 := ⟨by decide +kernel, rfl⟩
theorem dX8_clear_5 : dc cX8_clear 5 (.aload_n 0) 1 6 := ⟨by decide +kernel, rfl⟩
theorem dX8_clear_6 : dc cX8_clear 6 (.iconst 0) 1 7 := ⟨by decide +kernel, rfl⟩
theorem dX8_clear_7 : dc cX8_clear 7 (.putfield 31) 3 10 := ⟨by decide +kernel, rfl⟩
theorem dX8_clear_10 : dc cX8_clear 10 (.aload_n 0) 1 11 := ⟨by decide +kernel, rfl⟩
theorem dX8_clear_11 : dc cX8_clear 11 (.iconst 0) 1 12 := ⟨by decide +kernel, rfl⟩
theorem dX8_clear_12 : dc cX8_clear 12 (.putfield 34) 3 15 := ⟨by decide +kernel, rfl⟩
theorem dX8_clear_15 : dc cX8_clear 15 (.return_) 1 16 := ⟨by decide +kernel, rfl⟩
theorem nm_X8_clear : (yX8_clear).cls ≠ "java/lang/invoke/MethodHandle" ∧ (yX8_clear).cls ≠ "java/lang/invoke/VarHandle" ∧ (parseMethodDescriptor (yX8_clear).desc).map (fun d => d.parameters.length) = some 0 := ⟨by decide +kernel, by decide +kernel, by decide +kernel⟩
set_option maxRecDepth 100000 in
set_option maxHeartbeats 4000000 in
theorem c_X8_clear {l : Launch} {ad : Nat → Nat} {cy : Nat → ClassId} {D : va_G} {z : Nat} {a0 : Nat} {M : KM} {y : KM} (h0 : kty a0 = 9) (hf : f_X8_clear a0 M = y) : KC l ad cy D z yX8_clear cX8_clear 1 none 1 [.ref (ad a0)] M (none, y) := by
  refine kv_enter (by decide +kernel) (Nat.le_of_ble_eq_true rfl) ?_
  intro x hl hD hz G
  subst hl hD hz
  unfold f_X8_clear at hf
  have G : KG ad cy x cX8_clear "NoonGuides$Plan" 1 (some none) 1 := G
  show KV ad cy x (none, y) 0 [(0, .ref (ad a0))] [] M
  refine v_aload_n G dX8_clear_0 0 rfl ?_
  refine v_iconst (0 : Int32) G dX8_clear_1 (by decide) ?_
  refine pf_8_5 G h0 t_274 (Or.inl rfl) dX8_clear_2 ?_
  refine v_nmM (fun M1 eM1 => ?_)
  replace hf := lt_e hf eM1
  refine v_aload_n G dX8_clear_5 0 rfl ?_
  refine v_iconst (0 : Int32) G dX8_clear_6 (by decide) ?_
  refine pf_8_6 G h0 t_276 (Or.inl rfl) dX8_clear_7 ?_
  refine v_nmM (fun M2 eM2 => ?_)
  replace hf := lt_e hf eM2
  refine v_aload_n G dX8_clear_10 0 rfl ?_
  refine v_iconst (0 : Int32) G dX8_clear_11 (by decide) ?_
  refine pf_8_7 G h0 (Or.inl rfl) t_279 (Or.inl rfl) dX8_clear_12 ?_
  refine v_nmM (fun M3 eM3 => ?_)
  replace hf := lt_e hf eM3
  obtain rfl := hf
  exact v_vret G dX8_clear_15
abbrev cX8_copyFrom : ByteArray := prog_10_method_3_code
def yX8_copyFrom : MethodName := ⟨RX8, "copyFrom", "(LNoonGuides$Plan;)V"⟩
theorem dX8_copyFrom_0 : dc cX8_copyFrom 0 (.aload_n 1) 1 1 := ⟨by decide +kernel, rfl⟩
theorem dX8_copyFrom_1 : dc cX8_copyFrom 1 (.getfield 11) 3 4 := ⟨by decide +kernel, rfl⟩
theorem dX8_copyFrom_4 : dc cX8_copyFrom 4 (.iconst 0) 1 5 := ⟨by decide +kernel, rfl⟩
theorem dX8_copyFrom_5 : dc cX8_copyFrom 5 (.aload_n 0) 1 6 := ⟨by decide +kernel, rfl⟩
theorem dX8_copyFrom_6 : dc cX8_copyFrom 6 (.getfield 11) 3 9 := ⟨by decide +kernel, rfl⟩
theorem dX8_copyFrom_9 : dc cX8_copyFrom 9 (.iconst 0) 1 10 := ⟨by decide +kernel, rfl⟩
theorem dX8_copyFrom_10 : dc cX8_copyFrom 10 (.bipush 60) 2 12 := ⟨by decide +kernel, rfl⟩
theorem dX8_copyFrom_12 : dc cX8_copyFrom 12 (.invokestatic 38) 3 15 := ⟨by decide +kernel, rfl⟩
theorem dX8_copyFrom_15 : dc cX8_copyFrom 15 (.aload_n 1) 1 16 := ⟨by decide +kernel, rfl⟩
theorem dX8_copyFrom_16 : dc cX8_copyFrom 16 (.getfield 15) 3 19 := ⟨by decide +kernel, rfl⟩
theorem dX8_copyFrom_19 : dc cX8_copyFrom 19 (.iconst 0) 1 20 := ⟨by decide +kernel, rfl⟩
theorem dX8_copyFrom_20 : dc cX8_copyFrom 20 (.aload_n 0) 1 21 := ⟨by decide +kernel, rfl⟩
theorem dX8_copyFrom_21 : dc cX8_copyFrom 21 (.getfield 15) 3 24 := ⟨by decide +kernel, rfl⟩
theorem dX8_copyFrom_24 : dc cX8_copyFrom 24 (.iconst 0) 1 25 := ⟨by decide +kernel, rfl⟩
theorem dX8_copyFrom_25 : dc cX8_copyFrom 25 (.bipush 60) 2 27 := ⟨by decide +kernel, rfl⟩
theorem dX8_copyFrom_27 : dc cX8_copyFrom 27 (.invokestatic 38) 3 30 := ⟨by decide +kernel, rfl⟩
theorem dX8_copyFrom_30 : dc cX8_copyFrom 30 (.aload_n 1) 1 31 := ⟨by decide +kernel, rfl⟩
theorem dX8_copyFrom_31 : dc cX8_copyFrom 31 (.getfield 18) 3 34 := ⟨by decide +kernel, rfl⟩
theorem dX8_copyFrom_34 : dc cX8_copyFrom 34 (.iconst 0) 1 35 := ⟨by decide +kernel, rfl⟩
theorem dX8_copyFrom_35 : dc cX8_copyFrom 35 (.aload_n 0) 1 36 := ⟨by decide +kernel, rfl⟩
theorem dX8_copyFrom_36 : dc cX8_copyFrom 36 (.getfield 18) 3 39 := ⟨by decide +kernel, rfl⟩
theorem dX8_copyFrom_39 : dc cX8_copyFrom 39 (.iconst 0) 1 40 := ⟨by decide +kernel, rfl⟩
theorem dX8_copyFrom_40 : dc cX8_copyFrom 40 (.bipush 60) 2 42 := ⟨by decide +kernel, rfl⟩
theorem dX8_copyFrom_42 : dc cX8_copyFrom 42 (.invokestatic 38) 3 45 := ⟨by decide +kernel, rfl⟩
theorem dX8_copyFrom_45 : dc cX8_copyFrom 45 (.aload_n 1) 1 46 := ⟨by decide +kernel, rfl⟩
theorem dX8_copyFrom_46 : dc cX8_copyFrom 46 (.getfield 21) 3 49 := ⟨by decide +kernel, rfl⟩
theorem dX8_copyFrom_49 : dc cX8_copyFrom 49 (.iconst 0) 1 50 := ⟨by decide +kernel, rfl⟩
theorem dX8_copyFrom_50 : dc cX8_copyFrom 50 (.aload_n 0) 1 51 := ⟨by decide +kernel, rfl⟩
theorem dX8_copyFrom_51 : dc cX8_copyFrom 51 (.getfield 21) 3 54 := ⟨by decide +kernel, rfl⟩
theorem dX8_copyFrom_54 : dc cX8_copyFrom 54 (.iconst 0) 1 55 := ⟨by decide +kernel, rfl⟩
theorem dX8_copyFrom_55 : dc cX8_copyFrom 55 (.bipush 60) 2 57 := ⟨by decide +kernel, rfl⟩
theorem dX8_copyFrom_57 : dc cX8_copyFrom 57 (.invokestatic 38) 3 60 := ⟨by decide +kernel, rfl⟩
theorem dX8_copyFrom_60 : dc cX8_copyFrom 60 (.aload_n 1) 1 61 := ⟨by decide +kernel, rfl⟩
theorem dX8_copyFrom_61 : dc cX8_copyFrom 61 (.getfield 24) 3 64 := ⟨by decide +kernel, rfl⟩
theorem dX8_copyFrom_64 : dc cX8_copyFrom 64 (.iconst 0) 1 65 := ⟨by decide +kernel, rfl⟩
theorem dX8_copyFrom_65 : dc cX8_copyFrom 65 (.aload_n 0) 1 66 := ⟨by decide +kernel, rfl⟩
theorem dX8_copyFrom_66 : dc cX8_copyFrom 66 (.getfield 24) 3 69 := ⟨by decide +kernel, rfl⟩
theorem dX8_copyFrom_69 : dc cX8_copyFrom 69 (.iconst 0) 1 70 := ⟨by decide +kernel, rfl⟩
theorem dX8_copyFrom_70 : dc cX8_copyFrom 70 (.bipush 60) 2 72 := ⟨by decide +kernel, rfl⟩
theorem dX8_copyFrom_72 : dc cX8_copyFrom 72 (.invokestatic 38) 3 75 := ⟨by decide +kernel, rfl⟩
theorem dX8_copyFrom_75 : dc cX8_copyFrom 75 (.aload_n 0) 1 76 := ⟨by decide +kernel, rfl⟩
theorem dX8_copyFrom_76 : dc cX8_copyFrom 76 (.aload_n 1) 1 77 := ⟨by decide +kernel, rfl⟩
theorem dX8_copyFrom_77 : dc cX8_copyFrom 77 (.getfield 27) 3 80 := ⟨by decide +kernel, rfl⟩
theorem dX8_copyFrom_80 : dc cX8_copyFrom 80 (.putfield 27) 3 83 := ⟨by decide +kernel, rfl⟩
theorem dX8_copyFrom_83 : dc cX8_copyFrom 83 (.aload_n 0) 1 84 := ⟨by decide +kernel, rfl⟩
theorem dX8_copyFrom_84 : dc cX8_copyFrom 84 (.aload_n 1) 1 85 := ⟨by decide +kernel, rfl⟩
theorem dX8_copyFrom_85 : dc cX8_copyFrom 85 (.getfield 31) 3 88 := ⟨by decide +kernel, rfl⟩
theorem dX8_copyFrom_88 : dc cX8_copyFrom 88 (.putfield 31) 3 91 := ⟨by decide +kernel, rfl⟩
theorem dX8_copyFrom_91 : dc cX8_copyFrom 91 (.aload_n 0) 1 92 := ⟨by decide +kernel, rfl⟩
theorem dX8_copyFrom_92 : dc cX8_copyFrom 92 (.aload_n 1) 1 93 := ⟨by decide +kernel, rfl⟩
theorem dX8_copyFrom_93 : dc cX8_copyFrom 93 (.getfield 34) 3 96 := ⟨by decide +kernel, rfl⟩
theorem dX8_copyFrom_96 : dc cX8_copyFrom 96 (.putfield 34) 3 99 := ⟨by decide +kernel, rfl⟩
theorem dX8_copyFrom_99 : dc cX8_copyFrom 99 (.return_) 1 100 := ⟨by decide +kernel, rfl⟩
theorem nm_X8_copyFrom : (yX8_copyFrom).cls ≠ "java/lang/invoke/MethodHandle" ∧ (yX8_copyFrom).cls ≠ "java/lang/invoke/VarHandle" ∧ (parseMethodDescriptor (yX8_copyFrom).desc).map (fun d => d.parameters.length) = some 1 := ⟨by decide +kernel, by decide +kernel, by decide +kernel⟩
set_option maxRecDepth 100000 in
set_option maxHeartbeats 4000000 in
theorem c_X8_copyFrom {l : Launch} {ad : Nat → Nat} {cy : Nat → ClassId} {D : va_G} {z : Nat} (n : Nat) {a0 : Nat} {a1 : Nat} {M : KM} {y : KM} (h0 : kty a0 = 9) (h1 : kty a1 = 9) (hf : f_X8_copyFrom n a0 a1 M = some y) : KC l ad cy D z yX8_copyFrom cX8_copyFrom 2 none 1 [.ref (ad a0), .ref (ad a1)] M (none, y) := by
  refine kv_enter (by decide +kernel) (Nat.le_of_ble_eq_true rfl) ?_
  intro x hl hD hz G
  subst hl hD hz
  unfold f_X8_copyFrom at hf
  have G : KG ad cy x cX8_copyFrom "NoonGuides$Plan" 2 (some none) 1 := G
  show KV ad cy x (none, y) 0 [(0, .ref (ad a0)), (1, .ref (ad a1))] [] M
  refine v_aload_n G dX8_copyFrom_0 1 rfl ?_
  refine gf_8_0 G h1 t_269 (Or.inl rfl) dX8_copyFrom_1 ?_
  refine v_iconst (0 : Int32) G dX8_copyFrom_4 (by decide) ?_
  refine v_aload_n G dX8_copyFrom_5 0 rfl ?_
  refine gf_8_0 G h0 t_269 (Or.inl rfl) dX8_copyFrom_6 ?_
  refine v_iconst (0 : Int32) G dX8_copyFrom_9 (by decide) ?_
  refine v_bipush (60 : Int32) G dX8_copyFrom_10 (by decide) ?_
  obtain ⟨g1, hf⟩ := gd_e hf
  refine v_copyI G (by decide) (kf_8_1 h1) (kf_8_1 h0) (by decide) (by decide) rfl (fun _ => rfl) t_922 t_832 t_831 t_18 g1 (Nat.le_of_ble_eq_true rfl) dX8_copyFrom_12 ?_
  refine v_nmM (fun M2 eM2 => ?_)
  replace hf := lt_e hf eM2
  refine v_aload_n G dX8_copyFrom_15 1 rfl ?_
  refine gf_8_1 G h1 t_270 (Or.inl rfl) dX8_copyFrom_16 ?_
  refine v_iconst (0 : Int32) G dX8_copyFrom_19 (by decide) ?_
  refine v_aload_n G dX8_copyFrom_20 0 rfl ?_
  refine gf_8_1 G h0 t_270 (Or.inl rfl) dX8_copyFrom_21 ?_
  refine v_iconst (0 : Int32) G dX8_copyFrom_24 (by decide) ?_
  refine v_bipush (60 : Int32) G dX8_copyFrom_25 (by decide) ?_
  obtain ⟨g3, hf⟩ := gd_e hf
  refine v_copyI G (by decide) (kf_8_2 h1) (kf_8_2 h0) (by decide) (by decide) rfl (fun _ => rfl) t_922 t_832 t_831 t_18 g3 (Nat.le_of_ble_eq_true rfl) dX8_copyFrom_27 ?_
  refine v_nmM (fun M4 eM4 => ?_)
  replace hf := lt_e hf eM4
  refine v_aload_n G dX8_copyFrom_30 1 rfl ?_
  refine gf_8_2 G h1 t_271 (Or.inl rfl) dX8_copyFrom_31 ?_
  refine v_iconst (0 : Int32) G dX8_copyFrom_34 (by decide) ?_
  refine v_aload_n G dX8_copyFrom_35 0 rfl ?_
  refine gf_8_2 G h0 t_271 (Or.inl rfl) dX8_copyFrom_36 ?_
  refine v_iconst (0 : Int32) G dX8_copyFrom_39 (by decide) ?_
  refine v_bipush (60 : Int32) G dX8_copyFrom_40 (by decide) ?_
  obtain ⟨g5, hf⟩ := gd_e hf
  refine v_copyI G (by decide) (kf_8_3 h1) (kf_8_3 h0) (by decide) (by decide) rfl (fun _ => rfl) t_922 t_832 t_831 t_18 g5 (Nat.le_of_ble_eq_true rfl) dX8_copyFrom_42 ?_
  refine v_nmM (fun M6 eM6 => ?_)
  replace hf := lt_e hf eM6
  refine v_aload_n G dX8_copyFrom_45 1 rfl ?_
  refine gf_8_3 G h1 t_272 (Or.inl rfl) dX8_copyFrom_46 ?_
  refine v_iconst (0 : Int32) G dX8_copyFrom_49 (by decide) ?_
  refine v_aload_n G dX8_copyFrom_50 0 rfl ?_
  refine gf_8_3 G h0 t_272 (Or.inl rfl) dX8_copyFrom_51 ?_
  refine v_iconst (0 : Int32) G dX8_copyFrom_54 (by decide) ?_
  refine v_bipush (60 : Int32) G dX8_copyFrom_55 (by decide) ?_
  obtain ⟨g7, hf⟩ := gd_e hf
  refine v_copyI G (by decide) (kf_8_4 h1) (kf_8_4 h0) (by decide) (by decide) rfl (fun _ => rfl) t_922 t_832 t_831 t_18 g7 (Nat.le_of_ble_eq_true rfl) dX8_copyFrom_57 ?_
  refine v_nmM (fun M8 eM8 => ?_)
  replace hf := lt_e hf eM8
  refine v_aload_n G dX8_copyFrom_60 1 rfl ?_
  refine gf_8_4 G h1 t_273 (Or.inl rfl) dX8_copyFrom_61 ?_
  refine v_iconst (0 : Int32) G dX8_copyFrom_64 (by decide) ?_
  refine v_aload_n G dX8_copyFrom_65 0 rfl ?_
  refine gf_8_4 G h0 t_273 (Or.inl rfl) dX8_copyFrom_66 ?_
  refine v_iconst (0 : Int32) G dX8_copyFrom_69 (by decide) ?_
  refine v_bipush (60 : Int32) G dX8_copyFrom_70 (by decide) ?_
  obtain ⟨g9, hf⟩ := gd_e hf
  refine v_copyI G (by decide) (kf_8_5 h1) (kf_8_5 h0) (by decide) (by decide) rfl (fun _ => rfl) t_922 t_832 t_831 t_18 g9 (Nat.le_of_ble_eq_true rfl) dX8_copyFrom_72 ?_
  refine v_nmM (fun M10 eM10 => ?_)
  replace hf := lt_e hf eM10
  refine v_aload_n G dX8_copyFrom_75 0 rfl ?_
  refine v_aload_n G dX8_copyFrom_76 1 rfl ?_
  refine gf_8_5 G h1 t_274 (Or.inl rfl) dX8_copyFrom_77 ?_
  refine pf_8_5 G h0 t_274 (Or.inl rfl) dX8_copyFrom_80 ?_
  refine v_nmM (fun M11 eM11 => ?_)
  replace hf := lt_e hf eM11
  refine v_aload_n G dX8_copyFrom_83 0 rfl ?_
  refine v_aload_n G dX8_copyFrom_84 1 rfl ?_
  refine gf_8_6 G h1 t_276 (Or.inl rfl) dX8_copyFrom_85 ?_
  refine pf_8_6 G h0 t_276 (Or.inl rfl) dX8_copyFrom_88 ?_
  refine v_nmM (fun M12 eM12 => ?_)
  replace hf := lt_e hf eM12
  refine v_aload_n G dX8_copyFrom_91 0 rfl ?_
  refine v_aload_n G dX8_copyFrom_92 1 rfl ?_
  refine gf_8_7 G h1 t_279 (Or.inl rfl) dX8_copyFrom_93 ?_
  obtain ⟨g13, hf⟩ := gd_e hf
  refine pf_8_7 G h0 g13 t_279 (Or.inl rfl) dX8_copyFrom_96 ?_
  refine v_nmM (fun M14 eM14 => ?_)
  replace hf := lt_e hf eM14
  obtain rfl := Option.some.inj hf
  exact v_vret G dX8_copyFrom_99
abbrev cX8_add : ByteArray := prog_10_method_4_code
def yX8_add : MethodName := ⟨RX8, "add", "(IIII)Z"⟩
theorem dX8_add_0 : dc cX8_add 0 (.aload_n 0) 1 1 := ⟨by decide +kernel, rfl⟩
theorem dX8_add_1 : dc cX8_add 1 (.getfield 27) 3 4 := ⟨by decide +kernel, rfl⟩
theorem dX8_add_4 : dc cX8_add 4 (.bipush 60) 2 6 := ⟨by decide +kernel, rfl⟩
theorem dX8_add_6 : dc cX8_add 6 (.if_icmp .lt 5) 3 9 := ⟨by decide +kernel, rfl⟩
theorem dX8_add_9 : dc cX8_add 9 (.iconst 0) 1 10 := ⟨by decide +kernel, rfl⟩
theorem dX8_add_10 : dc cX8_add 10 (.ireturn) 1 11 := ⟨by decide +kernel, rfl⟩
theorem dX8_add_11 : dc cX8_add 11 (.aload_n 0) 1 12 := ⟨by decide +kernel, rfl⟩
theorem dX8_add_12 : dc cX8_add 12 (.getfield 11) 3 15 := ⟨by decide +kernel, rfl⟩
theorem dX8_add_15 : dc cX8_add 15 (.aload_n 0) 1 16 := ⟨by decide +kernel, rfl⟩
theorem dX8_add_16 : dc cX8_add 16 (.getfield 27) 3 19 := ⟨by decide +kernel, rfl⟩
theorem dX8_add_19 : dc cX8_add 19 (.iload_n 1) 1 20 := ⟨by decide +kernel, rfl⟩
theorem dX8_add_20 : dc cX8_add 20 (.iastore) 1 21 := ⟨by decide +kernel, rfl⟩
theorem dX8_add_21 : dc cX8_add 21 (.aload_n 0) 1 22 := ⟨by decide +kernel, rfl⟩
theorem dX8_add_22 : dc cX8_add 22 (.getfield 15) 3 25 := ⟨by decide +kernel, rfl⟩
theorem dX8_add_25 : dc cX8_add 25 (.aload_n 0) 1 26 := ⟨by decide +kernel, rfl⟩
theorem dX8_add_26 : dc cX8_add 26 (.getfield 27) 3 29 := ⟨by decide +kernel, rfl⟩
theorem dX8_add_29 : dc cX8_add 29 (.iload_n 2) 1 30 := ⟨by decide +kernel, rfl⟩
theorem dX8_add_30 : dc cX8_add 30 (.iastore) 1 31 := ⟨by decide +kernel, rfl⟩
theorem dX8_add_31 : dc cX8_add 31 (.aload_n 0) 1 32 := ⟨by decide +kernel, rfl⟩
theorem dX8_add_32 : dc cX8_add 32 (.getfield 18) 3 35 := ⟨by decide +kernel, rfl⟩
theorem dX8_add_35 : dc cX8_add 35 (.aload_n 0) 1 36 := ⟨by decide +kernel, rfl⟩
theorem dX8_add_36 : dc cX8_add 36 (.getfield 27) 3 39 := ⟨by decide +kernel, rfl⟩
theorem dX8_add_39 : dc cX8_add 39 (.iload_n 3) 1 40 := ⟨by decide +kernel, rfl⟩
theorem dX8_add_40 : dc cX8_add 40 (.iastore) 1 41 := ⟨by decide +kernel, rfl⟩
theorem dX8_add_41 : dc cX8_add 41 (.aload_n 0) 1 42 := ⟨by decide +kernel, rfl⟩
theorem dX8_add_42 : dc cX8_add 42 (.getfield 21) 3 45 := ⟨by decide +kernel, rfl⟩
theorem dX8_add_45 : dc cX8_add 45 (.aload_n 0) 1 46 := ⟨by decide +kernel, rfl⟩
theorem dX8_add_46 : dc cX8_add 46 (.getfield 27) 3 49 := ⟨by decide +kernel, rfl⟩
theorem dX8_add_49 : dc cX8_add 49 (.iload 4) 2 51 := ⟨by decide +kernel, rfl⟩
theorem dX8_add_51 : dc cX8_add 51 (.iastore) 1 52 := ⟨by decide +kernel, rfl⟩
theorem dX8_add_52 : dc cX8_add 52 (.aload_n 0) 1 53 := ⟨by decide +kernel, rfl⟩
theorem dX8_add_53 : dc cX8_add 53 (.getfield 24) 3 56 := ⟨by decide +kernel, rfl⟩
theorem dX8_add_56 : dc cX8_add 56 (.aload_n 0) 1 57 := ⟨by decide +kernel, rfl⟩
theorem dX8_add_57 : dc cX8_add 57 (.getfield 27) 3 60 := ⟨by decide +kernel, rfl⟩
theorem dX8_add_60 : dc cX8_add 60 (.aload_n 0) 1 61 := ⟨by decide +kernel, rfl⟩
theorem dX8_add_61 : dc cX8_add 61 (.getfield 27) 3 64 := ⟨by decide +kernel, rfl⟩
theorem dX8_add_64 : dc cX8_add 64 (.iastore) 1 65 := ⟨by decide +kernel, rfl⟩
theorem dX8_add_65 : dc cX8_add 65 (.aload_n 0) 1 66 := ⟨by decide +kernel, rfl⟩
theorem dX8_add_66 : dc cX8_add 66 (.dup) 1 67 := ⟨by decide +kernel, rfl⟩
theorem dX8_add_67 : dc cX8_add 67 (.getfield 27) 3 70 := ⟨by decide +kernel, rfl⟩
theorem dX8_add_70 : dc cX8_add 70 (.iconst 1) 1 71 := ⟨by decide +kernel, rfl⟩
theorem dX8_add_71 : dc cX8_add 71 (.iadd) 1 72 := ⟨by decide +kernel, rfl⟩
theorem dX8_add_72 : dc cX8_add 72 (.putfield 27) 3 75 := ⟨by decide +kernel, rfl⟩
theorem dX8_add_75 : dc cX8_add 75 (.iload_n 1) 1 76 := ⟨by decide +kernel, rfl⟩
theorem dX8_add_76 : dc cX8_add 76 (.bipush 10) 2 78 := ⟨by decide +kernel, rfl⟩
theorem dX8_add_78 : dc cX8_add 78 (.if_icmp .eq 13) 3 81 := ⟨by decide +kernel, rfl⟩
theorem dX8_add_81 : dc cX8_add 81 (.aload_n 0) 1 82 := ⟨by decide +kernel, rfl⟩
theorem dX8_add_82 : dc cX8_add 82 (.dup) 1 83 := ⟨by decide +kernel, rfl⟩
theorem dX8_add_83 : dc cX8_add 83 (.getfield 31) 3 86 := ⟨by decide +kernel, rfl⟩
theorem dX8_add_86 : dc cX8_add 86 (.iconst 1) 1 87 := ⟨by decide +kernel, rfl⟩
theorem dX8_add_87 : dc cX8_add 87 (.iadd) 1 88 := ⟨by decide +kernel, rfl⟩
theorem dX8_add_88 : dc cX8_add 88 (.putfield 31) 3 91 := ⟨by decide +kernel, rfl⟩
theorem dX8_add_91 : dc cX8_add 91 (.iconst 1) 1 92 := ⟨by decide +kernel, rfl⟩
theorem dX8_add_92 : dc cX8_add 92 (.ireturn) 1 93 := ⟨by decide +kernel, rfl⟩
theorem nm_X8_add : (yX8_add).cls ≠ "java/lang/invoke/MethodHandle" ∧ (yX8_add).cls ≠ "java/lang/invoke/VarHandle" ∧ (parseMethodDescriptor (yX8_add).desc).map (fun d => d.parameters.length) = some 4 := ⟨by decide +kernel, by decide +kernel, by decide +kernel⟩
set_option maxRecDepth 100000 in
theorem z_X8_add (n : Nat) {a0 : Nat} {p1 : Int32} {p2 : Int32} {p3 : Int32} {p4 : Int32} {M : KM} {y : (Int32 × KM)} (hf : f_X8_add n a0 p1 p2 p3 p4 M = some y) : (y.1 = 0 ∨ y.1 = 1) := by
  unfold f_X8_add at hf
  by_cases h14 : (M.1 a0 5) < (60 : Int32)
  · replace hf := (if_pos h14).symm.trans hf
    obtain ⟨g1, hf⟩ := gd_e hf
    obtain ⟨M2, eM2⟩ : ∃ q : KM, q = (uI M (a0 + 1) ((M.1 a0 5)).toNatClampNeg p1) := ⟨_, rfl⟩
    replace hf := lt_e hf eM2
    obtain ⟨g3, hf⟩ := gd_e hf
    obtain ⟨M4, eM4⟩ : ∃ q : KM, q = (uI M2 (a0 + 2) ((M2.1 a0 5)).toNatClampNeg p2) := ⟨_, rfl⟩
    replace hf := lt_e hf eM4
    obtain ⟨g5, hf⟩ := gd_e hf
    obtain ⟨M6, eM6⟩ : ∃ q : KM, q = (uI M4 (a0 + 3) ((M4.1 a0 5)).toNatClampNeg p3) := ⟨_, rfl⟩
    replace hf := lt_e hf eM6
    obtain ⟨g7, hf⟩ := gd_e hf
    obtain ⟨M8, eM8⟩ : ∃ q : KM, q = (uI M6 (a0 + 4) ((M6.1 a0 5)).toNatClampNeg p4) := ⟨_, rfl⟩
    replace hf := lt_e hf eM8
    obtain ⟨g9, hf⟩ := gd_e hf
    obtain ⟨M10, eM10⟩ : ∃ q : KM, q = (uI M8 (a0 + 5) ((M8.1 a0 5)).toNatClampNeg (M8.1 a0 5)) := ⟨_, rfl⟩
    replace hf := lt_e hf eM10
    obtain ⟨M11, eM11⟩ : ∃ q : KM, q = (uI M10 a0 5 ((M10.1 a0 5) + (1 : Int32))) := ⟨_, rfl⟩
    replace hf := lt_e hf eM11
    by_cases h13 : p1 = (10 : Int32)
    · replace hf := (if_pos h13).symm.trans hf
      obtain rfl := Option.some.inj hf
      exact (Or.inr rfl)
    · replace hf := (if_neg h13).symm.trans hf
      obtain ⟨M12, eM12⟩ : ∃ q : KM, q = (uI M11 a0 6 ((M11.1 a0 6) + (1 : Int32))) := ⟨_, rfl⟩
      replace hf := lt_e hf eM12
      obtain rfl := Option.some.inj hf
      exact (Or.inr rfl)
  · replace hf := (if_neg h14).symm.trans hf
    obtain rfl := Option.some.inj hf
    exact (Or.inl rfl)
set_option maxRecDepth 100000 in
set_option maxHeartbeats 4000000 in
theorem c_X8_add {l : Launch} {ad : Nat → Nat} {cy : Nat → ClassId} {D : va_G} {z : Nat} (n : Nat) {a0 : Nat} {p1 : Int32} {p2 : Int32} {p3 : Int32} {p4 : Int32} {M : KM} {y : (Int32 × KM)} (h0 : kty a0 = 9) (hf : f_X8_add n a0 p1 p2 p3 p4 M = some y) : KC l ad cy D z yX8_add cX8_add 5 (some .boolean) 1 [.ref (ad a0), .int p1, .int p2, .int p3, .int p4] M (some (.int y.1), y.2) := by
  refine kv_enter (by decide +kernel) (Nat.le_of_ble_eq_true rfl) ?_
  intro x hl hD hz G
  subst hl hD hz
  unfold f_X8_add at hf
  have G : KG ad cy x cX8_add "NoonGuides$Plan" 5 (some (some .boolean)) 1 := G
  show KV ad cy x (some (.int y.1), y.2) 0 [(0, .ref (ad a0)), (1, .int p1), (2, .int p2), (3, .int p3), (4, .int p4)] [] M
  refine v_aload_n G dX8_add_0 0 rfl ?_
  refine gf_8_5 G h0 t_274 (Or.inl rfl) dX8_add_1 ?_
  refine v_bipush (60 : Int32) G dX8_add_4 (by decide) ?_
  refine v_icmp_lt 11 G dX8_add_6 (by decide) (fun h14 => ?_) (fun h14 => ?_)
  · replace hf := (if_pos h14).symm.trans hf
    refine v_aload_n G dX8_add_11 0 rfl ?_
    refine gf_8_0 G h0 t_269 (Or.inl rfl) dX8_add_12 ?_
    refine v_aload_n G dX8_add_15 0 rfl ?_
    refine gf_8_5 G h0 t_274 (Or.inl rfl) dX8_add_16 ?_
    refine v_iload_n G dX8_add_19 1 rfl ?_
    obtain ⟨g1, hf⟩ := gd_e hf
    refine as_27 G (kf_8_1 h0) g1 dX8_add_20 ?_
    refine v_nmM (fun M2 eM2 => ?_)
    replace hf := lt_e hf eM2
    refine v_aload_n G dX8_add_21 0 rfl ?_
    refine gf_8_1 G h0 t_270 (Or.inl rfl) dX8_add_22 ?_
    refine v_aload_n G dX8_add_25 0 rfl ?_
    refine gf_8_5 G h0 t_274 (Or.inl rfl) dX8_add_26 ?_
    refine v_iload_n G dX8_add_29 2 rfl ?_
    obtain ⟨g3, hf⟩ := gd_e hf
    refine as_27 G (kf_8_2 h0) g3 dX8_add_30 ?_
    refine v_nmM (fun M4 eM4 => ?_)
    replace hf := lt_e hf eM4
    refine v_aload_n G dX8_add_31 0 rfl ?_
    refine gf_8_2 G h0 t_271 (Or.inl rfl) dX8_add_32 ?_
    refine v_aload_n G dX8_add_35 0 rfl ?_
    refine gf_8_5 G h0 t_274 (Or.inl rfl) dX8_add_36 ?_
    refine v_iload_n G dX8_add_39 3 rfl ?_
    obtain ⟨g5, hf⟩ := gd_e hf
    refine as_27 G (kf_8_3 h0) g5 dX8_add_40 ?_
    refine v_nmM (fun M6 eM6 => ?_)
    replace hf := lt_e hf eM6
    refine v_aload_n G dX8_add_41 0 rfl ?_
    refine gf_8_3 G h0 t_272 (Or.inl rfl) dX8_add_42 ?_
    refine v_aload_n G dX8_add_45 0 rfl ?_
    refine gf_8_5 G h0 t_274 (Or.inl rfl) dX8_add_46 ?_
    refine v_iload G dX8_add_49 4 rfl ?_
    obtain ⟨g7, hf⟩ := gd_e hf
    refine as_27 G (kf_8_4 h0) g7 dX8_add_51 ?_
    refine v_nmM (fun M8 eM8 => ?_)
    replace hf := lt_e hf eM8
    refine v_aload_n G dX8_add_52 0 rfl ?_
    refine gf_8_4 G h0 t_273 (Or.inl rfl) dX8_add_53 ?_
    refine v_aload_n G dX8_add_56 0 rfl ?_
    refine gf_8_5 G h0 t_274 (Or.inl rfl) dX8_add_57 ?_
    refine v_aload_n G dX8_add_60 0 rfl ?_
    refine gf_8_5 G h0 t_274 (Or.inl rfl) dX8_add_61 ?_
    obtain ⟨g9, hf⟩ := gd_e hf
    refine as_27 G (kf_8_5 h0) g9 dX8_add_64 ?_
    refine v_nmM (fun M10 eM10 => ?_)
    replace hf := lt_e hf eM10
    refine v_aload_n G dX8_add_65 0 rfl ?_
    refine v_dup G dX8_add_66 rfl ?_
    refine gf_8_5 G h0 t_274 (Or.inl rfl) dX8_add_67 ?_
    refine v_iconst (1 : Int32) G dX8_add_70 (by decide) ?_
    refine v_iadd G dX8_add_71 ?_
    refine pf_8_5 G h0 t_274 (Or.inl rfl) dX8_add_72 ?_
    refine v_nmM (fun M11 eM11 => ?_)
    replace hf := lt_e hf eM11
    refine v_iload_n G dX8_add_75 1 rfl ?_
    refine v_bipush (10 : Int32) G dX8_add_76 (by decide) ?_
    refine v_icmp_eq 91 G dX8_add_78 (by decide) (fun h13 => ?_) (fun h13 => ?_)
    · replace hf := (if_pos h13).symm.trans hf
      refine v_iconst (1 : Int32) G dX8_add_91 (by decide) ?_
      obtain rfl := Option.some.inj hf
      exact v_zret G (Or.inr rfl) dX8_add_92
    · replace hf := (if_neg h13).symm.trans hf
      refine v_aload_n G dX8_add_81 0 rfl ?_
      refine v_dup G dX8_add_82 rfl ?_
      refine gf_8_6 G h0 t_276 (Or.inl rfl) dX8_add_83 ?_
      refine v_iconst (1 : Int32) G dX8_add_86 (by decide) ?_
      refine v_iadd G dX8_add_87 ?_
      refine pf_8_6 G h0 t_276 (Or.inl rfl) dX8_add_88 ?_
      refine v_nmM (fun M12 eM12 => ?_)
      replace hf := lt_e hf eM12
      refine v_iconst (1 : Int32) G dX8_add_91 (by decide) ?_
      obtain rfl := Option.some.inj hf
      exact v_zret G (Or.inr rfl) dX8_add_92
  · replace hf := (if_neg h14).symm.trans hf
    refine v_iconst (0 : Int32) G dX8_add_9 (by decide) ?_
    obtain rfl := Option.some.inj hf
    exact v_zret G (Or.inl rfl) dX8_add_10
abbrev cX8_close : ByteArray := prog_10_method_5_code
def yX8_close : MethodName := ⟨RX8, "close", "(I)V"⟩
theorem dX8_close_0 : dc cX8_close 0 (.aload_n 0) 1 1 := ⟨by decide +kernel, rfl⟩
theorem dX8_close_1 : dc cX8_close 1 (.getfield 27) 3 4 := ⟨by decide +kernel, rfl⟩
theorem dX8_close_4 : dc cX8_close 4 (.iconst 1) 1 5 := ⟨by decide +kernel, rfl⟩
theorem dX8_close_5 : dc cX8_close 5 (.isub) 1 6 := ⟨by decide +kernel, rfl⟩
theorem dX8_close_6 : dc cX8_close 6 (.istore_n 2) 1 7 := ⟨by decide +kernel, rfl⟩
theorem dX8_close_7 : dc cX8_close 7 (.iload_n 1) 1 8 := ⟨by decide +kernel, rfl⟩
theorem dX8_close_8 : dc cX8_close 8 (.ifCond .lt 28) 3 11 := ⟨by decide +kernel, rfl⟩
theorem dX8_close_11 : dc cX8_close 11 (.iload_n 1) 1 12 := ⟨by decide +kernel, rfl⟩
theorem dX8_close_12 : dc cX8_close 12 (.iload_n 2) 1 13 := ⟨by decide +kernel, rfl⟩
theorem dX8_close_13 : dc cX8_close 13 (.if_icmp .ge 23) 3 16 := ⟨by decide +kernel, rfl⟩
theorem dX8_close_16 : dc cX8_close 16 (.iload_n 2) 1 17 := ⟨by decide +kernel, rfl⟩
theorem dX8_close_17 : dc cX8_close 17 (.bipush 60) 2 19 := ⟨by decide +kernel, rfl⟩
theorem dX8_close_19 : dc cX8_close 19 (.if_icmp .ge 17) 3 22 := ⟨by decide +kernel, rfl⟩
theorem dX8_close_22 : dc cX8_close 22 (.aload_n 0) 1 23 := ⟨by decide +kernel, rfl⟩
theorem dX8_close_23 : dc cX8_close 23 (.getfield 24) 3 26 := ⟨by decide +kernel, rfl⟩
theorem dX8_close_26 : dc cX8_close 26 (.iload_n 1) 1 27 := ⟨by decide +kernel, rfl⟩
theorem dX8_close_27 : dc cX8_close 27 (.iload_n 2) 1 28 := ⟨by decide +kernel, rfl⟩
theorem dX8_close_28 : dc cX8_close 28 (.iastore) 1 29 := ⟨by decide +kernel, rfl⟩
theorem dX8_close_29 : dc cX8_close 29 (.aload_n 0) 1 30 := ⟨by decide +kernel, rfl⟩
theorem dX8_close_30 : dc cX8_close 30 (.getfield 24) 3 33 := ⟨by decide +kernel, rfl⟩
theorem dX8_close_33 : dc cX8_close 33 (.iload_n 2) 1 34 := ⟨by decide +kernel, rfl⟩
theorem dX8_close_34 : dc cX8_close 34 (.iload_n 1) 1 35 := ⟨by decide +kernel, rfl⟩
theorem dX8_close_35 : dc cX8_close 35 (.iastore) 1 36 := ⟨by decide +kernel, rfl⟩
theorem dX8_close_36 : dc cX8_close 36 (.return_) 1 37 := ⟨by decide +kernel, rfl⟩
theorem nm_X8_close : (yX8_close).cls ≠ "java/lang/invoke/MethodHandle" ∧ (yX8_close).cls ≠ "java/lang/invoke/VarHandle" ∧ (parseMethodDescriptor (yX8_close).desc).map (fun d => d.parameters.length) = some 1 := ⟨by decide +kernel, by decide +kernel, by decide +kernel⟩
set_option maxRecDepth 100000 in
set_option maxHeartbeats 4000000 in
theorem c_X8_close {l : Launch} {ad : Nat → Nat} {cy : Nat → ClassId} {D : va_G} {z : Nat} (n : Nat) {a0 : Nat} {p1 : Int32} {M : KM} {y : KM} (h0 : kty a0 = 9) (hf : f_X8_close n a0 p1 M = some y) : KC l ad cy D z yX8_close cX8_close 3 none 1 [.ref (ad a0), .int p1] M (none, y) := by
  refine kv_enter (by decide +kernel) (Nat.le_of_ble_eq_true rfl) ?_
  intro x hl hD hz G
  subst hl hD hz
  unfold f_X8_close at hf
  have G : KG ad cy x cX8_close "NoonGuides$Plan" 3 (some none) 1 := G
  show KV ad cy x (none, y) 0 [(0, .ref (ad a0)), (1, .int p1)] [] M
  refine v_aload_n G dX8_close_0 0 rfl ?_
  refine gf_8_5 G h0 t_274 (Or.inl rfl) dX8_close_1 ?_
  refine v_iconst (1 : Int32) G dX8_close_4 (by decide) ?_
  refine v_isub G dX8_close_5 ?_
  refine v_nmi (fun v1 ev1 => ?_)
  replace hf := lt_e hf ev1
  refine v_istore_n [(2, .int v1), (0, .ref (ad a0)), (1, .int p1)] G dX8_close_6 (by decide) rfl ?_
  refine v_iload_n G dX8_close_7 2 rfl ?_
  refine v_if_lt 36 G dX8_close_8 (by decide) (fun h8 => ?_) (fun h8 => ?_)
  · replace hf := (if_pos h8).symm.trans hf
    obtain rfl := Option.some.inj hf
    exact v_vret G dX8_close_36
  · replace hf := (if_neg h8).symm.trans hf
    refine v_iload_n G dX8_close_11 2 rfl ?_
    refine v_iload_n G dX8_close_12 0 rfl ?_
    refine v_icmp_ge 36 G dX8_close_13 (by decide) (fun h7 => ?_) (fun h7 => ?_)
    · replace hf := (if_pos h7).symm.trans hf
      obtain rfl := Option.some.inj hf
      exact v_vret G dX8_close_36
    · replace hf := (if_neg h7).symm.trans hf
      refine v_iload_n G dX8_close_16 0 rfl ?_
      refine v_bipush (60 : Int32) G dX8_close_17 (by decide) ?_
      refine v_icmp_ge 36 G dX8_close_19 (by decide) (fun h6 => ?_) (fun h6 => ?_)
      · replace hf := (if_pos h6).symm.trans hf
        obtain rfl := Option.some.inj hf
        exact v_vret G dX8_close_36
      · replace hf := (if_neg h6).symm.trans hf
        refine v_aload_n G dX8_close_22 1 rfl ?_
        refine gf_8_4 G h0 t_273 (Or.inl rfl) dX8_close_23 ?_
        refine v_iload_n G dX8_close_26 2 rfl ?_
        refine v_iload_n G dX8_close_27 0 rfl ?_
        obtain ⟨g2, hf⟩ := gd_e hf
        refine as_27 G (kf_8_5 h0) g2 dX8_close_28 ?_
        refine v_nmM (fun M3 eM3 => ?_)
        replace hf := lt_e hf eM3
        refine v_aload_n G dX8_close_29 1 rfl ?_
        refine gf_8_4 G h0 t_273 (Or.inl rfl) dX8_close_30 ?_
        refine v_iload_n G dX8_close_33 0 rfl ?_
        refine v_iload_n G dX8_close_34 2 rfl ?_
        obtain ⟨g4, hf⟩ := gd_e hf
        refine as_27 G (kf_8_5 h0) g4 dX8_close_35 ?_
        refine v_nmM (fun M5 eM5 => ?_)
        replace hf := lt_e hf eM5
        obtain rfl := Option.some.inj hf
        exact v_vret G dX8_close_36
