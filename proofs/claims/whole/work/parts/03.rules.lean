section KRules
theorem v_iadd {ad : Nat → Nat} {cy : Nat → ClassId} {x : KX} {o : KO} {cc : ByteArray} {own : String} {nL d pc : Nat} {ret : Option FieldType} {L : List (Nat × Value)} {rest : List Value} {M : KM} {a b : Int32} (G : KG ad cy x cc own nL ret d) (hd : decode cc pc = .ok (.iadd, 1))  (k : KV ad cy x o (pc + 1) L (.int (a + b) :: rest) M) : KV ad cy x o (pc) L (.int b :: .int a :: rest) M := by
  obtain ⟨p, l, e, R, s, m, args, below, meth, c, D, z, n⟩ := x
  obtain ⟨hx, hb, hml, hn, hown, hr, hlk, hts, hK, hA, hf, hlo, hz⟩ := G
  intro H locs ls hR hS hl
  exact lv_iadd hx hb hd  (k H locs ls hR hS hl)
theorem v_isub {ad : Nat → Nat} {cy : Nat → ClassId} {x : KX} {o : KO} {cc : ByteArray} {own : String} {nL d pc : Nat} {ret : Option FieldType} {L : List (Nat × Value)} {rest : List Value} {M : KM} {a b : Int32} (G : KG ad cy x cc own nL ret d) (hd : decode cc pc = .ok (.isub, 1))  (k : KV ad cy x o (pc + 1) L (.int (a - b) :: rest) M) : KV ad cy x o (pc) L (.int b :: .int a :: rest) M := by
  obtain ⟨p, l, e, R, s, m, args, below, meth, c, D, z, n⟩ := x
  obtain ⟨hx, hb, hml, hn, hown, hr, hlk, hts, hK, hA, hf, hlo, hz⟩ := G
  intro H locs ls hR hS hl
  exact lv_isub hx hb hd  (k H locs ls hR hS hl)
theorem v_imul {ad : Nat → Nat} {cy : Nat → ClassId} {x : KX} {o : KO} {cc : ByteArray} {own : String} {nL d pc : Nat} {ret : Option FieldType} {L : List (Nat × Value)} {rest : List Value} {M : KM} {a b : Int32} (G : KG ad cy x cc own nL ret d) (hd : decode cc pc = .ok (.imul, 1))  (k : KV ad cy x o (pc + 1) L (.int (a * b) :: rest) M) : KV ad cy x o (pc) L (.int b :: .int a :: rest) M := by
  obtain ⟨p, l, e, R, s, m, args, below, meth, c, D, z, n⟩ := x
  obtain ⟨hx, hb, hml, hn, hown, hr, hlk, hts, hK, hA, hf, hlo, hz⟩ := G
  intro H locs ls hR hS hl
  exact lv_imul hx hb hd  (k H locs ls hR hS hl)
theorem v_iand {ad : Nat → Nat} {cy : Nat → ClassId} {x : KX} {o : KO} {cc : ByteArray} {own : String} {nL d pc : Nat} {ret : Option FieldType} {L : List (Nat × Value)} {rest : List Value} {M : KM} {a b : Int32} (G : KG ad cy x cc own nL ret d) (hd : decode cc pc = .ok (.iand, 1))  (k : KV ad cy x o (pc + 1) L (.int (a &&& b) :: rest) M) : KV ad cy x o (pc) L (.int b :: .int a :: rest) M := by
  obtain ⟨p, l, e, R, s, m, args, below, meth, c, D, z, n⟩ := x
  obtain ⟨hx, hb, hml, hn, hown, hr, hlk, hts, hK, hA, hf, hlo, hz⟩ := G
  intro H locs ls hR hS hl
  exact lv_iand hx hb hd  (k H locs ls hR hS hl)
theorem v_ior {ad : Nat → Nat} {cy : Nat → ClassId} {x : KX} {o : KO} {cc : ByteArray} {own : String} {nL d pc : Nat} {ret : Option FieldType} {L : List (Nat × Value)} {rest : List Value} {M : KM} {a b : Int32} (G : KG ad cy x cc own nL ret d) (hd : decode cc pc = .ok (.ior, 1))  (k : KV ad cy x o (pc + 1) L (.int (a ||| b) :: rest) M) : KV ad cy x o (pc) L (.int b :: .int a :: rest) M := by
  obtain ⟨p, l, e, R, s, m, args, below, meth, c, D, z, n⟩ := x
  obtain ⟨hx, hb, hml, hn, hown, hr, hlk, hts, hK, hA, hf, hlo, hz⟩ := G
  intro H locs ls hR hS hl
  exact lv_ior hx hb hd  (k H locs ls hR hS hl)
theorem v_ishl {ad : Nat → Nat} {cy : Nat → ClassId} {x : KX} {o : KO} {cc : ByteArray} {own : String} {nL d pc : Nat} {ret : Option FieldType} {L : List (Nat × Value)} {rest : List Value} {M : KM} {a b : Int32} (G : KG ad cy x cc own nL ret d) (hd : decode cc pc = .ok (.ishl, 1))  (k : KV ad cy x o (pc + 1) L (.int (a <<< (b &&& 31)) :: rest) M) : KV ad cy x o (pc) L (.int b :: .int a :: rest) M := by
  obtain ⟨p, l, e, R, s, m, args, below, meth, c, D, z, n⟩ := x
  obtain ⟨hx, hb, hml, hn, hown, hr, hlk, hts, hK, hA, hf, hlo, hz⟩ := G
  intro H locs ls hR hS hl
  exact lv_ishl hx hb hd  (k H locs ls hR hS hl)
theorem v_ishr {ad : Nat → Nat} {cy : Nat → ClassId} {x : KX} {o : KO} {cc : ByteArray} {own : String} {nL d pc : Nat} {ret : Option FieldType} {L : List (Nat × Value)} {rest : List Value} {M : KM} {a b : Int32} (G : KG ad cy x cc own nL ret d) (hd : decode cc pc = .ok (.ishr, 1))  (k : KV ad cy x o (pc + 1) L (.int (a >>> (b &&& 31)) :: rest) M) : KV ad cy x o (pc) L (.int b :: .int a :: rest) M := by
  obtain ⟨p, l, e, R, s, m, args, below, meth, c, D, z, n⟩ := x
  obtain ⟨hx, hb, hml, hn, hown, hr, hlk, hts, hK, hA, hf, hlo, hz⟩ := G
  intro H locs ls hR hS hl
  exact lv_ishr hx hb hd  (k H locs ls hR hS hl)
theorem v_iushr {ad : Nat → Nat} {cy : Nat → ClassId} {x : KX} {o : KO} {cc : ByteArray} {own : String} {nL d pc : Nat} {ret : Option FieldType} {L : List (Nat × Value)} {rest : List Value} {M : KM} {a b : Int32} (G : KG ad cy x cc own nL ret d) (hd : decode cc pc = .ok (.iushr, 1))  (k : KV ad cy x o (pc + 1) L (.int ((a.toUInt32 >>> (b.toUInt32 &&& Int32.toUInt32 31)).toInt32) :: rest) M) : KV ad cy x o (pc) L (.int b :: .int a :: rest) M := by
  obtain ⟨p, l, e, R, s, m, args, below, meth, c, D, z, n⟩ := x
  obtain ⟨hx, hb, hml, hn, hown, hr, hlk, hts, hK, hA, hf, hlo, hz⟩ := G
  intro H locs ls hR hS hl
  exact lv_iushr hx hb hd rfl (k H locs ls hR hS hl)
theorem v_idiv {ad : Nat → Nat} {cy : Nat → ClassId} {x : KX} {o : KO} {cc : ByteArray} {own : String} {nL d pc : Nat} {ret : Option FieldType} {L : List (Nat × Value)} {rest : List Value} {M : KM} {a b : Int32} (G : KG ad cy x cc own nL ret d) (hd : decode cc pc = .ok (.idiv, 1)) (hne : ¬ b = 0) (k : KV ad cy x o (pc + 1) L (.int (a / b) :: rest) M) : KV ad cy x o (pc) L (.int b :: .int a :: rest) M := by
  obtain ⟨p, l, e, R, s, m, args, below, meth, c, D, z, n⟩ := x
  obtain ⟨hx, hb, hml, hn, hown, hr, hlk, hts, hK, hA, hf, hlo, hz⟩ := G
  intro H locs ls hR hS hl
  exact lv_idiv hx hb hd hne (k H locs ls hR hS hl)
theorem v_irem {ad : Nat → Nat} {cy : Nat → ClassId} {x : KX} {o : KO} {cc : ByteArray} {own : String} {nL d pc : Nat} {ret : Option FieldType} {L : List (Nat × Value)} {rest : List Value} {M : KM} {a b : Int32} (G : KG ad cy x cc own nL ret d) (hd : decode cc pc = .ok (.irem, 1)) (hne : ¬ b = 0) (k : KV ad cy x o (pc + 1) L (.int (a - a / b * b) :: rest) M) : KV ad cy x o (pc) L (.int b :: .int a :: rest) M := by
  obtain ⟨p, l, e, R, s, m, args, below, meth, c, D, z, n⟩ := x
  obtain ⟨hx, hb, hml, hn, hown, hr, hlk, hts, hK, hA, hf, hlo, hz⟩ := G
  intro H locs ls hR hS hl
  exact lv_irem hx hb hd hne (k H locs ls hR hS hl)
theorem v_ineg {ad : Nat → Nat} {cy : Nat → ClassId} {x : KX} {o : KO} {cc : ByteArray} {own : String} {nL d pc : Nat} {ret : Option FieldType} {L : List (Nat × Value)} {rest : List Value} {M : KM} {a : Int32} (G : KG ad cy x cc own nL ret d) (hd : decode cc pc = .ok (.ineg, 1))  (k : KV ad cy x o (pc + 1) L (.int (-a) :: rest) M) : KV ad cy x o (pc) L (.int a :: rest) M := by
  obtain ⟨p, l, e, R, s, m, args, below, meth, c, D, z, n⟩ := x
  obtain ⟨hx, hb, hml, hn, hown, hr, hlk, hts, hK, hA, hf, hlo, hz⟩ := G
  intro H locs ls hR hS hl
  exact lv_ineg hx hb hd  (k H locs ls hR hS hl)
theorem v_ladd {ad : Nat → Nat} {cy : Nat → ClassId} {x : KX} {o : KO} {cc : ByteArray} {own : String} {nL d pc : Nat} {ret : Option FieldType} {L : List (Nat × Value)} {rest : List Value} {M : KM} {a b : Int64} (G : KG ad cy x cc own nL ret d) (hd : decode cc pc = .ok (.ladd, 1))  (k : KV ad cy x o (pc + 1) L (.long (a + b) :: rest) M) : KV ad cy x o (pc) L (.long b :: .long a :: rest) M := by
  obtain ⟨p, l, e, R, s, m, args, below, meth, c, D, z, n⟩ := x
  obtain ⟨hx, hb, hml, hn, hown, hr, hlk, hts, hK, hA, hf, hlo, hz⟩ := G
  intro H locs ls hR hS hl
  exact lv_ladd hx hb hd  (k H locs ls hR hS hl)
theorem v_lsub {ad : Nat → Nat} {cy : Nat → ClassId} {x : KX} {o : KO} {cc : ByteArray} {own : String} {nL d pc : Nat} {ret : Option FieldType} {L : List (Nat × Value)} {rest : List Value} {M : KM} {a b : Int64} (G : KG ad cy x cc own nL ret d) (hd : decode cc pc = .ok (.lsub, 1))  (k : KV ad cy x o (pc + 1) L (.long (a - b) :: rest) M) : KV ad cy x o (pc) L (.long b :: .long a :: rest) M := by
  obtain ⟨p, l, e, R, s, m, args, below, meth, c, D, z, n⟩ := x
  obtain ⟨hx, hb, hml, hn, hown, hr, hlk, hts, hK, hA, hf, hlo, hz⟩ := G
  intro H locs ls hR hS hl
  exact lv_lsub hx hb hd  (k H locs ls hR hS hl)
theorem v_lmul {ad : Nat → Nat} {cy : Nat → ClassId} {x : KX} {o : KO} {cc : ByteArray} {own : String} {nL d pc : Nat} {ret : Option FieldType} {L : List (Nat × Value)} {rest : List Value} {M : KM} {a b : Int64} (G : KG ad cy x cc own nL ret d) (hd : decode cc pc = .ok (.lmul, 1))  (k : KV ad cy x o (pc + 1) L (.long (a * b) :: rest) M) : KV ad cy x o (pc) L (.long b :: .long a :: rest) M := by
  obtain ⟨p, l, e, R, s, m, args, below, meth, c, D, z, n⟩ := x
  obtain ⟨hx, hb, hml, hn, hown, hr, hlk, hts, hK, hA, hf, hlo, hz⟩ := G
  intro H locs ls hR hS hl
  exact lv_lmul hx hb hd  (k H locs ls hR hS hl)
theorem v_land {ad : Nat → Nat} {cy : Nat → ClassId} {x : KX} {o : KO} {cc : ByteArray} {own : String} {nL d pc : Nat} {ret : Option FieldType} {L : List (Nat × Value)} {rest : List Value} {M : KM} {a b : Int64} (G : KG ad cy x cc own nL ret d) (hd : decode cc pc = .ok (.land, 1))  (k : KV ad cy x o (pc + 1) L (.long (a &&& b) :: rest) M) : KV ad cy x o (pc) L (.long b :: .long a :: rest) M := by
  obtain ⟨p, l, e, R, s, m, args, below, meth, c, D, z, n⟩ := x
  obtain ⟨hx, hb, hml, hn, hown, hr, hlk, hts, hK, hA, hf, hlo, hz⟩ := G
  intro H locs ls hR hS hl
  exact lv_land hx hb hd  (k H locs ls hR hS hl)
theorem v_lor {ad : Nat → Nat} {cy : Nat → ClassId} {x : KX} {o : KO} {cc : ByteArray} {own : String} {nL d pc : Nat} {ret : Option FieldType} {L : List (Nat × Value)} {rest : List Value} {M : KM} {a b : Int64} (G : KG ad cy x cc own nL ret d) (hd : decode cc pc = .ok (.lor, 1))  (k : KV ad cy x o (pc + 1) L (.long (a ||| b) :: rest) M) : KV ad cy x o (pc) L (.long b :: .long a :: rest) M := by
  obtain ⟨p, l, e, R, s, m, args, below, meth, c, D, z, n⟩ := x
  obtain ⟨hx, hb, hml, hn, hown, hr, hlk, hts, hK, hA, hf, hlo, hz⟩ := G
  intro H locs ls hR hS hl
  exact lv_lor hx hb hd  (k H locs ls hR hS hl)
theorem v_ldiv {ad : Nat → Nat} {cy : Nat → ClassId} {x : KX} {o : KO} {cc : ByteArray} {own : String} {nL d pc : Nat} {ret : Option FieldType} {L : List (Nat × Value)} {rest : List Value} {M : KM} {a b : Int64} (G : KG ad cy x cc own nL ret d) (hd : decode cc pc = .ok (.ldiv, 1)) (hne : ¬ b = 0) (k : KV ad cy x o (pc + 1) L (.long (a / b) :: rest) M) : KV ad cy x o (pc) L (.long b :: .long a :: rest) M := by
  obtain ⟨p, l, e, R, s, m, args, below, meth, c, D, z, n⟩ := x
  obtain ⟨hx, hb, hml, hn, hown, hr, hlk, hts, hK, hA, hf, hlo, hz⟩ := G
  intro H locs ls hR hS hl
  exact lv_ldiv hx hb hd hne (k H locs ls hR hS hl)
theorem v_lrem {ad : Nat → Nat} {cy : Nat → ClassId} {x : KX} {o : KO} {cc : ByteArray} {own : String} {nL d pc : Nat} {ret : Option FieldType} {L : List (Nat × Value)} {rest : List Value} {M : KM} {a b : Int64} (G : KG ad cy x cc own nL ret d) (hd : decode cc pc = .ok (.lrem, 1)) (hne : ¬ b = 0) (k : KV ad cy x o (pc + 1) L (.long (a - a / b * b) :: rest) M) : KV ad cy x o (pc) L (.long b :: .long a :: rest) M := by
  obtain ⟨p, l, e, R, s, m, args, below, meth, c, D, z, n⟩ := x
  obtain ⟨hx, hb, hml, hn, hown, hr, hlk, hts, hK, hA, hf, hlo, hz⟩ := G
  intro H locs ls hR hS hl
  exact lv_lrem hx hb hd hne (k H locs ls hR hS hl)
theorem v_lshl {ad : Nat → Nat} {cy : Nat → ClassId} {x : KX} {o : KO} {cc : ByteArray} {own : String} {nL d pc : Nat} {ret : Option FieldType} {L : List (Nat × Value)} {rest : List Value} {M : KM} {a : Int64} {b : Int32} (G : KG ad cy x cc own nL ret d) (hd : decode cc pc = .ok (.lshl, 1))  (k : KV ad cy x o (pc + 1) L (.long (a <<< (b.toInt64 &&& 63)) :: rest) M) : KV ad cy x o (pc) L (.int b :: .long a :: rest) M := by
  obtain ⟨p, l, e, R, s, m, args, below, meth, c, D, z, n⟩ := x
  obtain ⟨hx, hb, hml, hn, hown, hr, hlk, hts, hK, hA, hf, hlo, hz⟩ := G
  intro H locs ls hR hS hl
  exact lv_lshl hx hb hd rfl (k H locs ls hR hS hl)
theorem v_lcmp {ad : Nat → Nat} {cy : Nat → ClassId} {x : KX} {o : KO} {cc : ByteArray} {own : String} {nL d pc : Nat} {ret : Option FieldType} {L : List (Nat × Value)} {rest : List Value} {M : KM} {a b : Int64} (G : KG ad cy x cc own nL ret d) (hd : decode cc pc = .ok (.lcmp, 1))  (k : KV ad cy x o (pc + 1) L (.int (lg_cmp a b) :: rest) M) : KV ad cy x o (pc) L (.long b :: .long a :: rest) M := by
  obtain ⟨p, l, e, R, s, m, args, below, meth, c, D, z, n⟩ := x
  obtain ⟨hx, hb, hml, hn, hown, hr, hlk, hts, hK, hA, hf, hlo, hz⟩ := G
  intro H locs ls hR hS hl
  exact W.lcmp hx hb hd  (k H locs ls hR hS hl)
theorem v_i2l {ad : Nat → Nat} {cy : Nat → ClassId} {x : KX} {o : KO} {cc : ByteArray} {own : String} {nL d pc : Nat} {ret : Option FieldType} {L : List (Nat × Value)} {rest : List Value} {M : KM} {a : Int32} (G : KG ad cy x cc own nL ret d) (hd : decode cc pc = .ok (.i2l, 1))  (k : KV ad cy x o (pc + 1) L (.long a.toInt64 :: rest) M) : KV ad cy x o (pc) L (.int a :: rest) M := by
  obtain ⟨p, l, e, R, s, m, args, below, meth, c, D, z, n⟩ := x
  obtain ⟨hx, hb, hml, hn, hown, hr, hlk, hts, hK, hA, hf, hlo, hz⟩ := G
  intro H locs ls hR hS hl
  exact lv_i2l hx hb hd rfl (k H locs ls hR hS hl)
theorem v_l2i {ad : Nat → Nat} {cy : Nat → ClassId} {x : KX} {o : KO} {cc : ByteArray} {own : String} {nL d pc : Nat} {ret : Option FieldType} {L : List (Nat × Value)} {rest : List Value} {M : KM} {a : Int64} (G : KG ad cy x cc own nL ret d) (hd : decode cc pc = .ok (.l2i, 1))  (k : KV ad cy x o (pc + 1) L (.int a.toInt32 :: rest) M) : KV ad cy x o (pc) L (.long a :: rest) M := by
  obtain ⟨p, l, e, R, s, m, args, below, meth, c, D, z, n⟩ := x
  obtain ⟨hx, hb, hml, hn, hown, hr, hlk, hts, hK, hA, hf, hlo, hz⟩ := G
  intro H locs ls hR hS hl
  exact lv_l2i hx hb hd rfl (k H locs ls hR hS hl)
theorem v_i2b {ad : Nat → Nat} {cy : Nat → ClassId} {x : KX} {o : KO} {cc : ByteArray} {own : String} {nL d pc : Nat} {ret : Option FieldType} {L : List (Nat × Value)} {rest : List Value} {M : KM} {a : Int32} (G : KG ad cy x cc own nL ret d) (hd : decode cc pc = .ok (.i2b, 1))  (k : KV ad cy x o (pc + 1) L (.int a.toInt8.toInt32 :: rest) M) : KV ad cy x o (pc) L (.int a :: rest) M := by
  obtain ⟨p, l, e, R, s, m, args, below, meth, c, D, z, n⟩ := x
  obtain ⟨hx, hb, hml, hn, hown, hr, hlk, hts, hK, hA, hf, hlo, hz⟩ := G
  intro H locs ls hR hS hl
  exact lv_i2b hx hb hd rfl (k H locs ls hR hS hl)
theorem v_i2s {ad : Nat → Nat} {cy : Nat → ClassId} {x : KX} {o : KO} {cc : ByteArray} {own : String} {nL d pc : Nat} {ret : Option FieldType} {L : List (Nat × Value)} {rest : List Value} {M : KM} {a : Int32} (G : KG ad cy x cc own nL ret d) (hd : decode cc pc = .ok (.i2s, 1))  (k : KV ad cy x o (pc + 1) L (.int a.toInt16.toInt32 :: rest) M) : KV ad cy x o (pc) L (.int a :: rest) M := by
  obtain ⟨p, l, e, R, s, m, args, below, meth, c, D, z, n⟩ := x
  obtain ⟨hx, hb, hml, hn, hown, hr, hlk, hts, hK, hA, hf, hlo, hz⟩ := G
  intro H locs ls hR hS hl
  exact lv_i2s hx hb hd rfl (k H locs ls hR hS hl)
theorem v_iconst {ad : Nat → Nat} {cy : Nat → ClassId} {x : KX} {o : KO} {cc : ByteArray} {own : String} {nL d pc : Nat} {ret : Option FieldType} {L : List (Nat × Value)} {rest : List Value} {M : KM} {i : Int} (v : Int32) (G : KG ad cy x cc own nL ret d) (hd : decode cc pc = .ok (.iconst i, 1)) (hv : Int32.ofInt i = v) (k : KV ad cy x o (pc + 1) L (.int v :: rest) M) : KV ad cy x o (pc) L (rest) M := by
  obtain ⟨p, l, e, R, s, m, args, below, meth, c, D, z, n⟩ := x
  obtain ⟨hx, hb, hml, hn, hown, hr, hlk, hts, hK, hA, hf, hlo, hz⟩ := G
  intro H locs ls hR hS hl
  exact lv_iconst hx hb hd hv (k H locs ls hR hS hl)
theorem v_bipush {ad : Nat → Nat} {cy : Nat → ClassId} {x : KX} {o : KO} {cc : ByteArray} {own : String} {nL d pc : Nat} {ret : Option FieldType} {L : List (Nat × Value)} {rest : List Value} {M : KM} {i : Int} (v : Int32) (G : KG ad cy x cc own nL ret d) (hd : decode cc pc = .ok (.bipush i, 2)) (hv : (Int8.ofInt i).toInt32 = v) (k : KV ad cy x o (pc + 2) L (.int v :: rest) M) : KV ad cy x o (pc) L (rest) M := by
  obtain ⟨p, l, e, R, s, m, args, below, meth, c, D, z, n⟩ := x
  obtain ⟨hx, hb, hml, hn, hown, hr, hlk, hts, hK, hA, hf, hlo, hz⟩ := G
  intro H locs ls hR hS hl
  exact lv_bipush hx hb hd hv (k H locs ls hR hS hl)
theorem v_sipush {ad : Nat → Nat} {cy : Nat → ClassId} {x : KX} {o : KO} {cc : ByteArray} {own : String} {nL d pc : Nat} {ret : Option FieldType} {L : List (Nat × Value)} {rest : List Value} {M : KM} {i : Int} (v : Int32) (G : KG ad cy x cc own nL ret d) (hd : decode cc pc = .ok (.sipush i, 3)) (hv : (Int16.ofInt i).toInt32 = v) (k : KV ad cy x o (pc + 3) L (.int v :: rest) M) : KV ad cy x o (pc) L (rest) M := by
  obtain ⟨p, l, e, R, s, m, args, below, meth, c, D, z, n⟩ := x
  obtain ⟨hx, hb, hml, hn, hown, hr, hlk, hts, hK, hA, hf, hlo, hz⟩ := G
  intro H locs ls hR hS hl
  exact lv_sipush hx hb hd hv (k H locs ls hR hS hl)
theorem v_lconst {ad : Nat → Nat} {cy : Nat → ClassId} {x : KX} {o : KO} {cc : ByteArray} {own : String} {nL d pc : Nat} {ret : Option FieldType} {L : List (Nat × Value)} {rest : List Value} {M : KM} {i : Fin 2} (v : Int64) (G : KG ad cy x cc own nL ret d) (hd : decode cc pc = .ok (.lconst i, 1)) (hv : Int64.ofNat (i : Nat) = v) (k : KV ad cy x o (pc + 1) L (.long v :: rest) M) : KV ad cy x o (pc) L (rest) M := by
  obtain ⟨p, l, e, R, s, m, args, below, meth, c, D, z, n⟩ := x
  obtain ⟨hx, hb, hml, hn, hown, hr, hlk, hts, hK, hA, hf, hlo, hz⟩ := G
  intro H locs ls hR hS hl
  exact lv_lconst hx hb hd hv (k H locs ls hR hS hl)
theorem v_ldc {ad : Nat → Nat} {cy : Nat → ClassId} {x : KX} {o : KO} {cc : ByteArray} {own : String} {nL d pc : Nat} {ret : Option FieldType} {L : List (Nat × Value)} {rest : List Value} {M : KM} {i : Nat} {v : Int32} (G : KG ad cy x cc own nL ret d) (hd : decode cc pc = .ok (.ldc i, 2)) (hc : Cond.constant own i v ∈ tb) (k : KV ad cy x o (pc + 2) L (.int v :: rest) M) : KV ad cy x o (pc) L (rest) M := by
  obtain ⟨p, l, e, R, s, m, args, below, meth, c, D, z, n⟩ := x
  obtain ⟨hx, hb, hml, hn, hown, hr, hlk, hts, hK, hA, hf, hlo, hz⟩ := G
  intro H locs ls hR hS hl
  exact lv_ldc hx hb hown (hts _ hc) hd (k H locs ls hR hS hl)
theorem v_ldcw {ad : Nat → Nat} {cy : Nat → ClassId} {x : KX} {o : KO} {cc : ByteArray} {own : String} {nL d pc : Nat} {ret : Option FieldType} {L : List (Nat × Value)} {rest : List Value} {M : KM} {i : Nat} {v : Int32} (G : KG ad cy x cc own nL ret d) (hd : decode cc pc = .ok (.ldc_w i, 3)) (hc : Cond.constant own i v ∈ tb) (k : KV ad cy x o (pc + 3) L (.int v :: rest) M) : KV ad cy x o (pc) L (rest) M := by
  obtain ⟨p, l, e, R, s, m, args, below, meth, c, D, z, n⟩ := x
  obtain ⟨hx, hb, hml, hn, hown, hr, hlk, hts, hK, hA, hf, hlo, hz⟩ := G
  intro H locs ls hR hS hl
  exact lv_ldcw hx hb hown (hts _ hc) hd (k H locs ls hR hS hl)
theorem v_ldc2 {ad : Nat → Nat} {cy : Nat → ClassId} {x : KX} {o : KO} {cc : ByteArray} {own : String} {nL d pc : Nat} {ret : Option FieldType} {L : List (Nat × Value)} {rest : List Value} {M : KM} {i : Nat} {v : Int64} (G : KG ad cy x cc own nL ret d) (hd : decode cc pc = .ok (.ldc2_w i, 3)) (hc : Cond.constantLong own i v ∈ tb) (k : KV ad cy x o (pc + 3) L (.long v :: rest) M) : KV ad cy x o (pc) L (rest) M := by
  obtain ⟨p, l, e, R, s, m, args, below, meth, c, D, z, n⟩ := x
  obtain ⟨hx, hb, hml, hn, hown, hr, hlk, hts, hK, hA, hf, hlo, hz⟩ := G
  intro H locs ls hR hS hl
  exact lv_ldc2 hx hb hown (hts _ hc) hd (k H locs ls hR hS hl)
theorem v_dup {ad : Nat → Nat} {cy : Nat → ClassId} {x : KX} {o : KO} {cc : ByteArray} {own : String} {nL d pc : Nat} {ret : Option FieldType} {L : List (Nat × Value)} {rest : List Value} {M : KM} {va : Value} (G : KG ad cy x cc own nL ret d) (hd : decode cc pc = .ok (.dup, 1)) (hc : va.category = 1) (k : KV ad cy x o (pc + 1) L (va :: va :: rest) M) : KV ad cy x o (pc) L (va :: rest) M := by
  obtain ⟨p, l, e, R, s, m, args, below, meth, c, D, z, n⟩ := x
  obtain ⟨hx, hb, hml, hn, hown, hr, hlk, hts, hK, hA, hf, hlo, hz⟩ := G
  intro H locs ls hR hS hl
  exact lv_dup hx hb hd hc (k H locs ls hR hS hl)
theorem v_pop {ad : Nat → Nat} {cy : Nat → ClassId} {x : KX} {o : KO} {cc : ByteArray} {own : String} {nL d pc : Nat} {ret : Option FieldType} {L : List (Nat × Value)} {rest : List Value} {M : KM} {va : Value} (G : KG ad cy x cc own nL ret d) (hd : decode cc pc = .ok (.pop, 1)) (hc : va.category = 1) (k : KV ad cy x o (pc + 1) L (rest) M) : KV ad cy x o (pc) L (va :: rest) M := by
  obtain ⟨p, l, e, R, s, m, args, below, meth, c, D, z, n⟩ := x
  obtain ⟨hx, hb, hml, hn, hown, hr, hlk, hts, hK, hA, hf, hlo, hz⟩ := G
  intro H locs ls hR hS hl
  exact lv_pop hx hb hd hc (k H locs ls hR hS hl)
theorem v_dup2 {ad : Nat → Nat} {cy : Nat → ClassId} {x : KX} {o : KO} {cc : ByteArray} {own : String} {nL d pc : Nat} {ret : Option FieldType} {L : List (Nat × Value)} {rest : List Value} {M : KM} {va vb : Value} (G : KG ad cy x cc own nL ret d) (hd : decode cc pc = .ok (.dup2, 1)) (hc : va.category = 1) (hc2 : vb.category = 1) (k : KV ad cy x o (pc + 1) L (va :: vb :: va :: vb :: rest) M) : KV ad cy x o (pc) L (va :: vb :: rest) M := by
  obtain ⟨p, l, e, R, s, m, args, below, meth, c, D, z, n⟩ := x
  obtain ⟨hx, hb, hml, hn, hown, hr, hlk, hts, hK, hA, hf, hlo, hz⟩ := G
  intro H locs ls hR hS hl
  exact lv_dup2_11 hx hb hd hc hc2 (k H locs ls hR hS hl)
theorem v_dup_x1 {ad : Nat → Nat} {cy : Nat → ClassId} {x : KX} {o : KO} {cc : ByteArray} {own : String} {nL d pc : Nat} {ret : Option FieldType} {L : List (Nat × Value)} {rest : List Value} {M : KM} {va vb : Value} (G : KG ad cy x cc own nL ret d) (hd : decode cc pc = .ok (.dup_x1, 1)) (hc : va.category = 1) (hc2 : vb.category = 1) (k : KV ad cy x o (pc + 1) L (va :: vb :: va :: rest) M) : KV ad cy x o (pc) L (va :: vb :: rest) M := by
  obtain ⟨p, l, e, R, s, m, args, below, meth, c, D, z, n⟩ := x
  obtain ⟨hx, hb, hml, hn, hown, hr, hlk, hts, hK, hA, hf, hlo, hz⟩ := G
  intro H locs ls hR hS hl
  exact lv_dup_x1 hx hb hd hc hc2 (k H locs ls hR hS hl)
theorem v_dup_x2 {ad : Nat → Nat} {cy : Nat → ClassId} {x : KX} {o : KO} {cc : ByteArray} {own : String} {nL d pc : Nat} {ret : Option FieldType} {L : List (Nat × Value)} {rest : List Value} {M : KM} {va vb vd : Value} (G : KG ad cy x cc own nL ret d) (hd : decode cc pc = .ok (.dup_x2, 1)) (hc : va.category = 1) (hc2 : vb.category = 1) (hc3 : vd.category = 1) (k : KV ad cy x o (pc + 1) L (va :: vb :: vd :: va :: rest) M) : KV ad cy x o (pc) L (va :: vb :: vd :: rest) M := by
  obtain ⟨p, l, e, R, s, m, args, below, meth, c, D, z, n⟩ := x
  obtain ⟨hx, hb, hml, hn, hown, hr, hlk, hts, hK, hA, hf, hlo, hz⟩ := G
  intro H locs ls hR hS hl
  exact lv_dup_x2 hx hb hd hc hc2 hc3 (k H locs ls hR hS hl)
theorem v_dup2_l {ad : Nat → Nat} {cy : Nat → ClassId} {x : KX} {o : KO} {cc : ByteArray} {own : String} {nL d pc : Nat} {ret : Option FieldType} {L : List (Nat × Value)} {rest : List Value} {M : KM} {va : Value} (G : KG ad cy x cc own nL ret d) (hd : decode cc pc = .ok (.dup2, 1)) (hc : va.category = 2) (k : KV ad cy x o (pc + 1) L (va :: va :: rest) M) : KV ad cy x o (pc) L (va :: rest) M := by
  obtain ⟨p, l, e, R, s, m, args, below, meth, c, D, z, n⟩ := x
  obtain ⟨hx, hb, hml, hn, hown, hr, hlk, hts, hK, hA, hf, hlo, hz⟩ := G
  intro H locs ls hR hS hl
  exact lv_dup2_2 hx hb hd hc (k H locs ls hR hS hl)
theorem v_iload_n {ad : Nat → Nat} {cy : Nat → ClassId} {x : KX} {o : KO} {cc : ByteArray} {own : String} {nL d pc : Nat} {ret : Option FieldType} {L : List (Nat × Value)} {rest : List Value} {M : KM} {f : Fin 4} {v : Int32} (G : KG ad cy x cc own nL ret d) (j : Nat) (h : L[j]? = some ((f : Nat), .int v)) (hd : decode cc pc = .ok (.iload_n f, 1)) (k : KV ad cy x o (pc + 1) L (.int v :: rest) M) : KV ad cy x o (pc) L (rest) M := by
  obtain ⟨p, l, e, R, s, m, args, below, meth, c, D, z, n⟩ := x
  obtain ⟨hx, hb, hml, hn, hown, hr, hlk, hts, hK, hA, hf, hlo, hz⟩ := G
  intro H locs ls hR hS hl
  exact lv_iload_n hx hb hd rfl (lv_at hl j h) (k H locs ls hR hS hl)
theorem v_istore_n {ad : Nat → Nat} {cy : Nat → ClassId} {x : KX} {o : KO} {cc : ByteArray} {own : String} {nL d pc : Nat} {ret : Option FieldType} {L : List (Nat × Value)} {rest : List Value} {M : KM} {f : Fin 4} {v : Int32} (L2 : List (Nat × Value)) (G : KG ad cy x cc own nL ret d) (hi : (f : Nat) < nL) (hL : ((f : Nat), Value.int v) :: L.filter (fun q => !(q.1 == (f : Nat)) && !(q.1 + 1 == (f : Nat) && q.2.category == 2)) = L2) (hd : decode cc pc = .ok (.istore_n f, 1)) (k : KV ad cy x o (pc + 1) L2 (rest) M) : KV ad cy x o (pc) L (.int v :: rest) M := by
  obtain ⟨p, l, e, R, s, m, args, below, meth, c, D, z, n⟩ := x
  obtain ⟨hx, hb, hml, hn, hown, hr, hlk, hts, hK, hA, hf, hlo, hz⟩ := G
  subst hn
  intro H locs ls hR hS hl
  exact lv_istore_n hx hb hd rfl hl hi hL (fun ls2 hl2 => k H locs ls2 hR hS hl2)
theorem v_iload {ad : Nat → Nat} {cy : Nat → ClassId} {x : KX} {o : KO} {cc : ByteArray} {own : String} {nL d pc : Nat} {ret : Option FieldType} {L : List (Nat × Value)} {rest : List Value} {M : KM} {i : Nat} {v : Int32} (G : KG ad cy x cc own nL ret d) (j : Nat) (h : L[j]? = some (i, .int v)) (hd : decode cc pc = .ok (.iload i, 2)) (k : KV ad cy x o (pc + 2) L (.int v :: rest) M) : KV ad cy x o (pc) L (rest) M := by
  obtain ⟨p, l, e, R, s, m, args, below, meth, c, D, z, n⟩ := x
  obtain ⟨hx, hb, hml, hn, hown, hr, hlk, hts, hK, hA, hf, hlo, hz⟩ := G
  intro H locs ls hR hS hl
  exact lv_iload hx hb hd  (lv_at hl j h) (k H locs ls hR hS hl)
theorem v_istore {ad : Nat → Nat} {cy : Nat → ClassId} {x : KX} {o : KO} {cc : ByteArray} {own : String} {nL d pc : Nat} {ret : Option FieldType} {L : List (Nat × Value)} {rest : List Value} {M : KM} {i : Nat} {v : Int32} (L2 : List (Nat × Value)) (G : KG ad cy x cc own nL ret d) (hi : i < nL) (hL : (i, Value.int v) :: L.filter (fun q => !(q.1 == i) && !(q.1 + 1 == i && q.2.category == 2)) = L2) (hd : decode cc pc = .ok (.istore i, 2)) (k : KV ad cy x o (pc + 2) L2 (rest) M) : KV ad cy x o (pc) L (.int v :: rest) M := by
  obtain ⟨p, l, e, R, s, m, args, below, meth, c, D, z, n⟩ := x
  obtain ⟨hx, hb, hml, hn, hown, hr, hlk, hts, hK, hA, hf, hlo, hz⟩ := G
  subst hn
  intro H locs ls hR hS hl
  exact lv_istore hx hb hd  hl hi hL (fun ls2 hl2 => k H locs ls2 hR hS hl2)
theorem v_lload_n {ad : Nat → Nat} {cy : Nat → ClassId} {x : KX} {o : KO} {cc : ByteArray} {own : String} {nL d pc : Nat} {ret : Option FieldType} {L : List (Nat × Value)} {rest : List Value} {M : KM} {f : Fin 4} {v : Int64} (G : KG ad cy x cc own nL ret d) (j : Nat) (h : L[j]? = some ((f : Nat), .long v)) (hd : decode cc pc = .ok (.lload_n f, 1)) (k : KV ad cy x o (pc + 1) L (.long v :: rest) M) : KV ad cy x o (pc) L (rest) M := by
  obtain ⟨p, l, e, R, s, m, args, below, meth, c, D, z, n⟩ := x
  obtain ⟨hx, hb, hml, hn, hown, hr, hlk, hts, hK, hA, hf, hlo, hz⟩ := G
  intro H locs ls hR hS hl
  exact lv_lload_n hx hb hd rfl (lv_at hl j h) (k H locs ls hR hS hl)
theorem v_lstore_n {ad : Nat → Nat} {cy : Nat → ClassId} {x : KX} {o : KO} {cc : ByteArray} {own : String} {nL d pc : Nat} {ret : Option FieldType} {L : List (Nat × Value)} {rest : List Value} {M : KM} {f : Fin 4} {v : Int64} (L2 : List (Nat × Value)) (G : KG ad cy x cc own nL ret d) (hi : (f : Nat) + 1 < nL) (hL : ((f : Nat), Value.long v) :: L.filter (fun q => !(q.1 == (f : Nat)) && (!(q.1 == (f : Nat) + 1) && !(q.1 + 1 == (f : Nat) && q.2.category == 2))) = L2) (hd : decode cc pc = .ok (.lstore_n f, 1)) (k : KV ad cy x o (pc + 1) L2 (rest) M) : KV ad cy x o (pc) L (.long v :: rest) M := by
  obtain ⟨p, l, e, R, s, m, args, below, meth, c, D, z, n⟩ := x
  obtain ⟨hx, hb, hml, hn, hown, hr, hlk, hts, hK, hA, hf, hlo, hz⟩ := G
  subst hn
  intro H locs ls hR hS hl
  exact lv_lstore_n hx hb hd rfl hl hi hL (fun ls2 hl2 => k H locs ls2 hR hS hl2)
theorem v_lload {ad : Nat → Nat} {cy : Nat → ClassId} {x : KX} {o : KO} {cc : ByteArray} {own : String} {nL d pc : Nat} {ret : Option FieldType} {L : List (Nat × Value)} {rest : List Value} {M : KM} {i : Nat} {v : Int64} (G : KG ad cy x cc own nL ret d) (j : Nat) (h : L[j]? = some (i, .long v)) (hd : decode cc pc = .ok (.lload i, 2)) (k : KV ad cy x o (pc + 2) L (.long v :: rest) M) : KV ad cy x o (pc) L (rest) M := by
  obtain ⟨p, l, e, R, s, m, args, below, meth, c, D, z, n⟩ := x
  obtain ⟨hx, hb, hml, hn, hown, hr, hlk, hts, hK, hA, hf, hlo, hz⟩ := G
  intro H locs ls hR hS hl
  exact lv_lload hx hb hd  (lv_at hl j h) (k H locs ls hR hS hl)
theorem v_lstore {ad : Nat → Nat} {cy : Nat → ClassId} {x : KX} {o : KO} {cc : ByteArray} {own : String} {nL d pc : Nat} {ret : Option FieldType} {L : List (Nat × Value)} {rest : List Value} {M : KM} {i : Nat} {v : Int64} (L2 : List (Nat × Value)) (G : KG ad cy x cc own nL ret d) (hi : i + 1 < nL) (hL : (i, Value.long v) :: L.filter (fun q => !(q.1 == i) && (!(q.1 == i + 1) && !(q.1 + 1 == i && q.2.category == 2))) = L2) (hd : decode cc pc = .ok (.lstore i, 2)) (k : KV ad cy x o (pc + 2) L2 (rest) M) : KV ad cy x o (pc) L (.long v :: rest) M := by
  obtain ⟨p, l, e, R, s, m, args, below, meth, c, D, z, n⟩ := x
  obtain ⟨hx, hb, hml, hn, hown, hr, hlk, hts, hK, hA, hf, hlo, hz⟩ := G
  subst hn
  intro H locs ls hR hS hl
  exact lv_lstore hx hb hd  hl hi hL (fun ls2 hl2 => k H locs ls2 hR hS hl2)
theorem v_aload_n {ad : Nat → Nat} {cy : Nat → ClassId} {x : KX} {o : KO} {cc : ByteArray} {own : String} {nL d pc : Nat} {ret : Option FieldType} {L : List (Nat × Value)} {rest : List Value} {M : KM} {f : Fin 4} {v : Nat} (G : KG ad cy x cc own nL ret d) (j : Nat) (h : L[j]? = some ((f : Nat), .ref v)) (hd : decode cc pc = .ok (.aload_n f, 1)) (k : KV ad cy x o (pc + 1) L (.ref v :: rest) M) : KV ad cy x o (pc) L (rest) M := by
  obtain ⟨p, l, e, R, s, m, args, below, meth, c, D, z, n⟩ := x
  obtain ⟨hx, hb, hml, hn, hown, hr, hlk, hts, hK, hA, hf, hlo, hz⟩ := G
  intro H locs ls hR hS hl
  exact lv_aload_n hx hb hd rfl (lv_at hl j h) (k H locs ls hR hS hl)
theorem v_astore_n {ad : Nat → Nat} {cy : Nat → ClassId} {x : KX} {o : KO} {cc : ByteArray} {own : String} {nL d pc : Nat} {ret : Option FieldType} {L : List (Nat × Value)} {rest : List Value} {M : KM} {f : Fin 4} {v : Nat} (L2 : List (Nat × Value)) (G : KG ad cy x cc own nL ret d) (hi : (f : Nat) < nL) (hL : ((f : Nat), Value.ref v) :: L.filter (fun q => !(q.1 == (f : Nat)) && !(q.1 + 1 == (f : Nat) && q.2.category == 2)) = L2) (hd : decode cc pc = .ok (.astore_n f, 1)) (k : KV ad cy x o (pc + 1) L2 (rest) M) : KV ad cy x o (pc) L (.ref v :: rest) M := by
  obtain ⟨p, l, e, R, s, m, args, below, meth, c, D, z, n⟩ := x
  obtain ⟨hx, hb, hml, hn, hown, hr, hlk, hts, hK, hA, hf, hlo, hz⟩ := G
  subst hn
  intro H locs ls hR hS hl
  exact lv_astore_n hx hb hd rfl hl hi hL (fun ls2 hl2 => k H locs ls2 hR hS hl2)
theorem v_aload {ad : Nat → Nat} {cy : Nat → ClassId} {x : KX} {o : KO} {cc : ByteArray} {own : String} {nL d pc : Nat} {ret : Option FieldType} {L : List (Nat × Value)} {rest : List Value} {M : KM} {i : Nat} {v : Nat} (G : KG ad cy x cc own nL ret d) (j : Nat) (h : L[j]? = some (i, .ref v)) (hd : decode cc pc = .ok (.aload i, 2)) (k : KV ad cy x o (pc + 2) L (.ref v :: rest) M) : KV ad cy x o (pc) L (rest) M := by
  obtain ⟨p, l, e, R, s, m, args, below, meth, c, D, z, n⟩ := x
  obtain ⟨hx, hb, hml, hn, hown, hr, hlk, hts, hK, hA, hf, hlo, hz⟩ := G
  intro H locs ls hR hS hl
  exact lv_aload hx hb hd  (lv_at hl j h) (k H locs ls hR hS hl)
theorem v_astore {ad : Nat → Nat} {cy : Nat → ClassId} {x : KX} {o : KO} {cc : ByteArray} {own : String} {nL d pc : Nat} {ret : Option FieldType} {L : List (Nat × Value)} {rest : List Value} {M : KM} {i : Nat} {v : Nat} (L2 : List (Nat × Value)) (G : KG ad cy x cc own nL ret d) (hi : i < nL) (hL : (i, Value.ref v) :: L.filter (fun q => !(q.1 == i) && !(q.1 + 1 == i && q.2.category == 2)) = L2) (hd : decode cc pc = .ok (.astore i, 2)) (k : KV ad cy x o (pc + 2) L2 (rest) M) : KV ad cy x o (pc) L (.ref v :: rest) M := by
  obtain ⟨p, l, e, R, s, m, args, below, meth, c, D, z, n⟩ := x
  obtain ⟨hx, hb, hml, hn, hown, hr, hlk, hts, hK, hA, hf, hlo, hz⟩ := G
  subst hn
  intro H locs ls hR hS hl
  exact lv_astore hx hb hd  hl hi hL (fun ls2 hl2 => k H locs ls2 hR hS hl2)
theorem v_iinc {ad : Nat → Nat} {cy : Nat → ClassId} {x : KX} {o : KO} {cc : ByteArray} {own : String} {nL d pc : Nat} {ret : Option FieldType} {L : List (Nat × Value)} {rest : List Value} {M : KM} {i : Nat} {q : Int} {v : Int32} (v2 : Int32) (L2 : List (Nat × Value)) (G : KG ad cy x cc own nL ret d) (j : Nat) (h : L[j]? = some (i, .int v)) (hv : v + Int32.ofInt q = v2) (hi : i < nL) (hL : (i, Value.int v2) :: L.filter (fun q => !(q.1 == i) && !(q.1 + 1 == i && q.2.category == 2)) = L2) (hd : decode cc pc = .ok (.iinc i q, 3)) (k : KV ad cy x o (pc + 3) L2 (rest) M) : KV ad cy x o (pc) L (rest) M := by
  obtain ⟨p, l, e, R, s, m, args, below, meth, c, D, z, n⟩ := x
  obtain ⟨hx, hb, hml, hn, hown, hr, hlk, hts, hK, hA, hf, hlo, hz⟩ := G
  subst hn
  intro H locs ls hR hS hl
  exact lv_iinc hx hb hd hl h hv hi hL (fun ls2 hl2 => k H locs ls2 hR hS hl2)
theorem v_sub {ad : Nat → Nat} {cy : Nat → ClassId} {x : KX} {o : KO} {cc : ByteArray} {own : String} {nL d pc : Nat} {ret : Option FieldType} {L : List (Nat × Value)} {rest : List Value} {M : KM} (L2 : List (Nat × Value)) (ks : List Nat) (h : lv_pick L ks = L2) (k : KV ad cy x o (pc) L2 (rest) M) : KV ad cy x o (pc) L (rest) M := by
  obtain ⟨p, l, e, R, s, m, args, below, meth, c, D, z, n⟩ := x
  intro H locs ls hR hS hl
  exact k H locs ls hR hS (lv_sub hl ks h)
theorem v_if_eq {ad : Nat → Nat} {cy : Nat → ClassId} {x : KX} {o : KO} {cc : ByteArray} {own : String} {nL d pc : Nat} {ret : Option FieldType} {L : List (Nat × Value)} {rest : List Value} {M : KM} {a : Int32} {off : Int} (tgt : Nat) (G : KG ad cy x cc own nL ret d) (hd : decode cc pc = .ok (.ifCond .eq off, 3)) (ht : (pc : Int) + off = (tgt : Int)) (kt : a = 0 → KV ad cy x o (tgt) L (rest) M) (kf : ¬ a = 0 → KV ad cy x o (pc + 3) L (rest) M) : KV ad cy x o (pc) L (.int a :: rest) M := by
  obtain ⟨p, l, e, R, s, m, args, below, meth, c, D, z, n⟩ := x
  obtain ⟨hx, hb, hml, hn, hown, hr, hlk, hts, hK, hA, hf, hlo, hz⟩ := G
  intro H locs ls hR hS hl
  exact lv_if_eq hx hb hd ht (fun h => kt h H locs ls hR hS hl) (fun h => kf h H locs ls hR hS hl)
theorem v_if_ne {ad : Nat → Nat} {cy : Nat → ClassId} {x : KX} {o : KO} {cc : ByteArray} {own : String} {nL d pc : Nat} {ret : Option FieldType} {L : List (Nat × Value)} {rest : List Value} {M : KM} {a : Int32} {off : Int} (tgt : Nat) (G : KG ad cy x cc own nL ret d) (hd : decode cc pc = .ok (.ifCond .ne off, 3)) (ht : (pc : Int) + off = (tgt : Int)) (kt : ¬ a = 0 → KV ad cy x o (tgt) L (rest) M) (kf : a = 0 → KV ad cy x o (pc + 3) L (rest) M) : KV ad cy x o (pc) L (.int a :: rest) M := by
  obtain ⟨p, l, e, R, s, m, args, below, meth, c, D, z, n⟩ := x
  obtain ⟨hx, hb, hml, hn, hown, hr, hlk, hts, hK, hA, hf, hlo, hz⟩ := G
  intro H locs ls hR hS hl
  exact lv_if_ne hx hb hd ht (fun h => kt h H locs ls hR hS hl) (fun h => kf h H locs ls hR hS hl)
theorem v_if_lt {ad : Nat → Nat} {cy : Nat → ClassId} {x : KX} {o : KO} {cc : ByteArray} {own : String} {nL d pc : Nat} {ret : Option FieldType} {L : List (Nat × Value)} {rest : List Value} {M : KM} {a : Int32} {off : Int} (tgt : Nat) (G : KG ad cy x cc own nL ret d) (hd : decode cc pc = .ok (.ifCond .lt off, 3)) (ht : (pc : Int) + off = (tgt : Int)) (kt : a < 0 → KV ad cy x o (tgt) L (rest) M) (kf : ¬ a < 0 → KV ad cy x o (pc + 3) L (rest) M) : KV ad cy x o (pc) L (.int a :: rest) M := by
  obtain ⟨p, l, e, R, s, m, args, below, meth, c, D, z, n⟩ := x
  obtain ⟨hx, hb, hml, hn, hown, hr, hlk, hts, hK, hA, hf, hlo, hz⟩ := G
  intro H locs ls hR hS hl
  exact lv_if_lt hx hb hd ht (fun h => kt h H locs ls hR hS hl) (fun h => kf h H locs ls hR hS hl)
theorem v_if_ge {ad : Nat → Nat} {cy : Nat → ClassId} {x : KX} {o : KO} {cc : ByteArray} {own : String} {nL d pc : Nat} {ret : Option FieldType} {L : List (Nat × Value)} {rest : List Value} {M : KM} {a : Int32} {off : Int} (tgt : Nat) (G : KG ad cy x cc own nL ret d) (hd : decode cc pc = .ok (.ifCond .ge off, 3)) (ht : (pc : Int) + off = (tgt : Int)) (kt : 0 ≤ a → KV ad cy x o (tgt) L (rest) M) (kf : ¬ 0 ≤ a → KV ad cy x o (pc + 3) L (rest) M) : KV ad cy x o (pc) L (.int a :: rest) M := by
  obtain ⟨p, l, e, R, s, m, args, below, meth, c, D, z, n⟩ := x
  obtain ⟨hx, hb, hml, hn, hown, hr, hlk, hts, hK, hA, hf, hlo, hz⟩ := G
  intro H locs ls hR hS hl
  exact lv_if_ge hx hb hd ht (fun h => kt h H locs ls hR hS hl) (fun h => kf h H locs ls hR hS hl)
theorem v_if_gt {ad : Nat → Nat} {cy : Nat → ClassId} {x : KX} {o : KO} {cc : ByteArray} {own : String} {nL d pc : Nat} {ret : Option FieldType} {L : List (Nat × Value)} {rest : List Value} {M : KM} {a : Int32} {off : Int} (tgt : Nat) (G : KG ad cy x cc own nL ret d) (hd : decode cc pc = .ok (.ifCond .gt off, 3)) (ht : (pc : Int) + off = (tgt : Int)) (kt : 0 < a → KV ad cy x o (tgt) L (rest) M) (kf : ¬ 0 < a → KV ad cy x o (pc + 3) L (rest) M) : KV ad cy x o (pc) L (.int a :: rest) M := by
  obtain ⟨p, l, e, R, s, m, args, below, meth, c, D, z, n⟩ := x
  obtain ⟨hx, hb, hml, hn, hown, hr, hlk, hts, hK, hA, hf, hlo, hz⟩ := G
  intro H locs ls hR hS hl
  exact lv_if_gt hx hb hd ht (fun h => kt h H locs ls hR hS hl) (fun h => kf h H locs ls hR hS hl)
theorem v_if_le {ad : Nat → Nat} {cy : Nat → ClassId} {x : KX} {o : KO} {cc : ByteArray} {own : String} {nL d pc : Nat} {ret : Option FieldType} {L : List (Nat × Value)} {rest : List Value} {M : KM} {a : Int32} {off : Int} (tgt : Nat) (G : KG ad cy x cc own nL ret d) (hd : decode cc pc = .ok (.ifCond .le off, 3)) (ht : (pc : Int) + off = (tgt : Int)) (kt : a ≤ 0 → KV ad cy x o (tgt) L (rest) M) (kf : ¬ a ≤ 0 → KV ad cy x o (pc + 3) L (rest) M) : KV ad cy x o (pc) L (.int a :: rest) M := by
  obtain ⟨p, l, e, R, s, m, args, below, meth, c, D, z, n⟩ := x
  obtain ⟨hx, hb, hml, hn, hown, hr, hlk, hts, hK, hA, hf, hlo, hz⟩ := G
  intro H locs ls hR hS hl
  exact lv_if_le hx hb hd ht (fun h => kt h H locs ls hR hS hl) (fun h => kf h H locs ls hR hS hl)
theorem v_icmp_eq {ad : Nat → Nat} {cy : Nat → ClassId} {x : KX} {o : KO} {cc : ByteArray} {own : String} {nL d pc : Nat} {ret : Option FieldType} {L : List (Nat × Value)} {rest : List Value} {M : KM} {a b : Int32} {off : Int} (tgt : Nat) (G : KG ad cy x cc own nL ret d) (hd : decode cc pc = .ok (.if_icmp .eq off, 3)) (ht : (pc : Int) + off = (tgt : Int)) (kt : a = b → KV ad cy x o (tgt) L (rest) M) (kf : ¬ a = b → KV ad cy x o (pc + 3) L (rest) M) : KV ad cy x o (pc) L (.int b :: .int a :: rest) M := by
  obtain ⟨p, l, e, R, s, m, args, below, meth, c, D, z, n⟩ := x
  obtain ⟨hx, hb, hml, hn, hown, hr, hlk, hts, hK, hA, hf, hlo, hz⟩ := G
  intro H locs ls hR hS hl
  exact lv_icmp_eq hx hb hd ht (fun h => kt h H locs ls hR hS hl) (fun h => kf h H locs ls hR hS hl)
theorem v_icmp_ne {ad : Nat → Nat} {cy : Nat → ClassId} {x : KX} {o : KO} {cc : ByteArray} {own : String} {nL d pc : Nat} {ret : Option FieldType} {L : List (Nat × Value)} {rest : List Value} {M : KM} {a b : Int32} {off : Int} (tgt : Nat) (G : KG ad cy x cc own nL ret d) (hd : decode cc pc = .ok (.if_icmp .ne off, 3)) (ht : (pc : Int) + off = (tgt : Int)) (kt : ¬ a = b → KV ad cy x o (tgt) L (rest) M) (kf : a = b → KV ad cy x o (pc + 3) L (rest) M) : KV ad cy x o (pc) L (.int b :: .int a :: rest) M := by
  obtain ⟨p, l, e, R, s, m, args, below, meth, c, D, z, n⟩ := x
  obtain ⟨hx, hb, hml, hn, hown, hr, hlk, hts, hK, hA, hf, hlo, hz⟩ := G
  intro H locs ls hR hS hl
  exact lv_icmp_ne hx hb hd ht (fun h => kt h H locs ls hR hS hl) (fun h => kf h H locs ls hR hS hl)
theorem v_icmp_lt {ad : Nat → Nat} {cy : Nat → ClassId} {x : KX} {o : KO} {cc : ByteArray} {own : String} {nL d pc : Nat} {ret : Option FieldType} {L : List (Nat × Value)} {rest : List Value} {M : KM} {a b : Int32} {off : Int} (tgt : Nat) (G : KG ad cy x cc own nL ret d) (hd : decode cc pc = .ok (.if_icmp .lt off, 3)) (ht : (pc : Int) + off = (tgt : Int)) (kt : a < b → KV ad cy x o (tgt) L (rest) M) (kf : ¬ a < b → KV ad cy x o (pc + 3) L (rest) M) : KV ad cy x o (pc) L (.int b :: .int a :: rest) M := by
  obtain ⟨p, l, e, R, s, m, args, below, meth, c, D, z, n⟩ := x
  obtain ⟨hx, hb, hml, hn, hown, hr, hlk, hts, hK, hA, hf, hlo, hz⟩ := G
  intro H locs ls hR hS hl
  exact lv_icmp_lt hx hb hd ht (fun h => kt h H locs ls hR hS hl) (fun h => kf h H locs ls hR hS hl)
theorem v_icmp_ge {ad : Nat → Nat} {cy : Nat → ClassId} {x : KX} {o : KO} {cc : ByteArray} {own : String} {nL d pc : Nat} {ret : Option FieldType} {L : List (Nat × Value)} {rest : List Value} {M : KM} {a b : Int32} {off : Int} (tgt : Nat) (G : KG ad cy x cc own nL ret d) (hd : decode cc pc = .ok (.if_icmp .ge off, 3)) (ht : (pc : Int) + off = (tgt : Int)) (kt : b ≤ a → KV ad cy x o (tgt) L (rest) M) (kf : ¬ b ≤ a → KV ad cy x o (pc + 3) L (rest) M) : KV ad cy x o (pc) L (.int b :: .int a :: rest) M := by
  obtain ⟨p, l, e, R, s, m, args, below, meth, c, D, z, n⟩ := x
  obtain ⟨hx, hb, hml, hn, hown, hr, hlk, hts, hK, hA, hf, hlo, hz⟩ := G
  intro H locs ls hR hS hl
  exact lv_icmp_ge hx hb hd ht (fun h => kt h H locs ls hR hS hl) (fun h => kf h H locs ls hR hS hl)
theorem v_icmp_gt {ad : Nat → Nat} {cy : Nat → ClassId} {x : KX} {o : KO} {cc : ByteArray} {own : String} {nL d pc : Nat} {ret : Option FieldType} {L : List (Nat × Value)} {rest : List Value} {M : KM} {a b : Int32} {off : Int} (tgt : Nat) (G : KG ad cy x cc own nL ret d) (hd : decode cc pc = .ok (.if_icmp .gt off, 3)) (ht : (pc : Int) + off = (tgt : Int)) (kt : b < a → KV ad cy x o (tgt) L (rest) M) (kf : ¬ b < a → KV ad cy x o (pc + 3) L (rest) M) : KV ad cy x o (pc) L (.int b :: .int a :: rest) M := by
  obtain ⟨p, l, e, R, s, m, args, below, meth, c, D, z, n⟩ := x
  obtain ⟨hx, hb, hml, hn, hown, hr, hlk, hts, hK, hA, hf, hlo, hz⟩ := G
  intro H locs ls hR hS hl
  exact lv_icmp_gt hx hb hd ht (fun h => kt h H locs ls hR hS hl) (fun h => kf h H locs ls hR hS hl)
theorem v_icmp_le {ad : Nat → Nat} {cy : Nat → ClassId} {x : KX} {o : KO} {cc : ByteArray} {own : String} {nL d pc : Nat} {ret : Option FieldType} {L : List (Nat × Value)} {rest : List Value} {M : KM} {a b : Int32} {off : Int} (tgt : Nat) (G : KG ad cy x cc own nL ret d) (hd : decode cc pc = .ok (.if_icmp .le off, 3)) (ht : (pc : Int) + off = (tgt : Int)) (kt : a ≤ b → KV ad cy x o (tgt) L (rest) M) (kf : ¬ a ≤ b → KV ad cy x o (pc + 3) L (rest) M) : KV ad cy x o (pc) L (.int b :: .int a :: rest) M := by
  obtain ⟨p, l, e, R, s, m, args, below, meth, c, D, z, n⟩ := x
  obtain ⟨hx, hb, hml, hn, hown, hr, hlk, hts, hK, hA, hf, hlo, hz⟩ := G
  intro H locs ls hR hS hl
  exact lv_icmp_le hx hb hd ht (fun h => kt h H locs ls hR hS hl) (fun h => kf h H locs ls hR hS hl)
theorem v_goto {ad : Nat → Nat} {cy : Nat → ClassId} {x : KX} {o : KO} {cc : ByteArray} {own : String} {nL d pc : Nat} {ret : Option FieldType} {L : List (Nat × Value)} {rest : List Value} {M : KM} {off : Int} (tgt : Nat) (G : KG ad cy x cc own nL ret d) (hd : decode cc pc = .ok (.goto off, 3)) (ht : (pc : Int) + off = (tgt : Int)) (k : KV ad cy x o (tgt) L (rest) M) : KV ad cy x o (pc) L (rest) M := by
  obtain ⟨p, l, e, R, s, m, args, below, meth, c, D, z, n⟩ := x
  obtain ⟨hx, hb, hml, hn, hown, hr, hlk, hts, hK, hA, hf, hlo, hz⟩ := G
  intro H locs ls hR hS hl
  exact lv_goto hx hb hd ht (k H locs ls hR hS hl)
theorem v_tabOut {ad : Nat → Nat} {cy : Nat → ClassId} {x : KX} {o : KO} {cc : ByteArray} {own : String} {nL d pc : Nat} {ret : Option FieldType} {L : List (Nat × Value)} {rest : List Value} {M : KM} {dflt lo hi : Int} {offs : Array Int} {len : Nat} {a : Int32} (tgt : Nat) (G : KG ad cy x cc own nL ret d) (hd : decode cc pc = .ok (.tableswitch dflt lo hi offs, len)) (h : a.toInt < lo ∨ hi < a.toInt) (ht : (pc : Int) + dflt = (tgt : Int)) (k : KV ad cy x o (tgt) L (rest) M) : KV ad cy x o (pc) L (.int a :: rest) M := by
  obtain ⟨p, l, e, R, s, m, args, below, meth, c, D, z, n⟩ := x
  obtain ⟨hx, hb, hml, hn, hown, hr, hlk, hts, hK, hA, hf, hlo, hz⟩ := G
  intro H locs ls hR hS hl
  exact lv_tableOut hx hb hd h ht (k H locs ls hR hS hl)
theorem v_tabIn {ad : Nat → Nat} {cy : Nat → ClassId} {x : KX} {o : KO} {cc : ByteArray} {own : String} {nL d pc : Nat} {ret : Option FieldType} {L : List (Nat × Value)} {rest : List Value} {M : KM} {dflt lo hi : Int} {offs : Array Int} {len : Nat} {a : Int32} {off : Int} (tgt : Nat) (G : KG ad cy x cc own nL ret d) (hd : decode cc pc = .ok (.tableswitch dflt lo hi offs, len)) (h1 : ¬ a.toInt < lo) (h2 : ¬ hi < a.toInt) (ho : offs[(a.toInt - lo).toNat]? = some off) (ht : (pc : Int) + off = (tgt : Int)) (k : KV ad cy x o (tgt) L (rest) M) : KV ad cy x o (pc) L (.int a :: rest) M := by
  obtain ⟨p, l, e, R, s, m, args, below, meth, c, D, z, n⟩ := x
  obtain ⟨hx, hb, hml, hn, hown, hr, hlk, hts, hK, hA, hf, hlo, hz⟩ := G
  intro H locs ls hR hS hl
  exact lv_tableIn hx hb hd h1 h2 ho ht (k H locs ls hR hS hl)
theorem v_iret {ad : Nat → Nat} {cy : Nat → ClassId} {x : KX} {o : KO} {cc : ByteArray} {own : String} {nL d pc : Nat} {ret : Option FieldType} {L : List (Nat × Value)} {rest : List Value} {M : KM} {v : Int32} (G : KG ad cy x cc own nL (some .int) d) (hd : decode cc pc = .ok (.ireturn, 1)) : KV ad cy x (some (.int v), M) (pc) L ([.int v]) M := by
  obtain ⟨p, l, e, R, s, m, args, below, meth, c, D, z, n⟩ := x
  obtain ⟨hx, hb, hml, hn, hown, hr, hlk, hts, hK, hA, hf, hlo, hz⟩ := G
  intro H locs ls hR hS hl
  exact W.iret hx hb hr (fun t ht hW => ⟨rfl, by rw [ht]; exact hR, hS.F ht⟩) hS.2.2 hd hlk
theorem v_zret {ad : Nat → Nat} {cy : Nat → ClassId} {x : KX} {o : KO} {cc : ByteArray} {own : String} {nL d pc : Nat} {ret : Option FieldType} {L : List (Nat × Value)} {rest : List Value} {M : KM} {v : Int32} (G : KG ad cy x cc own nL (some .boolean) d) (hv : v = 0 ∨ v = 1) (hd : decode cc pc = .ok (.ireturn, 1)) : KV ad cy x (some (.int v), M) (pc) L ([.int v]) M := by
  obtain ⟨p, l, e, R, s, m, args, below, meth, c, D, z, n⟩ := x
  obtain ⟨hx, hb, hml, hn, hown, hr, hlk, hts, hK, hA, hf, hlo, hz⟩ := G
  intro H locs ls hR hS hl
  exact W.zret hx hb hr (by rcases hv with rfl | rfl <;> rfl) (fun t ht hW => ⟨rfl, by rw [ht]; exact hR, hS.F ht⟩) hS.2.2 hd hlk
theorem v_lret {ad : Nat → Nat} {cy : Nat → ClassId} {x : KX} {o : KO} {cc : ByteArray} {own : String} {nL d pc : Nat} {ret : Option FieldType} {L : List (Nat × Value)} {rest : List Value} {M : KM} {v : Int64} (G : KG ad cy x cc own nL (some .long) d) (hd : decode cc pc = .ok (.lreturn, 1)) : KV ad cy x (some (.long v), M) (pc) L ([.long v]) M := by
  obtain ⟨p, l, e, R, s, m, args, below, meth, c, D, z, n⟩ := x
  obtain ⟨hx, hb, hml, hn, hown, hr, hlk, hts, hK, hA, hf, hlo, hz⟩ := G
  intro H locs ls hR hS hl
  exact W.lret hx hb hr (fun t ht hW => ⟨rfl, by rw [ht]; exact hR, hS.F ht⟩) hS.2.2 hd hlk
theorem v_vret {ad : Nat → Nat} {cy : Nat → ClassId} {x : KX} {o : KO} {cc : ByteArray} {own : String} {nL d pc : Nat} {ret : Option FieldType} {L : List (Nat × Value)} {rest : List Value} {M : KM} (G : KG ad cy x cc own nL none d) (hd : decode cc pc = .ok (.return_, 1)) : KV ad cy x (none, M) (pc) L ([]) M := by
  obtain ⟨p, l, e, R, s, m, args, below, meth, c, D, z, n⟩ := x
  obtain ⟨hx, hb, hml, hn, hown, hr, hlk, hts, hK, hA, hf, hlo, hz⟩ := G
  intro H locs ls hR hS hl
  exact W.vret hx hb hr (fun t ht hW => ⟨rfl, by rw [ht]; exact hR, hS.F ht⟩) hS.2.2 hd hlk
theorem v_get {ad : Nat → Nat} {cy : Nat → ClassId} {x : KX} {o : KO} {cc : ByteArray} {own : String} {nL d pc : Nat} {ret : Option FieldType} {L : List (Nat × Value)} {rest : List Value} {M : KM} {a ci idx N t : Nat} {ref C : String} {T : u_T} {fs : List Value} {v : Value} (G : KG ad cy x cc own nL ret d) (ht : kty a = t) (h0 : t ≠ 0) (hk : kc ad cy t a (M.1 a) (M.2.1 a) (M.2.2 a) = .inr (ci, fs)) (hc : vwCl[ci]? = some (C, T, N)) (k : Nat) (hkN : k < N) (hin : ∀ w ∈ u_ws C T N, w ∈ tb) (hlink : Cond.fieldLink own idx ref (T k).2.1 (T k).2.2.1 ∈ tb) (hsame : ref = (T k).1 ∨ Cond.sameField ref (T k).1 (T k).2.1 (T k).2.2.1 ∈ tb) (hv : fs[k]? = some v) (hd : decode cc pc = .ok (.getfield idx, 3)) (kk : KV ad cy x o (pc + 3) L (v :: rest) M) : KV ad cy x o (pc) L (.ref (ad a) :: rest) M := by
  obtain ⟨p, l, e, R, s, m, args, below, meth, c, D, z, n⟩ := x
  obtain ⟨hx, hb, hml, hn, hown, hr, hlk, hts, hK, hA, hf, hlo, hz⟩ := G
  intro H locs ls hR hS hl
  subst ht
  refine va_get (q0 := a) hx hb hts hin hown hK hR.1 ?_ hc k hkN (hts _ hlink) (fun y hy => ?_) hv hd (kk H locs ls hR hS hl)
  · rw [kws_at (kty_lt rfl h0), hk]
  · rcases hsame with h | h
    · rw [h]; exact hy
    · exact u_same (hts _ h) y hy
theorem v_put {ad : Nat → Nat} {cy : Nat → ClassId} {x : KX} {o : KO} {cc : ByteArray} {own : String} {nL d pc : Nat} {ret : Option FieldType} {L : List (Nat × Value)} {rest : List Value} {M : KM} {a ci idx N t : Nat} {ref C : String} {T : u_T} {ty0 : Nat → FieldType} {fs : List Value} {v : Value} (M2 : KM) (G : KG ad cy x cc own nL ret d) (ht : kty a = t) (h0 : t ≠ 0) (hk : kc ad cy t a (M.1 a) (M.2.1 a) (M.2.2 a) = .inr (ci, fs)) (hc : vwCl[ci]? = some (C, T, N)) (k : Nat) (hkN : k < N) (hin : ∀ w ∈ u_ws C T N, w ∈ tb) (hty : ∀ k, k < N → parseFieldDescriptor (T k).2.2.1 = some (ty0 k)) (hnm : ∀ a, a < N → ∀ b, b < N → a ≠ b → (T a).2.1 ≠ (T b).2.1) (hlink : Cond.fieldLink own idx ref (T k).2.1 (T k).2.2.1 ∈ tb) (hsame : ref = (T k).1 ∨ Cond.sameField ref (T k).1 (T k).2.1 (T k).2.2.1 ∈ tb) (hfin : (T k).2.2.2 = false) (hnar : narrow (ty0 k) v = v) (hfit : fits (ty0 k) v = true) (hlen : k < fs.length)
    (hne : ∀ b, b ≠ a → M2.1 b = M.1 b ∧ M2.2.1 b = M.2.1 b ∧ M2.2.2 b = M.2.2 b) (hk2 : kc ad cy t a (M2.1 a) (M2.2.1 a) (M2.2.2 a) = .inr (ci, fs.set k v)) (hKT : KT M.2.2 → KT M2.2.2) (hd : decode cc pc = .ok (.putfield idx, 3)) (kk : KV ad cy x o (pc + 3) L (rest) M2) : KV ad cy x o (pc) L (v :: .ref (ad a) :: rest) M := by
  obtain ⟨p, l, e, R, s, m, args, below, meth, c, D, z, n⟩ := x
  obtain ⟨hx, hb, hml, hn, hown, hr, hlk, hts, hK, hA, hf, hlo, hz⟩ := G
  intro H locs ls hR hS hl
  subst ht
  refine va_put (q0 := a) hx hb hts hin ty0 hty hnm hown hK hR.1 (kws_D hA) hS (by rw [kws_at (kty_lt rfl h0), hk]) hc k hkN (hts _ hlink) (fun y hy => ?_) hfin (hty k hkN) hnar hfit hlen hd (fun H1 locs1 hP hD hS1 => kk H1 locs1 ls ⟨?_, hKT hR.2⟩ hS1 hl)
  · rcases hsame with h | h
    · rw [h]; exact hy
    · exact u_same (hts _ h) y hy
  · rw [kws_upd hne hk2] at hP
    exact hP
theorem uI_ne {M : KM} {a k : Nat} {v : Int32} : ∀ b, b ≠ a → (uI M a k v).1 b = M.1 b ∧ (uI M a k v).2.1 b = M.2.1 b ∧ (uI M a k v).2.2 b = M.2.2 b := fun b h => ⟨by simp [uI, h], rfl, rfl⟩
theorem uJ_ne {M : KM} {a k : Nat} {v : Int64} : ∀ b, b ≠ a → (uJ M a k v).1 b = M.1 b ∧ (uJ M a k v).2.1 b = M.2.1 b ∧ (uJ M a k v).2.2 b = M.2.2 b := fun b h => ⟨rfl, by simp [uJ, h], rfl⟩
theorem uR_ne {M : KM} {a k v : Nat} : ∀ b, b ≠ a → (uR M a k v).1 b = M.1 b ∧ (uR M a k v).2.1 b = M.2.1 b ∧ (uR M a k v).2.2 b = M.2.2 b := fun b h => ⟨rfl, rfl, by funext q; simp [uR, h]⟩
theorem uIs_ne {M : KM} {a : Nat} {f : Nat → Int32} : ∀ b, b ≠ a → (uIs M a f).1 b = M.1 b ∧ (uIs M a f).2.1 b = M.2.1 b ∧ (uIs M a f).2.2 b = M.2.2 b := fun b h => ⟨by simp [uIs, h], rfl, rfl⟩
theorem uJs_ne {M : KM} {a : Nat} {f : Nat → Int64} : ∀ b, b ≠ a → (uJs M a f).1 b = M.1 b ∧ (uJs M a f).2.1 b = M.2.1 b ∧ (uJs M a f).2.2 b = M.2.2 b := fun b h => ⟨rfl, by simp [uJs, h], rfl⟩
theorem uI_at {M : KM} {a k : Nat} {v : Int32} : (uI M a k v).1 a = upd (M.1 a) k v := by simp [uI]
theorem uJ_at {M : KM} {a k : Nat} {v : Int64} : (uJ M a k v).2.1 a = vp_updL (M.2.1 a) k v := by simp [uJ]
theorem uR_at {M : KM} {a k v : Nat} : (uR M a k v).2.2 a = fun q => if q = k then v else M.2.2 a q := by funext q; simp [uR]
theorem uIs_at {M : KM} {a : Nat} {f : Nat → Int32} : (uIs M a f).1 a = f := by simp [uIs]
theorem uJs_at {M : KM} {a : Nat} {f : Nat → Int64} : (uJs M a f).2.1 a = f := by simp [uJs]
/-- an index in a row of n places -/
def ix (i : Int32) (n : Nat) : Prop := ¬ (i < 0 ∨ n ≤ i.toNatClampNeg)
theorem v_iald {ad : Nat → Nat} {cy : Nat → ClassId} {x : KX} {o : KO} {cc : ByteArray} {own : String} {nL d pc : Nat} {ret : Option FieldType} {L : List (Nat × Value)} {rest : List Value} {M : KM} {a t n : Nat} {i : Int32} (G : KG ad cy x cc own nL ret d) (ht : kty a = t) (h0 : t ≠ 0) (hk : kc ad cy t a (M.1 a) (M.2.1 a) (M.2.2 a) = .inl (cy 1, n, .inl (M.1 a))) (hin : ix i n) (hd : decode cc pc = .ok (.iaload, 1)) (kk : KV ad cy x o (pc + 1) L (.int ((M.1 a) i.toNatClampNeg) :: rest) M) : KV ad cy x o (pc) L (.int i :: .ref (ad a) :: rest) M := by
  obtain ⟨p, l, e, R, s, m, args, below, meth, c, D, z, n⟩ := x
  obtain ⟨hx, hb, hml, hn, hown, hr, hlk, hts, hK, hA, hf, hlo, hz⟩ := G
  intro H locs ls hR hS hl
  subst ht
  exact va_iald hx hb hK hR.1 a 1 (by rw [kws_at (kty_lt rfl h0), hk]) rfl hin hd (kk H locs ls hR hS hl)
theorem v_bald {ad : Nat → Nat} {cy : Nat → ClassId} {x : KX} {o : KO} {cc : ByteArray} {own : String} {nL d pc : Nat} {ret : Option FieldType} {L : List (Nat × Value)} {rest : List Value} {M : KM} {a t n : Nat} {i : Int32} (G : KG ad cy x cc own nL ret d) (ht : kty a = t) (h0 : t ≠ 0) (hk : kc ad cy t a (M.1 a) (M.2.1 a) (M.2.2 a) = .inl (cy 0, n, .inl (M.1 a))) (hin : ix i n) (hd : decode cc pc = .ok (.baload, 1)) (kk : KV ad cy x o (pc + 1) L (.int ((M.1 a) i.toNatClampNeg) :: rest) M) : KV ad cy x o (pc) L (.int i :: .ref (ad a) :: rest) M := by
  obtain ⟨p, l, e, R, s, m, args, below, meth, c, D, z, n⟩ := x
  obtain ⟨hx, hb, hml, hn, hown, hr, hlk, hts, hK, hA, hf, hlo, hz⟩ := G
  intro H locs ls hR hS hl
  subst ht
  exact va_bald hx hb hK hR.1 a 0 (by rw [kws_at (kty_lt rfl h0), hk]) rfl hin hd (kk H locs ls hR hS hl)
theorem v_zald {ad : Nat → Nat} {cy : Nat → ClassId} {x : KX} {o : KO} {cc : ByteArray} {own : String} {nL d pc : Nat} {ret : Option FieldType} {L : List (Nat × Value)} {rest : List Value} {M : KM} {a t n : Nat} {i : Int32} (G : KG ad cy x cc own nL ret d) (ht : kty a = t) (h0 : t ≠ 0) (hk : kc ad cy t a (M.1 a) (M.2.1 a) (M.2.2 a) = .inl (cy 3, n, .inl (M.1 a))) (hin : ix i n) (hd : decode cc pc = .ok (.baload, 1)) (kk : KV ad cy x o (pc + 1) L (.int ((M.1 a) i.toNatClampNeg) :: rest) M) : KV ad cy x o (pc) L (.int i :: .ref (ad a) :: rest) M := by
  obtain ⟨p, l, e, R, s, m, args, below, meth, c, D, z, n⟩ := x
  obtain ⟨hx, hb, hml, hn, hown, hr, hlk, hts, hK, hA, hf, hlo, hz⟩ := G
  intro H locs ls hR hS hl
  subst ht
  exact va_zald hx hb hK hR.1 a 3 (by rw [kws_at (kty_lt rfl h0), hk]) rfl hin hd (kk H locs ls hR hS hl)
theorem v_lald {ad : Nat → Nat} {cy : Nat → ClassId} {x : KX} {o : KO} {cc : ByteArray} {own : String} {nL d pc : Nat} {ret : Option FieldType} {L : List (Nat × Value)} {rest : List Value} {M : KM} {a t n : Nat} {i : Int32} (G : KG ad cy x cc own nL ret d) (ht : kty a = t) (h0 : t ≠ 0) (hk : kc ad cy t a (M.1 a) (M.2.1 a) (M.2.2 a) = .inl (cy 2, n, .inr (.inl (M.2.1 a)))) (hin : ix i n) (hd : decode cc pc = .ok (.laload, 1)) (kk : KV ad cy x o (pc + 1) L (.long ((M.2.1 a) i.toNatClampNeg) :: rest) M) : KV ad cy x o (pc) L (.int i :: .ref (ad a) :: rest) M := by
  obtain ⟨p, l, e, R, s, m, args, below, meth, c, D, z, n⟩ := x
  obtain ⟨hx, hb, hml, hn, hown, hr, hlk, hts, hK, hA, hf, hlo, hz⟩ := G
  intro H locs ls hR hS hl
  subst ht
  exact va_lald hx hb hK hR.1 a 2 (by rw [kws_at (kty_lt rfl h0), hk]) rfl hin hd (kk H locs ls hR hS hl)
theorem v_aald {ad : Nat → Nat} {cy : Nat → ClassId} {x : KX} {o : KO} {cc : ByteArray} {own : String} {nL d pc : Nat} {ret : Option FieldType} {L : List (Nat × Value)} {rest : List Value} {M : KM} {a t n t0 : Nat} {C : String} {f : Nat → Nat} {i : Int32} (G : KG ad cy x cc own nL ret d) (ht : kty a = t) (h0 : t ≠ 0) (hk : kc ad cy t a (M.1 a) (M.2.1 a) (M.2.2 a) = .inl (cy t0, n, .inr (.inr (.inr (.inr fun q => some (ad (f q))))))) (hT : (ktys cy)[t0]? = some (cy t0, .object C)) (hin : ix i n) (hd : decode cc pc = .ok (.aaload, 1)) (kk : KV ad cy x o (pc + 1) L (.ref (ad (f i.toNatClampNeg)) :: rest) M) : KV ad cy x o (pc) L (.int i :: .ref (ad a) :: rest) M := by
  obtain ⟨p, l, e, R, s, m, args, below, meth, c, D, z, n⟩ := x
  obtain ⟨hx, hb, hml, hn, hown, hr, hlk, hts, hK, hA, hf, hlo, hz⟩ := G
  intro H locs ls hR hS hl
  subst ht
  exact va_aldq (f := fun q => some (ad (f q))) hx hb hK hR.1 a t0 (by rw [kws_at (kty_lt rfl h0), hk]) hT hin hd (kk H locs ls hR hS hl)
theorem v_iast {ad : Nat → Nat} {cy : Nat → ClassId} {x : KX} {o : KO} {cc : ByteArray} {own : String} {nL d pc : Nat} {ret : Option FieldType} {L : List (Nat × Value)} {rest : List Value} {M : KM} {a t n : Nat} {i : Int32} {v : Int32} (G : KG ad cy x cc own nL ret d) (ht : kty a = t) (h0 : t ≠ 0) (hk : kc ad cy t a (M.1 a) (M.2.1 a) (M.2.2 a) = .inl (cy 1, n, .inl (M.1 a))) (hk2 : kc ad cy t a ((uI M a i.toNatClampNeg v).1 a) ((uI M a i.toNatClampNeg v).2.1 a) ((uI M a i.toNatClampNeg v).2.2 a) = .inl (cy 1, n, .inl (upd (M.1 a) i.toNatClampNeg v))) (hin : ix i n) (hd : decode cc pc = .ok (.iastore, 1)) (kk : KV ad cy x o (pc + 1) L (rest) (uI M a i.toNatClampNeg v)) : KV ad cy x o (pc) L (.int v :: .int i :: .ref (ad a) :: rest) M := by
  obtain ⟨p, l, e, R, s, m, args, below, meth, c, D, z, n⟩ := x
  obtain ⟨hx, hb, hml, hn, hown, hr, hlk, hts, hK, hA, hf, hlo, hz⟩ := G
  intro H locs ls hR hS hl
  subst ht
  refine va_iast hx hb hK hR.1 (kws_D hA) hS a 1 (by rw [kws_at (kty_lt rfl h0), hk]) rfl hin hd (fun H1 locs1 hP hD hS1 => kk H1 locs1 ls ⟨?_, hR.2⟩ hS1 hl)
  rw [kws_upd uI_ne hk2] at hP
  exact hP
theorem v_bast {ad : Nat → Nat} {cy : Nat → ClassId} {x : KX} {o : KO} {cc : ByteArray} {own : String} {nL d pc : Nat} {ret : Option FieldType} {L : List (Nat × Value)} {rest : List Value} {M : KM} {a t n : Nat} {i : Int32} {v : Int32} (G : KG ad cy x cc own nL ret d) (ht : kty a = t) (h0 : t ≠ 0) (hk : kc ad cy t a (M.1 a) (M.2.1 a) (M.2.2 a) = .inl (cy 0, n, .inl (M.1 a))) (hk2 : kc ad cy t a ((uI M a i.toNatClampNeg (vp_nar .byte v)).1 a) ((uI M a i.toNatClampNeg (vp_nar .byte v)).2.1 a) ((uI M a i.toNatClampNeg (vp_nar .byte v)).2.2 a) = .inl (cy 0, n, .inl (upd (M.1 a) i.toNatClampNeg (vp_nar .byte v)))) (hin : ix i n) (hd : decode cc pc = .ok (.bastore, 1)) (kk : KV ad cy x o (pc + 1) L (rest) (uI M a i.toNatClampNeg (vp_nar .byte v))) : KV ad cy x o (pc) L (.int v :: .int i :: .ref (ad a) :: rest) M := by
  obtain ⟨p, l, e, R, s, m, args, below, meth, c, D, z, n⟩ := x
  obtain ⟨hx, hb, hml, hn, hown, hr, hlk, hts, hK, hA, hf, hlo, hz⟩ := G
  intro H locs ls hR hS hl
  subst ht
  refine va_bast hx hb hK hR.1 (kws_D hA) hS a 0 (by rw [kws_at (kty_lt rfl h0), hk]) rfl hin hd (fun H1 locs1 hP hD hS1 => kk H1 locs1 ls ⟨?_, hR.2⟩ hS1 hl)
  rw [kws_upd uI_ne hk2] at hP
  exact hP
theorem v_zast {ad : Nat → Nat} {cy : Nat → ClassId} {x : KX} {o : KO} {cc : ByteArray} {own : String} {nL d pc : Nat} {ret : Option FieldType} {L : List (Nat × Value)} {rest : List Value} {M : KM} {a t n : Nat} {i : Int32} {v : Int32} (G : KG ad cy x cc own nL ret d) (ht : kty a = t) (h0 : t ≠ 0) (hk : kc ad cy t a (M.1 a) (M.2.1 a) (M.2.2 a) = .inl (cy 3, n, .inl (M.1 a))) (hk2 : kc ad cy t a ((uI M a i.toNatClampNeg (vp_nar .boolean v)).1 a) ((uI M a i.toNatClampNeg (vp_nar .boolean v)).2.1 a) ((uI M a i.toNatClampNeg (vp_nar .boolean v)).2.2 a) = .inl (cy 3, n, .inl (upd (M.1 a) i.toNatClampNeg (vp_nar .boolean v)))) (hin : ix i n) (hd : decode cc pc = .ok (.bastore, 1)) (kk : KV ad cy x o (pc + 1) L (rest) (uI M a i.toNatClampNeg (vp_nar .boolean v))) : KV ad cy x o (pc) L (.int v :: .int i :: .ref (ad a) :: rest) M := by
  obtain ⟨p, l, e, R, s, m, args, below, meth, c, D, z, n⟩ := x
  obtain ⟨hx, hb, hml, hn, hown, hr, hlk, hts, hK, hA, hf, hlo, hz⟩ := G
  intro H locs ls hR hS hl
  subst ht
  refine va_zast hx hb hK hR.1 (kws_D hA) hS a 3 (by rw [kws_at (kty_lt rfl h0), hk]) rfl hin hd (fun H1 locs1 hP hD hS1 => kk H1 locs1 ls ⟨?_, hR.2⟩ hS1 hl)
  rw [kws_upd uI_ne hk2] at hP
  exact hP
theorem v_last {ad : Nat → Nat} {cy : Nat → ClassId} {x : KX} {o : KO} {cc : ByteArray} {own : String} {nL d pc : Nat} {ret : Option FieldType} {L : List (Nat × Value)} {rest : List Value} {M : KM} {a t n : Nat} {i : Int32} {v : Int64} (G : KG ad cy x cc own nL ret d) (ht : kty a = t) (h0 : t ≠ 0) (hk : kc ad cy t a (M.1 a) (M.2.1 a) (M.2.2 a) = .inl (cy 2, n, .inr (.inl (M.2.1 a)))) (hk2 : kc ad cy t a ((uJ M a i.toNatClampNeg v).1 a) ((uJ M a i.toNatClampNeg v).2.1 a) ((uJ M a i.toNatClampNeg v).2.2 a) = .inl (cy 2, n, .inr (.inl (vp_updL (M.2.1 a) i.toNatClampNeg v)))) (hin : ix i n) (hd : decode cc pc = .ok (.lastore, 1)) (kk : KV ad cy x o (pc + 1) L (rest) (uJ M a i.toNatClampNeg v)) : KV ad cy x o (pc) L (.long v :: .int i :: .ref (ad a) :: rest) M := by
  obtain ⟨p, l, e, R, s, m, args, below, meth, c, D, z, n⟩ := x
  obtain ⟨hx, hb, hml, hn, hown, hr, hlk, hts, hK, hA, hf, hlo, hz⟩ := G
  intro H locs ls hR hS hl
  subst ht
  refine va_last hx hb hK hR.1 (kws_D hA) hS a 2 (by rw [kws_at (kty_lt rfl h0), hk]) rfl hin hd (fun H1 locs1 hP hD hS1 => kk H1 locs1 ls ⟨?_, hR.2⟩ hS1 hl)
  rw [kws_upd uJ_ne hk2] at hP
  exact hP
theorem v_alen {ad : Nat → Nat} {cy : Nat → ClassId} {x : KX} {o : KO} {cc : ByteArray} {own : String} {nL d pc : Nat} {ret : Option FieldType} {L : List (Nat × Value)} {rest : List Value} {M : KM} {a t : Nat} {cA : ClassId} {q : vp_A} {t0 : Nat} {ty : FieldType} {v : Int32} (G : KG ad cy x cc own nL ret d) (ht : kty a = t) (h0 : t ≠ 0) (hk : kc ad cy t a (M.1 a) (M.2.1 a) (M.2.2 a) = .inl (cA, q)) (hT : (ktys cy)[t0]? = some (cA, ty)) (hv : Int32.ofNat q.1 = v) (hd : decode cc pc = .ok (.arraylength, 1)) (kk : KV ad cy x o (pc + 1) L (.int v :: rest) M) : KV ad cy x o (pc) L (.ref (ad a) :: rest) M := by
  obtain ⟨p, l, e, R, s, m, args, below, meth, c, D, z, n⟩ := x
  obtain ⟨hx, hb, hml, hn, hown, hr, hlk, hts, hK, hA, hf, hlo, hz⟩ := G
  intro H locs ls hR hS hl
  subst ht
  exact va_alen hx hb hK hR.1 a t0 (by rw [kws_at (kty_lt rfl h0), hk]) hT hv hd (kk H locs ls hR hS hl)
abbrev KXl (x : KX) : Launch := x.2.1
abbrev KXD (x : KX) : va_G := x.2.2.2.2.2.2.2.2.2.2.1
abbrev KXz (x : KX) : Nat := x.2.2.2.2.2.2.2.2.2.2.2.1
theorem tb_g {c : Cond} (h : c ∈ tb) : c ∈ tb ∧ ((c.onTables && c.keeps) = true ∨ ∃ ty, c = .arrayClass ty) := ⟨h, good_of_word (List.mem_filter.mp h).2⟩
theorem kv_run {ad : Nat → Nat} {cy : Nat → ClassId} {p : Program} {l : Launch} {e : Env} {R : Room} {s : State} {m : MethodId} {args : Array Value} {below : List Frame} {meth : Method} {c : Code} {D : va_G} {z n : Nat} {o o2 : KO} {pc : Nat} {L : List (Nat × Value)} {st rest : List Value} {H : Heap} {locs : List Loc} {ls : Array Slot} {av : Array Value} (hz : z ≤ s.heap.size)
    (hrun : va_Run p l e R s m args below meth c H locs 0 0 0 0 (F0 m pc ls st) rest (KQ ad cy D z o2 av) (fun q => z ≤ q)) (hS : va_S (fun q => z ≤ q) s.heap H locs) (hl : lv_has ls n L)
    (k : KV ad cy (p, l, e, R, s, m, args, below, meth, c, D, z, n) o (pc + 3) L (o2.1.toList ++ rest) o2.2) : W p l e R s m args below meth c H locs 0 0 (MQ below (KQ ad cy D z o) args s 0 0 (fun q => z ≤ q)) (F0 m pc ls st) := by
  intro T hT X
  obtain ⟨v, st₀, t, T', L1, h0, X', hL, e1, e2, ⟨hv, hR1, hz1, hk1⟩, stp⟩ := hrun T hT X
  cases hv
  rw [h0] at hz1 hk1
  obtain ⟨t2, a1, b1⟩ := k T'.heap (locs ++ L1) ls (by rw [e1]; exact hR1) ⟨Nat.le_trans hS.1 (by rw [e1]; exact hz1), fun q h1 h2 => by rw [e1, hk1 q (Nat.lt_of_lt_of_le h1 hS.1) h2]; exact hS.2.1 q h1 h2, fun q hq => by
      rcases List.mem_append.mp hq with h | h
      · exact hS.2.2 q h
      · exact hL q h⟩ hl T' rfl X'
  exact ⟨t2, stp t2 a1, b1⟩
theorem kc_blind {ad : Nat → Nat} {cy : Nat → ClassId} {D : va_G} {z : Nat} {av : List Value} {M : KM} : FrameBlind (va_Pc av (fun U => KR ad D cy M U.heap ∧ va_K D vwCl (ktys cy) U ∧ KA ad z ∧ z ≤ U.heap.size)) := fun a U g mk q => by
  obtain ⟨q0, q1, q2, q3⟩ := q
  exact ⟨q0, q1, va_K.moved (u := U) (U := U.calling g mk a) (Vm.Alike.refl U.vm) q2, q3⟩
theorem kc_at {ad : Nat → Nat} {cy : Nat → ClassId} {D : va_G} {z : Nat} {av : List Value} {M : KM} {s : State} {H : Heap} (hR : KR ad D cy M H) (hK : va_K D vwCl (ktys cy) s) (hA : KA ad z) (hz : z ≤ H.size) : ∀ U : State, U.heap = H → s.WarmedH U.vm → va_Pc av (fun U => KR ad D cy M U.heap ∧ va_K D vwCl (ktys cy) U ∧ KA ad z ∧ z ≤ U.heap.size) av.toArray U := fun U hU hW => ⟨rfl, by rw [hU]; exact hR, va_K.moved hW.alike hK, hA, by rw [hU]; exact hz⟩
theorem kc_recv {ad : Nat → Nat} {cy : Nat → ClassId} {D : va_G} {M : KM} {s : State} {H : Heap} {a t ci : Nat} {fs : List Value} {q : vw_C} (hR : KR ad D cy M H) (hK : va_K D vwCl (ktys cy) s) (ht : kty a = t) (h0 : t ≠ 0) (hk : kc ad cy t a (M.1 a) (M.2.1 a) (M.2.2 a) = .inr (ci, fs)) (hc : vwCl[ci]? = some q) : ∃ cell : Cell, H[ad a]? = some cell ∧ cell.vm.isStatics = false ∧ s.vm.findClass q.1 = some cell.cls := by
  subst ht
  exact va_recv hK hR.1 hc (q0 := a) (by rw [kws_at (kty_lt rfl h0), hk])

theorem v_callV {ad : Nat → Nat} {cy : Nat → ClassId} {x : KX} {o : KO} {cc : ByteArray} {own : String} {nL d pc : Nat} {ret : Option FieldType} {L : List (Nat × Value)} {rest : List Value} {M : KM} {y : MethodName} {bytes : ByteArray} {maxL nA idx d2 : Nat} {rt : Option FieldType} {st : List Value} {a t ci : Nat} {fs : List Value} {q : vw_C} {o2 : KO} (As : List Value) (G : KG ad cy x cc own nL ret d) (hct : KC (KXl x) ad cy (KXD x) (KXz x) y bytes maxL rt d2 (.ref (ad a) :: As) M o2) (ht : kty a = t) (h0 : t ≠ 0) (hk : kc ad cy t a (M.1 a) (M.2.1 a) (M.2.2 a) = .inr (ci, fs)) (hc : vwCl[ci]? = some q) (hC : y.cls = q.1) (w1 : Cond.methodLink own idx y ∈ tb) (w2 : Cond.instanceMethod y ∈ tb) (w3 : Cond.selects q.1 y y ∈ tb) (w4 : Cond.initialized q.1 ∈ tb) (w5 : Cond.code y bytes maxL rt ∈ tb) (hnm : y.cls ≠ "java/lang/invoke/MethodHandle" ∧ y.cls ≠ "java/lang/invoke/VarHandle" ∧ (parseMethodDescriptor y.desc).map (fun d => d.parameters.length) = some nA) (hd2 : d2 < d) (hm : maxL ≤ 41) (hst : st = As.reverse ++ .ref (ad a) :: rest) (hn2 : As.length = nA) (hrm : (rest.map fun v => v.category).sum ≤ 8) (hd : decode cc pc = .ok (.invokevirtual idx, 3)) (k : KV ad cy x o (pc + 3) L (o2.1.toList ++ rest) o2.2) : KV ad cy x o (pc) L (st) M := by
  obtain ⟨p, l, e, R, s, m, args, below, meth, c, D, z, n⟩ := x
  obtain ⟨hx, hb, hml, hn, hown, hr, hlk, hts, hK, hA, hf, hlo, hz⟩ := G
  subst hst
  intro H locs ls hR hS hl
  refine kv_run hz (va_runV (As := As) (rest := rest) ⟨hx, hb, hml, hown, hts⟩ hct (cwV nA hts (C := q.1) ?_ rfl rfl rfl ⟨hC, hnm⟩ ⟨?_, ?_⟩) ⟨kc_blind, kc_recv hR hK ht h0 hk hc, kc_at hR hK hA (Nat.le_trans hz hS.1)⟩ rfl hn2 (hl.1.trans hn) rfl (lv_room hrm) hd ⟨Nat.zero_le _, Nat.zero_le _⟩) hS hl k
  · intro w hw
    rcases List.mem_append.mp hw with h | h
    · simp only [List.mem_cons, List.not_mem_nil, or_false] at h
      rcases h with h | h | h | h <;> rw [h] <;> apply tb_g <;> assumption
    · exact tb_good w5 (fun _ h => h) w h
  · show d2 + 1 ≤ R.frames; omega
  · show 8 + (maxL + 11) + 60 * d2 ≤ R.locals; omega
theorem v_callS {ad : Nat → Nat} {cy : Nat → ClassId} {x : KX} {o : KO} {cc : ByteArray} {own : String} {nL d pc : Nat} {ret : Option FieldType} {L : List (Nat × Value)} {rest : List Value} {M : KM} {y : MethodName} {bytes : ByteArray} {maxL nA idx d2 : Nat} {rt : Option FieldType} {st : List Value} {o2 : KO} (As : List Value) (G : KG ad cy x cc own nL ret d) (hct : KC (KXl x) ad cy (KXD x) (KXz x) y bytes maxL rt d2 As M o2) (hC : y.cls = own) (w1 : Cond.methodLink own idx y ∈ tb) (w2 : Cond.static y ∈ tb) (w4 : Cond.initialized own ∈ tb) (w5 : Cond.code y bytes maxL rt ∈ tb) (hnm : y.cls ≠ "java/lang/invoke/MethodHandle" ∧ y.cls ≠ "java/lang/invoke/VarHandle" ∧ (parseMethodDescriptor y.desc).map (fun d => d.parameters.length) = some nA) (hd2 : d2 < d) (hm : maxL ≤ 41) (hst : st = As.reverse ++ rest) (hn2 : As.length = nA) (hrm : (rest.map fun v => v.category).sum ≤ 8) (hd : decode cc pc = .ok (.invokestatic idx, 3)) (k : KV ad cy x o (pc + 3) L (o2.1.toList ++ rest) o2.2) : KV ad cy x o (pc) L (st) M := by
  obtain ⟨p, l, e, R, s, m, args, below, meth, c, D, z, n⟩ := x
  obtain ⟨hx, hb, hml, hn, hown, hr, hlk, hts, hK, hA, hf, hlo, hz⟩ := G
  subst hst
  intro H locs ls hR hS hl
  refine kv_run hz (va_runS (As := As) (rest := rest) ⟨hx, hb, hml, hown, hts⟩ hct (cwS nA hts ?_ rfl rfl rfl ⟨hC, hnm⟩ ⟨?_, ?_⟩) ⟨kc_blind, kc_at hR hK hA (Nat.le_trans hz hS.1)⟩ rfl hn2 (hl.1.trans hn) rfl (lv_room hrm) hd ⟨Nat.zero_le _, Nat.zero_le _⟩) hS hl k
  · intro w hw
    rcases List.mem_append.mp hw with h | h
    · simp only [List.mem_cons, List.not_mem_nil, or_false] at h
      rcases h with h | h | h <;> rw [h] <;> apply tb_g <;> assumption
    · exact tb_good w5 (fun _ h => h) w h
  · show d2 + 1 ≤ R.frames; omega
  · show 8 + (maxL + 11) + 60 * d2 ≤ R.locals; omega
theorem v_mmax {ad : Nat → Nat} {cy : Nat → ClassId} {x : KX} {o : KO} {cc : ByteArray} {own : String} {nL d pc : Nat} {ret : Option FieldType} {L : List (Nat × Value)} {rest : List Value} {M : KM} {a b : Int32} {idx : Nat} (G : KG ad cy x cc own nL ret d) (h1 : 1 ≤ d) (w1 : Cond.methodLink own idx Lib.Math.max.name ∈ tb) (w2 : Cond.static Lib.Math.max.name ∈ tb) (w3 : Cond.initialized "java/lang/Math" ∈ tb) (w4 : Cond.code Lib.Math.max.name Lib.Math.max.code 2 (some .int) ∈ tb) (hrm : (rest.map fun v => v.category).sum ≤ 8) (hd : decode cc pc = .ok (.invokestatic idx, 3)) (k : KV ad cy x o (pc + 3) L (.int (if a < b then b else a) :: rest) M) : KV ad cy x o (pc) L (.int b :: .int a :: rest) M := by
  obtain ⟨p, l, e, R, s, m, args, below, meth, c, D, z, n⟩ := x
  obtain ⟨hx, hb, hml, hn, hown, hr, hlk, hts, hK, hA, hf, hlo, hz⟩ := G
  intro H locs ls hR hS hl
  exact va_mmax hx hb (by rw [hml, hl.1, hn]) hown (hts _ w1) (hts _ w2) (hts _ w3) (hts _ w4) (by omega) (by omega) (Nat.zero_le _) (Nat.zero_le _) hd (k H locs ls hR hS hl)
theorem v_mmin {ad : Nat → Nat} {cy : Nat → ClassId} {x : KX} {o : KO} {cc : ByteArray} {own : String} {nL d pc : Nat} {ret : Option FieldType} {L : List (Nat × Value)} {rest : List Value} {M : KM} {a b : Int32} {idx : Nat} (G : KG ad cy x cc own nL ret d) (h1 : 1 ≤ d) (w1 : Cond.methodLink own idx Lib.Math.min.name ∈ tb) (w2 : Cond.static Lib.Math.min.name ∈ tb) (w3 : Cond.initialized "java/lang/Math" ∈ tb) (w4 : Cond.code Lib.Math.min.name Lib.Math.min.code 2 (some .int) ∈ tb) (hrm : (rest.map fun v => v.category).sum ≤ 8) (hd : decode cc pc = .ok (.invokestatic idx, 3)) (k : KV ad cy x o (pc + 3) L (.int (if b < a then b else a) :: rest) M) : KV ad cy x o (pc) L (.int b :: .int a :: rest) M := by
  obtain ⟨p, l, e, R, s, m, args, below, meth, c, D, z, n⟩ := x
  obtain ⟨hx, hb, hml, hn, hown, hr, hlk, hts, hK, hA, hf, hlo, hz⟩ := G
  intro H locs ls hR hS hl
  exact va_mmin hx hb (by rw [hml, hl.1, hn]) hown (hts _ w1) (hts _ w2) (hts _ w3) (hts _ w4) (by omega) (by omega) (Nat.zero_le _) (Nat.zero_le _) hd (k H locs ls hR hS hl)
theorem v_mabs {ad : Nat → Nat} {cy : Nat → ClassId} {x : KX} {o : KO} {cc : ByteArray} {own : String} {nL d pc : Nat} {ret : Option FieldType} {L : List (Nat × Value)} {rest : List Value} {M : KM} {a : Int32} {idx : Nat} (G : KG ad cy x cc own nL ret d) (h1 : 1 ≤ d) (w1 : Cond.methodLink own idx Lib.Math.abs.name ∈ tb) (w2 : Cond.static Lib.Math.abs.name ∈ tb) (w3 : Cond.initialized "java/lang/Math" ∈ tb) (w4 : Cond.code Lib.Math.abs.name Lib.Math.abs.code 1 (some .int) ∈ tb) (hrm : (rest.map fun v => v.category).sum ≤ 8) (hd : decode cc pc = .ok (.invokestatic idx, 3)) (k : KV ad cy x o (pc + 3) L (.int (if 0 ≤ a then a else 0 - a) :: rest) M) : KV ad cy x o (pc) L (.int a :: rest) M := by
  obtain ⟨p, l, e, R, s, m, args, below, meth, c, D, z, n⟩ := x
  obtain ⟨hx, hb, hml, hn, hown, hr, hlk, hts, hK, hA, hf, hlo, hz⟩ := G
  intro H locs ls hR hS hl
  exact va_mabs hx hb (by rw [hml, hl.1, hn]) hown (hts _ w1) (hts _ w2) (hts _ w3) (hts _ w4) (by omega) (by omega) (Nat.zero_le _) (Nat.zero_le _) hd (k H locs ls hR hS hl)
theorem v_mabsl {ad : Nat → Nat} {cy : Nat → ClassId} {x : KX} {o : KO} {cc : ByteArray} {own : String} {nL d pc : Nat} {ret : Option FieldType} {L : List (Nat × Value)} {rest : List Value} {M : KM} {a : Int64} {idx : Nat} (G : KG ad cy x cc own nL ret d) (h1 : 1 ≤ d) (w1 : Cond.methodLink own idx Lib.MathLoose.abs_long.x ∈ tb) (w2 : Cond.static Lib.MathLoose.abs_long.x ∈ tb) (w3 : Cond.initialized "java/lang/Math" ∈ tb) (w4 : Cond.code Lib.MathLoose.abs_long.x Lib.MathLoose.abs_long.code 2 (some .long) ∈ tb) (hrm : (rest.map fun v => v.category).sum ≤ 8) (hd : decode cc pc = .ok (.invokestatic idx, 3)) (k : KV ad cy x o (pc + 3) L (.long (if 0 < a then a else -a) :: rest) M) : KV ad cy x o (pc) L (.long a :: rest) M := by
  obtain ⟨p, l, e, R, s, m, args, below, meth, c, D, z, n⟩ := x
  obtain ⟨hx, hb, hml, hn, hown, hr, hlk, hts, hK, hA, hf, hlo, hz⟩ := G
  intro H locs ls hR hS hl
  exact va_mabs_long hx hb (by rw [hml, hl.1, hn]) hown (hts _ w1) (hts _ w2) (hts _ w3) (hts _ w4) (by omega) (by omega) (Nat.zero_le _) (Nat.zero_le _) hd (k H locs ls hR hS hl)
end KRules
