/-! THE CLAIM OUT OF ONE WALK OF THE LAW'S BODY. Your part is whole_start (and what it stands on); all else here is the same for every law, but numbers. -/
def R_law : String := "NoonGuidesLaw"
def lw_P (b : Addr) (xs : List Int32) (args : Array Value) (s : State) : Prop := args = #[.ref b] ∧ s.IntsAt b xs ∧ xs.length ≤ 3072 ∧ (Jvm.Cond.and given_1 narrow_1).before args s = true
def lw_Q (_ : Array Value) (s : State) (o : Outcome) (t : State) : Prop := o = .returned (some (.int 1)) ∧ Framed s o t [] 600000 7302249
def lw_Z (below : List Frame) (a : Array Value) (s : State) : State → Prop := fun t => ∃ o, t.status = .running ∧ Ended t below o ∧ lw_Q a s o t
/-- the law's own end, with 1 on the stack, nothing written that was there before, its room as the claim has it -/
theorem lw_ret {p : Program} {l : Launch} {e : Env} {s : State} {m : MethodId} {below : List Frame} {meth : Method} {c : Code} {b : Nat} (hx : p.tables.exec = Jvm.exec) (hb : c.code = code) (hr : meth.sig.returnType = ret) (hlocks : meth.locks = false) {pc : Nat} {H : Heap} {ls : Array Slot} (hdg : decode code pc = .ok (.ireturn, 1)) : W p l e room_1 s m #[Value.ref b] below meth c H [] 600000 7302249 (lw_Z below #[Value.ref b] s) (F0 m pc ls [.int 1]) := by
  intro T hT X
  obtain ⟨fs, hret, hrun, hended, hW, hframe⟩ := X.leave (v := some (.int 1)) (hlocks := hlocks) (fun h => by rw [hr] at h; cases h)
  have hmeth' : T.vm.method? m = some meth := X.method'
  refine ⟨T.setFrames fs, ?_, .returned (some (.int 1)), hrun, hended, rfl, ⟨_, rfl⟩, hW, hframe⟩
  jvm_step X.here [X.here.top, hx, hb, hdg, hmeth', hr, ret, narrow_b1]
  (try refine ⟨rfl, ?_⟩); (try refine ⟨rfl, ?_⟩)
  first | (intro acts; rw [hret _ acts rfl rfl rfl]) | rw [hret _ _ rfl rfl rfl]
  exact Steps.refl _
/-- what holds at the law's entry: the machine, the code, the tables' words (any of lw_tbl by 'hts w (by decide +kernel)'), the script of L ints xs at the cell b, what the Statement gives of the start (any of its parts by flat_of_before) -/
def lw_At (p : Program) (s : State) (m : MethodId) (meth : Method) (c : Code) (b L : Nat) (xs : Nat → Int32) : Prop :=
  p.tables.exec = Jvm.exec ∧ c.code = code ∧ meth.sig.returnType = ret ∧ c.maxLocals = 4 ∧ s.vm.findClass R_law = some m.cls ∧ (∀ w ∈ lw_tbl, w.before #[Value.ref b] s = true) ∧ va_X b L xs s s.heap ∧ b < s.heap.size ∧ meth.locks = false ∧ (Jvm.Cond.and given_1 narrow_1).before #[Value.ref b] s = true
/-- the script, that no cell of ours is -/
def KS (x : KX) (b Ln : Nat) (xs : Nat → Int32) : Prop := match x with
  | (p, l, e, R, s, m, args, below, meth, c, D, z, n, k1, k2, Q) => va_X b Ln xs s s.heap ∧ b < s.heap.size ∧ ¬ z ≤ b
/-- the law's own end -/
def KLw (x : KX) (b : Nat) : Prop := match x with
  | (p, l, e, R, s, m, args, below, meth, c, D, z, n, k1, k2, Q) => Q = (fun _ => lw_Z below #[Value.ref b] s) ∧ R = room_1 ∧ args = #[Value.ref b] ∧ k1 ≤ 600000 ∧ k2 ≤ 7302249 ∧ z = s.heap.size ∧ c.code = code ∧ meth.sig.returnType = ret
theorem v_sld {ad : Nat → Nat} {cy : Nat → ClassId} {x : KX} {o : KO} {cc : ByteArray} {own : String} {nL d pc pc2 : Nat} {ret : Option (Option FieldType)} {L : List (Nat × Value)} {rest : List Value} {M : KM} {b Ln : Nat} {xs : Nat → Int32} {i : Int32} (G : KG ad cy x cc own nL ret d) (GS : KS x b Ln xs) (hin : ix i Ln) (hd : dc cc pc (.iaload) 1 pc2) (kk : KV ad cy x o pc2 L (.int (xs i.toNatClampNeg) :: rest) M) : KV ad cy x o pc L (.int i :: .ref b :: rest) M := by
  obtain ⟨p, l, e, R, s, m, args, below, meth, c, D, z, n, k1, k2, Q⟩ := x
  obtain ⟨hx, hb, hml, hn, hown, hr, hlk, hts, hK, hA, ⟨hf, hkc, hks⟩, hlo, hz⟩ := G
  obtain ⟨hd, rfl⟩ := hd
  obtain ⟨hX, hbl, hbA⟩ := GS
  intro H locs ls hR hS hl
  exact va_sld hx hb hX hbl hbA hS hin hd (kk H locs ls hR hS hl)
theorem v_slen {ad : Nat → Nat} {cy : Nat → ClassId} {x : KX} {o : KO} {cc : ByteArray} {own : String} {nL d pc pc2 : Nat} {ret : Option (Option FieldType)} {L : List (Nat × Value)} {rest : List Value} {M : KM} {b Ln : Nat} {xs : Nat → Int32} (G : KG ad cy x cc own nL ret d) (GS : KS x b Ln xs) (hd : dc cc pc (.arraylength) 1 pc2) (kk : KV ad cy x o pc2 L (.int (Int32.ofNat Ln) :: rest) M) : KV ad cy x o pc L (.ref b :: rest) M := by
  obtain ⟨p, l, e, R, s, m, args, below, meth, c, D, z, n, k1, k2, Q⟩ := x
  obtain ⟨hx, hb, hml, hn, hown, hr, hlk, hts, hK, hA, ⟨hf, hkc, hks⟩, hlo, hz⟩ := G
  obtain ⟨hd, rfl⟩ := hd
  obtain ⟨hX, hbl, hbA⟩ := GS
  intro H locs ls hR hS hl
  exact va_slen hx hb hX hbl hbA hS hd (kk H locs ls hR hS hl)
theorem v_law1 {ad : Nat → Nat} {cy : Nat → ClassId} {x : KX} {o : KO} {cc : ByteArray} {own : String} {nL d pc pc2 : Nat} {rt0 : Option (Option FieldType)} {L : List (Nat × Value)} {rest : List Value} {M : KM} {b : Nat} (G : KG ad cy x cc own nL rt0 d) (GL : KLw x b) (hd : dc cc pc (.ireturn) 1 pc2) : KV ad cy x o pc L [.int 1] M := by
  obtain ⟨p, l, e, R, s, m, args, below, meth, c, D, z, n, k1, k2, Q⟩ := x
  obtain ⟨hx, hb, hml, hn, hown, hr, hlk, hts, hK, hA, ⟨hf, hkc, hks⟩, hlo, hz⟩ := G
  obtain ⟨hd, rfl⟩ := hd
  obtain ⟨rfl, rfl, rfl, h1, h2, rfl, h3, h4⟩ := GL
  have hcc : cc = code := hb.symm.trans h3
  subst hcc
  intro H locs ls hR hS hl
  refine va_forget (fun q hq => hS.2.2 q hq) ?_
  refine W.widen (k := 600000) (n := 7302249) h1 h2 ?_
  exact lw_ret hx hb h4 hlk hd
