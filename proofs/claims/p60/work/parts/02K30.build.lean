/-! ===== building: the memory while the constructors run ===== -/
/-- what each object holds so far, and how many there are -/
abbrev KE : Type := (Nat → va_E) × Nat
def bws (z : Nat) (E : KE) : va_W := (List.range E.2).map fun a => (z + a, E.1 a)
/-- object a stands at z + a, and nothing else was made -/
def BR (D : va_G) (z : Nat) (E : KE) (H : Heap) : Prop := va_P D vwCl (bws z E) H ∧ H.size = z + E.2
def bN (E : KE) (e : va_E) : KE := (fun a => if a = E.2 then e else E.1 a, E.2 + 1)
def bU (E : KE) (i : Nat) (e : va_E) : KE := (fun a => if a = i then e else E.1 a, E.2)
theorem bws_at {z : Nat} {E : KE} {a : Nat} (h : a < E.2) : (bws z E)[a]? = some (z + a, E.1 a) := by
  simp only [bws, List.getElem?_map, List.getElem?_range h, Option.map_some]
theorem bws_ad {z : Nat} {E : KE} {k : Nat} {q : Nat × va_E} (h : (bws z E)[k]? = some q) : k < E.2 ∧ q = (z + k, E.1 k) := by
  rcases Nat.lt_or_ge k E.2 with hk | hk
  · rw [bws_at hk] at h
    exact ⟨hk, (Option.some.inj h).symm⟩
  · rw [List.getElem?_eq_none (by simp [bws]; exact hk)] at h
    cases h
theorem bws_D {z : Nat} {E : KE} : va_D (fun q => z ≤ q) (bws z E) := by
  refine ⟨fun i j p q hp hq e => ?_, fun k q hq => ?_⟩
  · rw [(bws_ad hp).2, (bws_ad hq).2] at e
    exact Nat.add_left_cancel e
  · show z ≤ q.1
    rw [(bws_ad hq).2]
    exact Nat.le_add_right _ _
theorem bws_set {z : Nat} {E : KE} {i : Nat} {e : va_E} : (bws z E).set i (z + i, e) = bws z (bU E i e) := by
  apply List.ext_getElem?
  intro k
  rcases Nat.lt_or_ge k E.2 with hk | hk
  · rw [bws_at (E := bU E i e) hk]
    by_cases hka : k = i
    · subst hka
      rw [List.getElem?_set_self (by simp [bws]; exact hk)]
      simp [bU]
    · rw [List.getElem?_set_ne (fun z => hka z.symm), bws_at hk]
      simp [bU, hka]
  · rw [List.getElem?_eq_none (by simp [bws]; exact hk), List.getElem?_eq_none (by simp [bws, bU]; exact hk)]
theorem bws_new {D : va_G} {z : Nat} {E : KE} {e : va_E} {H H1 : Heap} (h : BR D z E H) (e1 : va_at D vwCl (H.size, e) H1) (z1 : H1.size = H.size + 1) (o1 : ∀ q, q < H.size → H1[q]? = H[q]?) : BR D z (bN E e) H1 := by
  obtain ⟨hP, hz⟩ := h
  refine ⟨fun k q hq => ?_, by rw [z1, hz]; exact Nat.add_assoc _ _ _⟩
  obtain ⟨hk, rfl⟩ := bws_ad hq
  by_cases c : k = E.2
  · subst c
    simp only [bN, if_true]
    rw [← hz]; exact e1
  · have hk2 : k < E.2 := by
      have : k < E.2 + 1 := hk
      omega
    simp only [bN, if_neg c]
    have hb := bws_at (z := z) hk2
    have hP1 : va_P D vwCl (bws z E) H1 := hP.kept (fun k x hx => o1 x.1 ((hP k x hx).lt))
    exact hP1 k _ hb
/-- the links of nest mates' constructors -/
def nestL : List Cond := [Cond.methodLinkNest "NoonGuides" 31 ⟨"NoonGuides$LandReader", "<init>", "()V"⟩ "NoonGuides",
  Cond.methodLinkNest "NoonGuides" 38 ⟨"NoonGuides$DaysReader", "<init>", "()V"⟩ "NoonGuides",
  Cond.methodLinkNest "NoonGuides" 45 ⟨"NoonGuides$Life", "<init>", "()V"⟩ "NoonGuides",
  Cond.methodLinkNest "NoonGuides" 52 ⟨"NoonGuides$Paths", "<init>", "()V"⟩ "NoonGuides",
  Cond.methodLinkNest "NoonGuides" 59 ⟨"NoonGuides$Pairing", "<init>", "()V"⟩ "NoonGuides",
  Cond.methodLinkNest "NoonGuides" 66 ⟨"NoonGuides$Hours", "<init>", "()V"⟩ "NoonGuides",
  Cond.methodLinkNest "NoonGuides$Land" 37 ⟨"NoonGuides$Hours", "<init>", "()V"⟩ "NoonGuides",
  Cond.methodLinkNest "NoonGuides$Land" 44 ⟨"NoonGuides$Plan", "<init>", "()V"⟩ "NoonGuides",
  Cond.methodLinkNest "NoonGuides$Land" 62 ⟨"NoonGuides$Person", "<init>", "()V"⟩ "NoonGuides",
  Cond.methodLinkNest "NoonGuides" 81 ⟨"NoonGuides$Plan", "<init>", "()V"⟩ "NoonGuides",
  Cond.methodLinkNest "NoonGuides" 97 ⟨"NoonGuides$Tray", "<init>", "()V"⟩ "NoonGuides"]
def kwText : String := "glare to clock rope habit odds place road minutes smells sighted at glasses blind knows wait go lead any cloud clear when lost loop end stop "
def kwBytes : List Int32 := [103, 108, 97, 114, 101, 32, 116, 111, 32, 99, 108, 111, 99, 107, 32, 114, 111, 112, 101, 32, 104, 97, 98, 105, 116, 32, 111, 100, 100, 115, 32, 112, 108, 97, 99, 101, 32, 114, 111, 97, 100, 32, 109, 105, 110, 117, 116, 101, 115, 32, 115, 109, 101, 108, 108, 115, 32, 115, 105, 103, 104, 116, 101, 100, 32, 97, 116, 32, 103, 108, 97, 115, 115, 101, 115, 32, 98, 108, 105, 110, 100, 32, 107, 110, 111, 119, 115, 32, 119, 97, 105, 116, 32, 103, 111, 32, 108, 101, 97, 100, 32, 97, 110, 121, 32, 99, 108, 111, 117, 100, 32, 99, 108, 101, 97, 114, 32, 119, 104, 101, 110, 32, 108, 111, 115, 116, 32, 108, 111, 111, 112, 32, 101, 110, 100, 32, 115, 116, 111, 112, 32]
/-- the world beside our objects: the nest's links, the array classes, the one string and how strings are kept -/
def KW (z : Nat) (w : Nat × Nat) (U : State) (H : Heap) : Prop := (∀ c ∈ nestL, va_Nw c U) ∧ (va_AO "NoonGuides$Tray" U ∧ va_AO "NoonGuides$Land" U ∧ va_AO "NoonGuides$Person" U) ∧ vk_R "NoonGuides$TextReader" 26 kwText w.1 U ∧ vk_S 1 [141] [kwBytes] (fun _ => w.1) (fun _ => w.2) (fun q => z ≤ q) U H ∧ va_Z "java/lang/String" "COMPACT_STRINGS" "Z" (.int 1) (fun q => z ≤ q) U H ∧ va_Zq "jdk/internal/util/Preconditions" "SIOOBE_FORMATTER" "Ljava/util/function/BiFunction;" (fun q => z ≤ q) U H
theorem nestL_warm {s U : State} (hW : s.WarmedH U.vm) (h : ∀ c ∈ nestL, va_Nw c s) : ∀ c ∈ nestL, va_Nw c U := by
  intro c hc
  have h1 := h c hc
  simp only [nestL, List.mem_cons, List.not_mem_nil, or_false] at hc
  rcases hc with rfl | rfl | rfl | rfl | rfl | rfl | rfl | rfl | rfl | rfl | rfl <;> exact va_Nw.warmM hW h1
theorem KW.warm {z : Nat} {w : Nat × Nat} {s U : State} {H : Heap} (h : KW z w s H) (hW : s.WarmedH U.vm) : KW z w U H :=
  ⟨nestL_warm hW h.1, ⟨va_AO.moved hW.alike h.2.1.1, va_AO.moved hW.alike h.2.1.2.1, va_AO.moved hW.alike h.2.1.2.2⟩, vk_R.warm hW h.2.2.1, vk_S.moved hW.alike h.2.2.2.1, va_Z.moved hW.alike h.2.2.2.2.1, va_Zq.moved hW.alike h.2.2.2.2.2⟩
theorem KW.same {z : Nat} {w : Nat × Nat} {u U : State} (h : KW z w u u.heap) (hv : U.vm = u.vm) (hh : U.heap = u.heap := by rfl) : KW z w U U.heap := by
  rw [hh]
  exact ⟨fun c hc => va_Nw.same (by simp only [nestL, List.mem_cons, List.not_mem_nil, or_false] at hc; rcases hc with rfl | rfl | rfl | rfl | rfl | rfl | rfl | rfl | rfl | rfl | rfl <;> rfl) hv.symm (h.1 c hc), ⟨va_AO.moved (by rw [hv]; exact Vm.Alike.refl u.vm) h.2.1.1, va_AO.moved (by rw [hv]; exact Vm.Alike.refl u.vm) h.2.1.2.1, va_AO.moved (by rw [hv]; exact Vm.Alike.refl u.vm) h.2.1.2.2⟩, vk_R.same hv h.2.2.1, vk_S.moved (by rw [hv]; exact Vm.Alike.refl u.vm) h.2.2.2.1, va_Z.moved (by rw [hv]; exact Vm.Alike.refl u.vm) h.2.2.2.2.1, va_Zq.moved (by rw [hv]; exact Vm.Alike.refl u.vm) h.2.2.2.2.2⟩
theorem KW.kept {z : Nat} {w : Nat × Nat} {s : State} {H H1 : Heap} {locs : List Loc} (h : KW z w s H) (hS : va_S (fun q => z ≤ q) H H1 locs) : KW z w s H1 :=
  ⟨h.1, h.2.1, h.2.2.1, h.2.2.2.1.kept hS.2.1, h.2.2.2.2.1.kept hS.2.1, h.2.2.2.2.2.kept hS.2.1⟩
def BQ (D : va_G) (z : Nat) (rv : Option Value) (E : KE) : Array Value → State → Outcome → State → Prop := fun _ st oc t => oc = .returned rv ∧ BR D z E t.heap ∧ va_F (fun q => z ≤ q) st t
abbrev BX : Type := Program × Launch × Env × Room × State × MethodId × Array Value × List Frame × Method × Code × va_G × Nat × Nat × Nat × Nat × (KE → State → Prop)
abbrev BP : Type := KE → Array Value → State → Outcome → State → Prop
abbrev BXl (x : BX) : Launch := x.2.1
abbrev BXD (x : BX) : va_G := x.2.2.2.2.2.2.2.2.2.2.1
abbrev BXz (x : BX) : Nat := x.2.2.2.2.2.2.2.2.2.2.2.1
/-- what stays while a method runs (ini: whether it is a constructor, its kind of answer, its answer; none: the law itself) -/
def BG (cy : Nat → ClassId) (w : Nat × Nat) (x : BX) (cc : ByteArray) (own : String) (nL : Nat) (ini : Option (Bool × Option FieldType × BP)) (d : Nat) : Prop := match x with
  | (p, l, e, R, s, m, args, below, meth, c, D, z, n, k1, k2, Q) => p.tables.exec = Jvm.exec ∧ c.code = cc ∧ c.maxLocals = nL ∧ n = nL ∧ s.vm.findClass own = some m.cls ∧ (∀ b rt qc, ini = some (b, rt, qc) → meth.sig.returnType = rt ∧ (b = true → meth.name = "<init>") ∧ Q = fun E => MQ below (qc E) args s k1 k2 (fun q => z ≤ q)) ∧ meth.locks = false ∧ (∀ w ∈ tb, w.before args s = true) ∧ va_K D vwCl (ktys cy) s ∧ KW z w s s.heap ∧ (d ≤ R.frames ∧ k1 ≤ R.cells ∧ k2 ≤ R.slots) ∧ 38 * d ≤ R.locals ∧ z ≤ s.heap.size
/-- from here the constructor comes to its end with E'; kc objects and ks places were made so far -/
def BV (x : BX) (E' : KE) (pc : Nat) (L : List (Nat × Value)) (st : List Value) (E : KE) (kc ks : Nat) : Prop := match x with
  | (p, l, e, R, s, m, args, below, meth, c, D, z, n, k1, k2, Q) => ∀ (H : Heap) (locs : List Loc) (ls : Array Slot), BR D z E H → va_S (fun q => z ≤ q) s.heap H locs → lv_has ls n L → W p l e R s m args below meth c H locs kc ks (Q E') (F0 m pc ls st)
abbrev BXk (x : BX) : Nat × Nat := (x.2.2.2.2.2.2.2.2.2.2.2.2.2.1, x.2.2.2.2.2.2.2.2.2.2.2.2.2.2.1)
abbrev brm (d kc ks : Nat) : Room := { frames := d, cells := kc, slots := ks, locals := 38 * d }
/-- a constructor's contract: it makes kc objects with ks places -/
def BC (l : Launch) (cy : Nat → ClassId) (w : Nat × Nat) (D : va_G) (z : Nat) (y : MethodName) (cc : ByteArray) (nL : Nat) (rt : Option FieldType) (rv : Option Value) (d kc ks : Nat) (av : List Value) (E E' : KE) : Prop :=
  Met l y (Cond.code y cc nL rt :: tb) (brm d kc ks) (va_Pc av (fun U => BR D z E U.heap ∧ va_K D vwCl (ktys cy) U ∧ KW z w U U.heap ∧ z ≤ U.heap.size)) (BQ D z rv E') kc ks (fun q => z ≤ q)
theorem bv_enterQ {l : Launch} {cy : Nat → ClassId} {w : Nat × Nat} {D : va_G} {z : Nat} {y : MethodName} {cc : ByteArray} {nL d kc ks : Nat} {rt : Option FieldType} {qc : BP} {av : List Value} {E E' : KE} (b : Bool) (hy : plainName y.cls = true) (hyn : b = true → y.name = "<init>") (hl : (lg_sl av).length ≤ nL)
    (body : ∀ x : BX, BXl x = l → BXD x = D → BXz x = z → BXk x = (kc, ks) → BG cy w x cc y.cls nL (some (b, rt, qc)) d → BV x E' 0 (lv_args 0 av) [] E 0 0) : Met l y (Cond.code y cc nL rt :: tb) (brm d kc ks) (va_Pc av (fun U => BR D z E U.heap ∧ va_K D vwCl (ktys cy) U ∧ KW z w U U.heap ∧ z ≤ U.heap.size)) (qc E') kc ks (fun q => z ≤ q) := by
  refine Met.ofW (cc := cc) (maxL := nL) (ret := rt) hy rfl ?_
  intro p e s m args below meth c s₁ B hml hv
  obtain ⟨rfl, hR, hK, hW, hz⟩ := hv
  have hts := atoms_spec (ws := Cond.code y cc nL rt :: tb) B.pre
  have hin : meth.name = y.name := (name_of_methodNamed B.named B.method).1
  have h1 := body (p, l, e, brm d kc ks, s, m, av.toArray, below, meth, c, D, z, nL, kc, ks, fun E => MQ below (qc E) av.toArray s kc ks (fun q => z ≤ q)) rfl rfl rfl rfl ⟨B.exec, B.bytes, hml, rfl, findClass_of_methodNamed B.named, fun b2 rt2 rv2 hq => by cases hq; exact ⟨B.returns, fun hb => hin.trans (hyn hb), rfl⟩, B.notSynchronized, fun w hw => hts w (List.mem_cons_of_mem _ hw), hK, hW, ⟨Nat.le_refl _, Nat.le_refl _, Nat.le_refl _⟩, Nat.le_refl _, hz⟩
  rw [lg_entry_eq]
  exact h1 s.heap [] _ hR va_S.rf (lv_entry av hl)
theorem bv_enter {l : Launch} {cy : Nat → ClassId} {w : Nat × Nat} {D : va_G} {z : Nat} {y : MethodName} {cc : ByteArray} {nL d kc ks : Nat} {rt : Option FieldType} {rv : Option Value} {av : List Value} {E E' : KE} (b : Bool) (hy : plainName y.cls = true) (hyn : b = true → y.name = "<init>") (hl : (lg_sl av).length ≤ nL)
    (body : ∀ x : BX, BXl x = l → BXD x = D → BXz x = z → BXk x = (kc, ks) → BG cy w x cc y.cls nL (some (b, rt, BQ D z rv)) d → BV x E' 0 (lv_args 0 av) [] E 0 0) : BC l cy w D z y cc nL rt rv d kc ks av E E' := bv_enterQ (qc := BQ D z rv) b hy hyn hl body
/-- the end of a constructor -/
theorem b_ret {cy : Nat → ClassId} {w : Nat × Nat} {x : BX} {cc : ByteArray} {own : String} {nL d pc pc2 kc ks : Nat} {b : Bool} {L : List (Nat × Value)} {E : KE} (G : BG cy w x cc own nL (some (b, none, BQ (BXD x) (BXz x) none)) d) (hk : BXk x = (kc, ks)) (hd : dc cc pc (.return_) 1 pc2) : BV x E pc L [] E kc ks := by
  obtain ⟨p, l, e, R, s, m, args, below, meth, c, D, z, n, k1, k2, Q⟩ := x
  obtain ⟨hx, hb, hml, hn, hown, hr, hlk, hts, hK, hW, ⟨hf, hkc, hks⟩, hlo, hz⟩ := G
  obtain ⟨hd, rfl⟩ := hd
  obtain ⟨hr2, -, hq⟩ := hr _ _ _ rfl
  have hq : Q = fun E => MQ below (BQ D z none E) args s k1 k2 (fun q => z ≤ q) := hq
  subst hq
  cases hk
  intro H locs ls hR hS hl
  exact W.vret hx hb hr2 (fun t ht hW => ⟨rfl, by rw [ht]; exact hR, hS.F ht⟩) hS.2.2 hd hlk
/-- the end of a method that answers an int, a truth, a char or a byte -/
theorem b_iret {cy : Nat → ClassId} {w : Nat × Nat} {x : BX} {cc : ByteArray} {own : String} {nL d pc pc2 kc ks : Nat} {b : Bool} {ty : FieldType} {v : Int32} {L : List (Nat × Value)} {E : KE} (G : BG cy w x cc own nL (some (b, some ty, BQ (BXD x) (BXz x) (some (.int v)))) d) (hnw : narrow ty (.int v) = .int v) (hk : BXk x = (kc, ks)) (hd : dc cc pc (.ireturn) 1 pc2) : BV x E pc L [.int v] E kc ks := by
  obtain ⟨p, l, e, R, s, m, args, below, meth, c, D, z, n, k1, k2, Q⟩ := x
  obtain ⟨hx, hb, hml, hn, hown, hr, hlk, hts, hK, hW, ⟨hf, hkc, hks⟩, hlo, hz⟩ := G
  obtain ⟨hd, rfl⟩ := hd
  obtain ⟨hr2, -, hq⟩ := hr _ _ _ rfl
  have hq : Q = fun E => MQ below (BQ D z (some (.int v)) E) args s k1 k2 (fun q => z ≤ q) := hq
  subst hq
  cases hk
  intro H locs ls hR hS hl
  exact W.zret hx hb hr2 hnw (fun t ht hW => ⟨rfl, by rw [ht]; exact hR, hS.F ht⟩) hS.2.2 hd hlk
/-- a new object: it stands at the end -/
theorem b_new {cy : Nat → ClassId} {w : Nat × Nat} {x : BX} {E' : KE} {cc : ByteArray} {own C : String} {nL d pc pc2 kc ks idx ci N : Nat} {ini : Option (Bool × Option FieldType × BP)} {T : u_T} {L : List (Nat × Value)} {rest : List Value} {E : KE} (G : BG cy w x cc own nL ini d) (ty : Nat → FieldType) (hc : vwCl[ci]? = some (C, T, N)) (hin : ∀ w ∈ u_ws C T N, w ∈ tb) (hty : ∀ k, k < N → parseFieldDescriptor (T k).2.2.1 = some (ty k)) (w1 : Cond.classLink own idx C ∈ tb) (w2 : Cond.instantiable C N ∈ tb) (w3 : Cond.initialized C ∈ tb) (fs : List Value) (hfs : ∀ j, j < N → defaultValue (ty j) = vp_V fs j) (h1 : kc + 1 ≤ (BXk x).1) (h2 : ks + N ≤ (BXk x).2) (hd : dc cc pc (.new idx) 3 pc2)
    (kk : BV x E' pc2 L (.ref (BXz x + E.2) :: rest) (bN E (.inr (ci, fs))) (kc + 1) (ks + N)) : BV x E' pc L rest E kc ks := by
  obtain ⟨p, l, e, R, s, m, args, below, meth, c, D, z, n, k1, k2, Q⟩ := x
  obtain ⟨hx, hb, hml, hn, hown, hr, hlk, hts, hK, hW, ⟨hf, hkc, hks⟩, hlo, hz⟩ := G
  obtain ⟨hd, rfl⟩ := hd
  intro H locs ls hR hS hl
  have hKn := hK.1 ci _ hc
  refine W.newcK hx hb hown (hts _ w1) (hts _ w2) (hts _ w3) rfl hd (Nat.le_trans h1 hkc) (Nat.le_trans h2 hks) hKn.2.1 hR.2 fun H1 kC hkC e1 z1 o1 => ?_
  refine kk H1 locs ls (bws_new hR ⟨_, hc, (u_born ty hts hin hKn hkC ?_ hty).to hfs⟩ (by rw [z1, hR.2]) (fun q hq => o1 q (by rw [← hR.2]; exact hq))) ⟨Nat.le_trans hS.1 (by rw [z1, hR.2]; omega), fun q u v => (o1 q (by rw [← hR.2]; exact Nat.lt_of_lt_of_le u hS.1)).trans (hS.2.1 q u v), hS.2.2⟩ hl
  rw [hR.2]; exact e1
/-- after a store into object i -/
theorem BR_set {D : va_G} {z : Nat} {E : KE} {H H1 : Heap} {i : Nat} {e : va_E} (h : BR D z E H) (hi : i < E.2) (e1 : va_at D vwCl (z + i, e) H1) (z1 : H1.size = H.size) (o1 : ∀ q, q ≠ z + i → H1[q]? = H[q]?) : BR D z (bU E i e) H1 :=
  ⟨by rw [← bws_set]; exact h.1.set bws_D (bws_at hi) e1 o1, by rw [z1]; exact h.2⟩
/-- a new array of numbers -/
theorem b_newa {cy : Nat → ClassId} {w : Nat × Nat} {x : BX} {E' : KE} {cc : ByteArray} {own : String} {nL d pc pc2 kc ks t0 N : Nat} {ini : Option (Bool × Option FieldType × BP)} {L : List (Nat × Value)} {rest : List Value} {E : KE} {at0 : ArrayType} {n : Int32} {a0 : vp_A} (G : BG cy w x cc own nL ini d) (w1 : Cond.arrayClass (newarray.typeOf at0) ∈ tb) (ht : ∃ cA, (ktys cy)[t0]? = some (cA, newarray.typeOf at0)) (ha : ∀ cA : ClassId, vp_cell cA a0 = arrV cA N (fun _ => defaultValue (newarray.typeOf at0))) (hn : ¬ n < 0) (hN : n.toNatClampNeg = N) (hby : N * componentBytes (newarray.typeOf at0) ≤ 536870912) (h1 : kc + 1 ≤ (BXk x).1) (h2 : ks + N ≤ (BXk x).2) (hd : dc cc pc (.newarray at0) 2 pc2)
    (kk : BV x E' pc2 L (.ref (BXz x + E.2) :: rest) (bN E (.inl (cy t0, a0))) (kc + 1) (ks + N)) (hcy : ∀ cA, (ktys cy)[t0]? = some (cA, newarray.typeOf at0) → cA = cy t0) : BV x E' pc L (.int n :: rest) E kc ks := by
  obtain ⟨p, l, e, R, s, m, args, below, meth, c, D, z, nn, k1, k2, Q⟩ := x
  obtain ⟨hx, hb, hml, hnn, hown, hr, hlk, hts, hK, hW, ⟨hf, hkc, hks⟩, hlo, hz⟩ := G
  obtain ⟨hd, rfl⟩ := hd
  obtain ⟨cA0, hA0⟩ := ht
  intro H locs ls hR hS hl
  refine va_newaK hx hb (hts _ w1) rfl hd rfl hn hN hby (Nat.le_trans h1 hkc) (Nat.le_trans h2 hks) hR.2 fun H1 cA e1 z1 o1 hAr hNm => ?_
  have hc : cA = cy t0 := by
    have h3 := (hK.2 t0 _ hA0).2
    have h4 : s.vm.findClass ("[" ++ (newarray.typeOf at0).toString) = some cA0 := by cases at0 <;> exact h3
    rw [← hcy _ hA0]
    exact Option.some.inj (hNm.symm.trans h4)
  subst hc
  refine kk H1 locs ls (bws_new hR ?_ (by rw [z1, hR.2]) (fun q hq => o1 q (by rw [← hR.2]; exact hq))) ⟨Nat.le_trans hS.1 (by rw [z1, hR.2]; omega), fun q u v => (o1 q (by rw [← hR.2]; exact Nat.lt_of_lt_of_le u hS.1)).trans (hS.2.1 q u v), hS.2.2⟩ hl
  show H1[H.size]? = some (vp_cell _ _)
  rw [ha, hR.2]
  exact e1
/-- Object's own constructor -/
theorem b_obj {cy : Nat → ClassId} {w : Nat × Nat} {x : BX} {E' : KE} {cc : ByteArray} {own : String} {nL d pc pc2 kc ks idx a : Nat} {ini : Option (Bool × Option FieldType × BP)} {L : List (Nat × Value)} {rest : List Value} {E : KE} (G : BG cy w x cc own nL ini d) (h1 : 1 ≤ d) (w1 : Cond.methodLink own idx Lib.objectInit ∈ tb) (w2 : Cond.instanceMethod Lib.objectInit ∈ tb) (w3 : Cond.code Lib.objectInit ⟨#[0xb1]⟩ 1 none ∈ tb) (hrm : (rest.map fun v => v.category).sum ≤ 8) (hd : dc cc pc (.invokespecial idx) 3 pc2) (kk : BV x E' pc2 L rest E kc ks) : BV x E' pc L (.ref a :: rest) E kc ks := by
  obtain ⟨p, l, e, R, s, m, args, below, meth, c, D, z, n, k1, k2, Q⟩ := x
  obtain ⟨hx, hb, hml, hn, hown, hr, hlk, hts, hK, hW, ⟨hf, hkc, hks⟩, hlo, hz⟩ := G
  obtain ⟨hd, rfl⟩ := hd
  intro H locs ls hR hS hl
  exact W.objInit hx hb hown (hts _ w1) (hts _ w2) (hts _ w3) rfl (by rw [hml, ← hn]; exact hl.1) rfl hd (by omega) (by show 2 * 0 + _ + 12 ≤ R.locals; omega) (kk H locs ls hR hS hl)
/-- a call of another constructor -/
theorem b_run {p : Program} {l : Launch} {e : Env} {R : Room} {s : State} {m : MethodId} {args : Array Value} {below : List Frame} {meth : Method} {c : Code} {D : va_G} {z n k1 k2 kc ks mc ms : Nat} {Q : KE → State → Prop} {E' E1 : KE} {pc : Nat} {rv : Option Value} {L : List (Nat × Value)} {st rest : List Value} {H : Heap} {locs : List Loc} {ls : Array Slot} {av : Array Value} (hz : z ≤ s.heap.size)
    (hrun : va_Run p l e R s m args below meth c H locs kc ks mc ms (F0 m pc ls st) rest (BQ D z rv E1 av) (fun q => z ≤ q)) (hS : va_S (fun q => z ≤ q) s.heap H locs) (hl : lv_has ls n L)
    (k : BV (p, l, e, R, s, m, args, below, meth, c, D, z, n, k1, k2, Q) E' (pc + 3) L (rv.toList ++ rest) E1 (kc + mc) (ks + ms)) : W p l e R s m args below meth c H locs kc ks (Q E') (F0 m pc ls st) := by
  intro T hT X
  obtain ⟨v, st₀, t, T', L1, h0, X', hL, e1, e2, ⟨hv, hR1, hz1, hk1⟩, stp⟩ := hrun T hT X
  cases hv
  rw [h0] at hz1 hk1
  obtain ⟨t2, a1, b1⟩ := k T'.heap (locs ++ L1) ls (by rw [e1]; exact hR1) ⟨Nat.le_trans hS.1 (by rw [e1]; exact hz1), fun q h1 h2 => by rw [e1, hk1 q (Nat.lt_of_lt_of_le h1 hS.1) h2]; exact hS.2.1 q h1 h2, fun q hq => by
      rcases List.mem_append.mp hq with h | h
      · exact hS.2.2 q h
      · exact hL q h⟩ hl T' rfl X'
  exact ⟨t2, stp t2 a1, b1⟩
/-- a field is written (a final one by its own class's constructor) -/
theorem b_put {cy : Nat → ClassId} {w : Nat × Nat} {x : BX} {E' : KE} {cc : ByteArray} {own ref C : String} {nL d pc pc2 kc ks idx ci N i : Nat} {T : u_T} {ty0 : Nat → FieldType} {L : List (Nat × Value)} {rest fs : List Value} {v : Value} {rt : Option FieldType} {qc : BP} {E : KE} (G : BG cy w x cc own nL (some (true, rt, qc)) d) (hi : i < E.2) (he : E.1 i = .inr (ci, fs)) (hc : vwCl[ci]? = some (C, T, N)) (k : Nat) (hkN : k < N) (hin : ∀ w ∈ u_ws C T N, w ∈ tb) (hty : ∀ k, k < N → parseFieldDescriptor (T k).2.2.1 = some (ty0 k)) (hnm : ∀ a, a < N → ∀ b, b < N → a ≠ b → (T a).2.1 ≠ (T b).2.1) (hlink : Cond.fieldLink own idx ref (T k).2.1 (T k).2.2.1 ∈ tb) (hsame : ref = (T k).1 ∨ Cond.sameField ref (T k).1 (T k).2.1 (T k).2.2.1 ∈ tb) (hfin : (T k).2.2.2 = false ∨ (T k).1 = own) (hnar : narrow (ty0 k) v = v) (hfit : fits (ty0 k) v = true) (hlen : k < fs.length) (hd : dc cc pc (.putfield idx) 3 pc2)
    (kk : BV x E' pc2 L rest (bU E i (.inr (ci, fs.set k v))) kc ks) : BV x E' pc L (v :: .ref (BXz x + i) :: rest) E kc ks := by
  obtain ⟨p, l, e, R, s, m, args, below, meth, c, D, z, n, k1, k2, Q⟩ := x
  obtain ⟨hx, hb, hml, hn, hown, hr, hlk, hts, hK, hW, ⟨hf, hkc, hks⟩, hlo, hz⟩ := G
  obtain ⟨hd, rfl⟩ := hd
  have hini := (hr _ _ _ rfl).2.1 rfl
  intro H locs ls hR hS hl
  have hap := va_apart (own := own) hts hin ty0 hty hnm hK hc
  have he2 : (bws z E)[i]? = some (z + i, .inr (ci, fs)) := by rw [bws_at hi, he]
  obtain ⟨r, h1, cell, q1, q2, q3, q4⟩ := hR.1 i _ he2
  have hr0 : r = (C, T, N) := Option.some.inj (h1.symm.trans hc)
  subst hr0
  have hsm : ∀ y, s.fieldFound? (T k).1 (T k).2.1 (T k).2.2.1 = some y → s.fieldFound? ref (T k).2.1 (T k).2.2.1 = some y := fun y hy => by
    rcases hsame with h | h
    · rw [h]; exact hy
    · exact u_same (hts _ h) y hy
  obtain ⟨hSl, hfc, kC, hkC, hkind⟩ := hK.1 ci _ hc
  obtain ⟨cf, kf, fi, f, hif, hsl⟩ := hSl k hkN
  have hlay := hts _ (hin _ (u_in_lay hkN))
  have hst := (u_facts hfc hkC (u_lays hts hin hkN) hif).1
  have fin : ∀ (H1 : Heap), H1[z + i]? = some (cell.setSlot f.slot v) → H1.size = H.size → (∀ q, q ≠ z + i → H1[q]? = H[q]?) → D.2 ci k = f.slot → BR D z (bU E i (.inr (ci, fs.set k v))) H1 := fun H1 e1 e2 e3 e4 => by
    refine BR_set hR hi ?_ e2 e3
    refine ⟨_, hc, t_OB.to (V := updV (vp_V fs) k v) ⟨_, e1, q2, q3, ?_⟩ (fun j _ => vp_updV_set hlen v j)⟩
    rw [← e4]
    exact t_set q4 hap hkN v
  unfold u_lay at hlay
  by_cases hff : (T k).2.2.2 = true
  · rw [if_pos hff] at hlay
    have hdecl : (T k).1 = own := by
      rcases hfin with h | h
      · rw [hff] at h; cases h
      · exact h
    have hcf : m.cls = cf := by
      obtain ⟨_, _, c', _, _, _, -, -, hf', -, -, -, hown2, -⟩ := Cond.laysFinal_spec hlay
      have e1 : c' = cf := by have := hif.symm.trans hf'; simp at this; exact this.1.symm
      rw [hdecl] at hown2
      rw [← e1]; exact Option.some.inj (hown.symm.trans hown2)
    have h6 := u_fits hfc hkC hkind (Or.inr hlay) hif (hty k hkN) hnar hfit
    refine W.putFinK hx hb hown (hts _ hlink) (hsm _ hif) hst hcf hini (by rw [q2]; exact h6) q1 q3 (by rw [hsl]; exact k2_hasslot (q4 k hkN)) rfl rfl hd fun H1 e1 e2 e3 => ?_
    exact kk H1 _ ls (fin H1 e1 e2 e3 hsl.symm) (hS.put e2 e3 (Nat.le_add_right z i)) hl
  · rw [if_neg hff] at hlay
    have h6 := u_store hfc hkC hkind hlay hif (hty k hkN) hnar hfit
    refine W.putK hx hb (f := f) ⟨hown, hts _ hlink, ⟨_, _, _, hsm _ hif⟩, hst⟩ (by rw [q2]; exact h6) q1 q3 (by rw [hsl]; exact k2_hasslot (q4 k hkN)) rfl rfl hd fun H1 e1 e2 e3 => ?_
    exact kk H1 _ ls (fin H1 e1 e2 e3 hsl.symm) (hS.put e2 e3 (Nat.le_add_right z i)) hl
theorem bc_blind {cy : Nat → ClassId} {w : Nat × Nat} {D : va_G} {z : Nat} {av : List Value} {E : KE} : FrameBlind (va_Pc av (fun U => BR D z E U.heap ∧ va_K D vwCl (ktys cy) U ∧ KW z w U U.heap ∧ z ≤ U.heap.size)) := fun a U g mk q => by
  obtain ⟨q0, q1, q2, q3, q4⟩ := q
  exact ⟨q0, q1, va_K.moved (u := U) (U := U.calling g mk a) (Vm.Alike.refl U.vm) q2, q3.same (u := U) (U := U.calling g mk a) rfl, q4⟩
/-- a constructor is called (none of ours takes an argument) -/
theorem b_call {cy : Nat → ClassId} {w : Nat × Nat} {x : BX} {E' E1 : KE} {cc : ByteArray} {own : String} {nL d pc pc2 kc ks idx i mc ms d2 maxL : Nat} {ini : Option (Bool × Option FieldType × BP)} {y : MethodName} {bytes : ByteArray} {L : List (Nat × Value)} {rest : List Value} {E : KE} (G : BG cy w x cc own nL ini d) (hct : BC x.2.1 cy w x.2.2.2.2.2.2.2.2.2.2.1 (BXz x) y bytes maxL none none d2 mc ms [.ref (BXz x + i)] E E1) (w1 : Cond.methodLink own idx y ∈ tb) (w2 : Cond.instanceMethod y ∈ tb) (w4 : Cond.initialized y.cls ∈ tb) (w5 : Cond.code y bytes maxL none ∈ tb) (hyn : y.name = "<init>") (hnm : y.cls ≠ "java/lang/invoke/MethodHandle" ∧ y.cls ≠ "java/lang/invoke/VarHandle" ∧ (parseMethodDescriptor y.desc).map (fun d => d.parameters.length) = some 0) (hd2 : d2 < d) (hm : maxL ≤ 19) (h1 : kc + mc ≤ (BXk x).1) (h2 : ks + ms ≤ (BXk x).2) (hrm : (rest.map fun v => v.category).sum ≤ 8) (hd : dc cc pc (.invokespecial idx) 3 pc2)
    (k : BV x E' pc2 L rest E1 (kc + mc) (ks + ms)) : BV x E' pc L (.ref (BXz x + i) :: rest) E kc ks := by
  obtain ⟨p, l, e, R, s, m, args, below, meth, c, D, z, n, k1, k2, Q⟩ := x
  obtain ⟨hx, hb, hml, hn, hown, hr, hlk, hts, hK, hW, ⟨hf, hkc, hks⟩, hlo, hz⟩ := G
  obtain ⟨hd, rfl⟩ := hd
  intro H locs ls hR hS hl
  refine b_run hz (va_runI (As := []) (rest := rest) ⟨hx, hb, hml, hown, hts⟩ hct (cwI 0 hts (tb_good w5 (fun _ h => h)) rfl rfl rfl (hts _ w4) (hts _ w1) (hts _ w2) hyn hnm ⟨?_, ?_⟩) ⟨bc_blind, fun U hU hWm => ⟨rfl, by rw [hU]; exact hR, va_K.moved hWm.alike hK, by rw [hU]; exact (hW.kept hS).warm hWm, by rw [hU]; exact Nat.le_trans hz hS.1⟩⟩ rfl rfl (hl.1.trans hn) rfl (lv_room hrm) hd ⟨Nat.le_trans h1 hkc, Nat.le_trans h2 hks⟩) hS hl k
  · show d2 + 1 ≤ R.frames; omega
  · show 8 + (maxL + 11) + 38 * d2 ≤ R.locals; omega
/-- an int into a row -/
theorem b_iast {cy : Nat → ClassId} {w : Nat × Nat} {x : BX} {E' : KE} {cc : ByteArray} {own : String} {nL d pc pc2 kc ks i N : Nat} {ini : Option (Bool × Option FieldType × BP)} {L : List (Nat × Value)} {rest : List Value} {E : KE} {f : Nat → Int32} {j v : Int32} (G : BG cy w x cc own nL ini d) (hi : i < E.2) (he : E.1 i = .inl (cy 1, N, .inl f)) (hin : ix j N) (hd : dc cc pc (.iastore) 1 pc2)
    (kk : BV x E' pc2 L rest (bU E i (.inl (cy 1, N, .inl (upd f j.toNatClampNeg v)))) kc ks) : BV x E' pc L (.int v :: .int j :: .ref (BXz x + i) :: rest) E kc ks := by
  obtain ⟨p, l, e, R, s, m, args, below, meth, c, D, z, n, k1, k2, Q⟩ := x
  obtain ⟨hx, hb, hml, hn, hown, hr, hlk, hts, hK, hW, ⟨hf, hkc, hks⟩, hlo, hz⟩ := G
  obtain ⟨hd, rfl⟩ := hd
  intro H locs ls hR hS hl
  have ha : (bws z E)[i]? = some (z + i, .inl (cy 1, N, .inl f)) := by rw [bws_at hi, he]
  refine W.iast hx hb (hR.1 i _ ha) ((hK.2 1 _ rfl).1 N (fun j => .int (f j))) (fun q => by cases q) (by show ¬ (j < 0 ∨ (arrV _ _ _).slots.size ≤ _); rw [arrV_size]; exact hin) rfl rfl hd fun H1 e1 e2 e3 => ?_
  refine kk H1 _ ls (BR_set hR hi ?_ e2 e3) (hS.put e2 e3 (Nat.le_add_right z i)) hl
  show H1[z + i]? = some (vp_cell _ _)
  rw [e1, vp_cell_i, vp_cell_i, arrV_store]
  congr 2
  funext q
  by_cases hq : q = j.toNatClampNeg
  · subst hq; simp [updV, upd]
  · simp [updV, upd, hq]
/-- a long into a row -/
theorem b_last {cy : Nat → ClassId} {w : Nat × Nat} {x : BX} {E' : KE} {cc : ByteArray} {own : String} {nL d pc pc2 kc ks i N : Nat} {ini : Option (Bool × Option FieldType × BP)} {L : List (Nat × Value)} {rest : List Value} {E : KE} {f : Nat → Int64} {j : Int32} {v : Int64} (G : BG cy w x cc own nL ini d) (hi : i < E.2) (he : E.1 i = .inl (cy 2, N, .inr (.inl f))) (hin : ix j N) (hd : dc cc pc (.lastore) 1 pc2)
    (kk : BV x E' pc2 L rest (bU E i (.inl (cy 2, N, .inr (.inl (vp_updL f j.toNatClampNeg v))))) kc ks) : BV x E' pc L (.long v :: .int j :: .ref (BXz x + i) :: rest) E kc ks := by
  obtain ⟨p, l, e, R, s, m, args, below, meth, c, D, z, n, k1, k2, Q⟩ := x
  obtain ⟨hx, hb, hml, hn, hown, hr, hlk, hts, hK, hW, ⟨hf, hkc, hks⟩, hlo, hz⟩ := G
  obtain ⟨hd, rfl⟩ := hd
  intro H locs ls hR hS hl
  have ha : (bws z E)[i]? = some (z + i, .inl (cy 2, N, .inr (.inl f))) := by rw [bws_at hi, he]
  refine W.last hx hb (hR.1 i _ ha) ((hK.2 2 _ rfl).1 N (fun j => .long (f j))) (fun q => by cases q) (by show ¬ (j < 0 ∨ (arrV _ _ _).slots.size ≤ _); rw [arrV_size]; exact hin) rfl rfl hd fun H1 e1 e2 e3 => ?_
  refine kk H1 _ ls (BR_set hR hi ?_ e2 e3) (hS.put e2 e3 (Nat.le_add_right z i)) hl
  show H1[z + i]? = some (vp_cell _ _)
  rw [e1, vp_cell_l, vp_cell_l, arrV_store]
  congr 2
  funext q
  by_cases hq : q = j.toNatClampNeg
  · subst hq; simp [updV, vp_updL]
  · simp [updV, vp_updL, hq]
/-- a new array of references -/
theorem b_anew {cy : Nat → ClassId} {w : Nat × Nat} {x : BX} {E' : KE} {cc : ByteArray} {own C : String} {nL d pc pc2 kc ks t0 N idx : Nat} {ini : Option (Bool × Option FieldType × BP)} {L : List (Nat × Value)} {rest : List Value} {E : KE} {n : Int32} (G : BG cy w x cc own nL ini d) (w1 : Cond.classLink own idx C ∈ tb) (hC : C = "NoonGuides$Tray" ∨ C = "NoonGuides$Land" ∨ C = "NoonGuides$Person") (ht : (ktys cy)[t0]? = some (cy t0, .object C)) (hn : ¬ n < 0) (hN : n.toNatClampNeg = N) (hby : N * 4 ≤ 536870912) (h1 : kc + 1 ≤ (BXk x).1) (h2 : ks + N ≤ (BXk x).2) (hd : dc cc pc (.anewarray idx) 3 pc2)
    (kk : BV x E' pc2 L (.ref (BXz x + E.2) :: rest) (bN E (.inl (cy t0, N, .inr (.inr (.inr (.inr (fun _ => none))))))) (kc + 1) (ks + N)) : BV x E' pc L (.int n :: rest) E kc ks := by
  obtain ⟨p, l, e, R, s, m, args, below, meth, c, D, z, nn, k1, k2, Q⟩ := x
  obtain ⟨hx, hb, hml, hnn, hown, hr, hlk, hts, hK, hW, ⟨hf, hkc, hks⟩, hlo, hz⟩ := G
  obtain ⟨hd, rfl⟩ := hd
  subst hN
  intro H locs ls hR hS hl
  have hao : va_AO C s := by
    rcases hC with h | h | h <;> subst h
    · exact hW.2.1.1
    · exact hW.2.1.2.1
    · exact hW.2.1.2.2
  refine W.anew hx hb hown (hts _ w1) (va_AO.use hao) rfl hd rfl hn hby (Nat.le_trans h1 hkc) (Nat.le_trans h2 hks) fun cA kA comp f1 f2 f3 f4 => ?_
  have hc : cA = cy t0 := by
    obtain ⟨kA2, comp2, g1, g2, g3, g4⟩ := (hK.2 t0 _ ht).2
    exact Option.some.inj (f1.symm.trans g4)
  subst hc
  rw [hR.2]
  refine kk _ locs ls (bws_new hR ?_ (by rw [Array.size_push]) (fun q hq => by rw [Array.getElem?_push, if_neg (Nat.ne_of_lt hq)])) ⟨Nat.le_trans hS.1 (by rw [Array.size_push]; omega), fun q u v => by rw [Array.getElem?_push, if_neg (Nat.ne_of_lt (Nat.lt_of_lt_of_le u hS.1))]; exact hS.2.1 q u v, hS.2.2⟩ hl
  show (H.push _)[H.size]? = some (vp_cell _ _)
  rw [Array.getElem?_push_size, vp_cell_q, ← arrV_new]
  rfl
/-- an object into a row of references -/
theorem b_aast {cy : Nat → ClassId} {w : Nat × Nat} {x : BX} {E' : KE} {cc : ByteArray} {own : String} {nL d pc pc2 kc ks i o N t0 ci : Nat} {ini : Option (Bool × Option FieldType × BP)} {L : List (Nat × Value)} {rest vs : List Value} {E : KE} {f : Nat → Option Nat} {j : Int32} {r : vw_C} (G : BG cy w x cc own nL ini d) (hi : i < E.2) (he : E.1 i = .inl (cy t0, N, .inr (.inr (.inr (.inr f))))) (ho : o < E.2) (hv : E.1 o = .inr (ci, vs)) (hc : vwCl[ci]? = some r) (ht : (ktys cy)[t0]? = some (cy t0, .object r.1)) (hin : ix j N) (hd : dc cc pc (.aastore) 1 pc2)
    (kk : BV x E' pc2 L rest (bU E i (.inl (cy t0, N, .inr (.inr (.inr (.inr (va_up f j.toNatClampNeg (some (BXz x + o))))))))) kc ks) : BV x E' pc L (.ref (BXz x + o) :: .int j :: .ref (BXz x + i) :: rest) E kc ks := by
  obtain ⟨p, l, e, R, s, m, args, below, meth, c, D, z, n, k1, k2, Q⟩ := x
  obtain ⟨hx, hb, hml, hn, hown, hr, hlk, hts, hK, hW, ⟨hf, hkc, hks⟩, hlo, hz⟩ := G
  obtain ⟨hd, rfl⟩ := hd
  intro H locs ls hR hS hl
  have ha : (bws z E)[i]? = some (z + i, .inl (cy t0, N, .inr (.inr (.inr (.inr f))))) := by rw [bws_at hi, he]
  have hlt : j.toNatClampNeg < N := Nat.not_le.mp fun q => hin (Or.inr q)
  have h0 : ¬ j < 0 := fun q => hin (Or.inl q)
  obtain ⟨r', hr', cellV, g1, g2, g3, -⟩ := hR.1 o (z + o, .inr (ci, vs)) (by rw [bws_at ho, hv])
  have hcls := (hK.1 ci r hc).2
  obtain ⟨kA, comp, q1, q2, q3, -⟩ := (hK.2 t0 _ ht).2
  have hcomp : comp = D.1 ci := Option.some.inj (q3.symm.trans hcls.1)
  subst hcomp
  obtain ⟨kC, hkC, -⟩ := hcls.2
  refine W.aast hx hb (hR.1 i _ ha) (fun q h => by cases h) (fun h => by cases h) q1 q2 rfl hkC ⟨h0, by show _ < (arrV _ _ _).slots.size; rw [arrV_size]; exact hlt⟩ g1 (fun q h => by rw [g3] at h; cases h) (by rw [g2]; exact hkC) (by rw [g2]; exact va_assign hcls) rfl rfl hd fun H1 e1 e2 e3 => ?_
  refine kk H1 _ ls (BR_set hR hi ?_ e2 e3) (hS.put e2 e3 (Nat.le_add_right z i)) hl
  show H1[z + i]? = some (vp_cell _ _)
  rw [e1, vp_cell_q, vp_cell_q, arrV_store]
  congr 2
  funext q
  by_cases hq : q = j.toNatClampNeg
  · subst hq; simp [updV, va_up, va_rf]
  · simp [updV, va_up, hq]
/-- a field is read -/
theorem b_get {cy : Nat → ClassId} {w : Nat × Nat} {x : BX} {E' : KE} {cc : ByteArray} {own ref C : String} {nL d pc pc2 kc ks idx ci N i : Nat} {ini : Option (Bool × Option FieldType × BP)} {T : u_T} {L : List (Nat × Value)} {rest fs : List Value} {v : Value} {E : KE} (G : BG cy w x cc own nL ini d) (hi : i < E.2) (he : E.1 i = .inr (ci, fs)) (hc : vwCl[ci]? = some (C, T, N)) (k : Nat) (hkN : k < N) (hin : ∀ w ∈ u_ws C T N, w ∈ tb) (hlink : Cond.fieldLink own idx ref (T k).2.1 (T k).2.2.1 ∈ tb) (hsame : ref = (T k).1 ∨ Cond.sameField ref (T k).1 (T k).2.1 (T k).2.2.1 ∈ tb) (hv : fs[k]? = some v) (hd : dc cc pc (.getfield idx) 3 pc2)
    (kk : BV x E' pc2 L (v :: rest) E kc ks) : BV x E' pc L (.ref (BXz x + i) :: rest) E kc ks := by
  obtain ⟨p, l, e, R, s, m, args, below, meth, c, D, z, n, k1, k2, Q⟩ := x
  obtain ⟨hx, hb, hml, hn, hown, hr, hlk, hts, hK, hW, ⟨hf, hkc, hks⟩, hlo, hz⟩ := G
  obtain ⟨hd, rfl⟩ := hd
  intro H locs ls hR hS hl
  refine va_get (q0 := i) hx hb hts hin hown hK hR.1 (by rw [bws_at hi, he]) hc k hkN (hts _ hlink) (fun y hy => ?_) hv hd (kk H locs ls hR hS hl)
  rcases hsame with h | h
  · rw [h]; exact hy
  · exact u_same (hts _ h) y hy
/-- a nest mate's constructor is called -/
theorem b_callN {cy : Nat → ClassId} {w : Nat × Nat} {x : BX} {E' E1 : KE} {cc : ByteArray} {own host : String} {nL d pc pc2 kc ks idx i mc ms d2 maxL : Nat} {ini : Option (Bool × Option FieldType × BP)} {y : MethodName} {bytes : ByteArray} {L : List (Nat × Value)} {rest : List Value} {E : KE} (G : BG cy w x cc own nL ini d) (hct : BC x.2.1 cy w x.2.2.2.2.2.2.2.2.2.2.1 (BXz x) y bytes maxL none none d2 mc ms [.ref (BXz x + i)] E E1) (w1 : Cond.methodLinkNest own idx y host ∈ nestL) (w2 : Cond.instanceMethod y ∈ tb) (w4 : Cond.initialized y.cls ∈ tb) (w5 : Cond.code y bytes maxL none ∈ tb) (hyn : y.name = "<init>") (hnm : y.cls ≠ "java/lang/invoke/MethodHandle" ∧ y.cls ≠ "java/lang/invoke/VarHandle" ∧ (parseMethodDescriptor y.desc).map (fun d => d.parameters.length) = some 0) (hd2 : d2 < d) (hm : maxL ≤ 19) (h1 : kc + mc ≤ (BXk x).1) (h2 : ks + ms ≤ (BXk x).2) (hrm : (rest.map fun v => v.category).sum ≤ 8) (hd : dc cc pc (.invokespecial idx) 3 pc2)
    (k : BV x E' pc2 L rest E1 (kc + mc) (ks + ms)) : BV x E' pc L (.ref (BXz x + i) :: rest) E kc ks := by
  obtain ⟨p, l, e, R, s, m, args, below, meth, c, D, z, n, k1, k2, Q⟩ := x
  obtain ⟨hx, hb, hml, hn, hown, hr, hlk, hts, hK, hW, ⟨hf, hkc, hks⟩, hlo, hz⟩ := G
  obtain ⟨hd, rfl⟩ := hd
  intro H locs ls hR hS hl
  refine b_run hz (va_runIN (As := []) (rest := rest) ⟨hx, hb, hml, hown, hts⟩ hct ⟨va_cnB 0 hts (tb_good w5 (fun _ h => h)) rfl rfl rfl (hW.1 _ w1) (hts _ w4) hnm ⟨?_, ?_⟩, hyn, hts _ w2⟩ ⟨bc_blind, fun U hU hWm => ⟨rfl, by rw [hU]; exact hR, va_K.moved hWm.alike hK, by rw [hU]; exact (hW.kept hS).warm hWm, by rw [hU]; exact Nat.le_trans hz hS.1⟩⟩ rfl rfl (hl.1.trans hn) rfl (lv_room hrm) hd ⟨Nat.le_trans h1 hkc, Nat.le_trans h2 hks⟩) hS hl k
  · show d2 + 1 ≤ R.frames; omega
  · show 8 + (maxL + 11) + 38 * d2 ≤ R.locals; omega
theorem b_ladd {cy : Nat → ClassId} {w : Nat × Nat} {x : BX} {E' : KE} {cc : ByteArray} {own : String} {nL d pc pc2 : Nat} {ini : Option (Bool × Option FieldType × BP)} {kc ks : Nat} {L : List (Nat × Value)} {rest : List Value} {E : KE} {a b : Int64} (G : BG cy w x cc own nL ini d) (hd : dc cc pc (.ladd) 1 pc2)  (k : BV x E' (pc2) L (.long (a + b) :: rest) E kc ks) : BV x E' (pc) L (.long b :: .long a :: rest) E kc ks := by
  obtain ⟨p, l, e, R, s, m, args, below, meth, c, D, z, n, k1, k2, Q⟩ := x
  obtain ⟨hx, hb, hml, hn, hown, hr, hlk, hts, hK, hW, ⟨hf, hkc, hks⟩, hlo, hz⟩ := G
  obtain ⟨hd, rfl⟩ := hd
  intro H locs ls hR hS hl
  exact lv_ladd hx hb hd  (k H locs ls hR hS hl)
theorem b_lsub {cy : Nat → ClassId} {w : Nat × Nat} {x : BX} {E' : KE} {cc : ByteArray} {own : String} {nL d pc pc2 : Nat} {ini : Option (Bool × Option FieldType × BP)} {kc ks : Nat} {L : List (Nat × Value)} {rest : List Value} {E : KE} {a b : Int64} (G : BG cy w x cc own nL ini d) (hd : dc cc pc (.lsub) 1 pc2)  (k : BV x E' (pc2) L (.long (a - b) :: rest) E kc ks) : BV x E' (pc) L (.long b :: .long a :: rest) E kc ks := by
  obtain ⟨p, l, e, R, s, m, args, below, meth, c, D, z, n, k1, k2, Q⟩ := x
  obtain ⟨hx, hb, hml, hn, hown, hr, hlk, hts, hK, hW, ⟨hf, hkc, hks⟩, hlo, hz⟩ := G
  obtain ⟨hd, rfl⟩ := hd
  intro H locs ls hR hS hl
  exact lv_lsub hx hb hd  (k H locs ls hR hS hl)
theorem b_lmul {cy : Nat → ClassId} {w : Nat × Nat} {x : BX} {E' : KE} {cc : ByteArray} {own : String} {nL d pc pc2 : Nat} {ini : Option (Bool × Option FieldType × BP)} {kc ks : Nat} {L : List (Nat × Value)} {rest : List Value} {E : KE} {a b : Int64} (G : BG cy w x cc own nL ini d) (hd : dc cc pc (.lmul) 1 pc2)  (k : BV x E' (pc2) L (.long (a * b) :: rest) E kc ks) : BV x E' (pc) L (.long b :: .long a :: rest) E kc ks := by
  obtain ⟨p, l, e, R, s, m, args, below, meth, c, D, z, n, k1, k2, Q⟩ := x
  obtain ⟨hx, hb, hml, hn, hown, hr, hlk, hts, hK, hW, ⟨hf, hkc, hks⟩, hlo, hz⟩ := G
  obtain ⟨hd, rfl⟩ := hd
  intro H locs ls hR hS hl
  exact lv_lmul hx hb hd  (k H locs ls hR hS hl)
theorem b_iadd {cy : Nat → ClassId} {w : Nat × Nat} {x : BX} {E' : KE} {cc : ByteArray} {own : String} {nL d pc pc2 : Nat} {ini : Option (Bool × Option FieldType × BP)} {kc ks : Nat} {L : List (Nat × Value)} {rest : List Value} {E : KE} {a b : Int32} (G : BG cy w x cc own nL ini d) (hd : dc cc pc (.iadd) 1 pc2)  (k : BV x E' (pc2) L (.int (a + b) :: rest) E kc ks) : BV x E' (pc) L (.int b :: .int a :: rest) E kc ks := by
  obtain ⟨p, l, e, R, s, m, args, below, meth, c, D, z, n, k1, k2, Q⟩ := x
  obtain ⟨hx, hb, hml, hn, hown, hr, hlk, hts, hK, hW, ⟨hf, hkc, hks⟩, hlo, hz⟩ := G
  obtain ⟨hd, rfl⟩ := hd
  intro H locs ls hR hS hl
  exact lv_iadd hx hb hd  (k H locs ls hR hS hl)
theorem b_i2l {cy : Nat → ClassId} {w : Nat × Nat} {x : BX} {E' : KE} {cc : ByteArray} {own : String} {nL d pc pc2 : Nat} {ini : Option (Bool × Option FieldType × BP)} {kc ks : Nat} {L : List (Nat × Value)} {rest : List Value} {E : KE} {a : Int32} (G : BG cy w x cc own nL ini d) (hd : dc cc pc (.i2l) 1 pc2)  (k : BV x E' (pc2) L (.long a.toInt64 :: rest) E kc ks) : BV x E' (pc) L (.int a :: rest) E kc ks := by
  obtain ⟨p, l, e, R, s, m, args, below, meth, c, D, z, n, k1, k2, Q⟩ := x
  obtain ⟨hx, hb, hml, hn, hown, hr, hlk, hts, hK, hW, ⟨hf, hkc, hks⟩, hlo, hz⟩ := G
  obtain ⟨hd, rfl⟩ := hd
  intro H locs ls hR hS hl
  exact lv_i2l hx hb hd rfl (k H locs ls hR hS hl)
theorem b_iconst {cy : Nat → ClassId} {w : Nat × Nat} {x : BX} {E' : KE} {cc : ByteArray} {own : String} {nL d pc pc2 : Nat} {ini : Option (Bool × Option FieldType × BP)} {kc ks : Nat} {L : List (Nat × Value)} {rest : List Value} {E : KE} {i : Int} (v : Int32) (G : BG cy w x cc own nL ini d) (hd : dc cc pc (.iconst i) 1 pc2) (hv : Int32.ofInt i = v) (k : BV x E' (pc2) L (.int v :: rest) E kc ks) : BV x E' (pc) L (rest) E kc ks := by
  obtain ⟨p, l, e, R, s, m, args, below, meth, c, D, z, n, k1, k2, Q⟩ := x
  obtain ⟨hx, hb, hml, hn, hown, hr, hlk, hts, hK, hW, ⟨hf, hkc, hks⟩, hlo, hz⟩ := G
  obtain ⟨hd, rfl⟩ := hd
  intro H locs ls hR hS hl
  exact lv_iconst hx hb hd hv (k H locs ls hR hS hl)
theorem b_bipush {cy : Nat → ClassId} {w : Nat × Nat} {x : BX} {E' : KE} {cc : ByteArray} {own : String} {nL d pc pc2 : Nat} {ini : Option (Bool × Option FieldType × BP)} {kc ks : Nat} {L : List (Nat × Value)} {rest : List Value} {E : KE} {i : Int} (v : Int32) (G : BG cy w x cc own nL ini d) (hd : dc cc pc (.bipush i) 2 pc2) (hv : (Int8.ofInt i).toInt32 = v) (k : BV x E' (pc2) L (.int v :: rest) E kc ks) : BV x E' (pc) L (rest) E kc ks := by
  obtain ⟨p, l, e, R, s, m, args, below, meth, c, D, z, n, k1, k2, Q⟩ := x
  obtain ⟨hx, hb, hml, hn, hown, hr, hlk, hts, hK, hW, ⟨hf, hkc, hks⟩, hlo, hz⟩ := G
  obtain ⟨hd, rfl⟩ := hd
  intro H locs ls hR hS hl
  exact lv_bipush hx hb hd hv (k H locs ls hR hS hl)
theorem b_sipush {cy : Nat → ClassId} {w : Nat × Nat} {x : BX} {E' : KE} {cc : ByteArray} {own : String} {nL d pc pc2 : Nat} {ini : Option (Bool × Option FieldType × BP)} {kc ks : Nat} {L : List (Nat × Value)} {rest : List Value} {E : KE} {i : Int} (v : Int32) (G : BG cy w x cc own nL ini d) (hd : dc cc pc (.sipush i) 3 pc2) (hv : (Int16.ofInt i).toInt32 = v) (k : BV x E' (pc2) L (.int v :: rest) E kc ks) : BV x E' (pc) L (rest) E kc ks := by
  obtain ⟨p, l, e, R, s, m, args, below, meth, c, D, z, n, k1, k2, Q⟩ := x
  obtain ⟨hx, hb, hml, hn, hown, hr, hlk, hts, hK, hW, ⟨hf, hkc, hks⟩, hlo, hz⟩ := G
  obtain ⟨hd, rfl⟩ := hd
  intro H locs ls hR hS hl
  exact lv_sipush hx hb hd hv (k H locs ls hR hS hl)
theorem b_lconst {cy : Nat → ClassId} {w : Nat × Nat} {x : BX} {E' : KE} {cc : ByteArray} {own : String} {nL d pc pc2 : Nat} {ini : Option (Bool × Option FieldType × BP)} {kc ks : Nat} {L : List (Nat × Value)} {rest : List Value} {E : KE} {i : Fin 2} (v : Int64) (G : BG cy w x cc own nL ini d) (hd : dc cc pc (.lconst i) 1 pc2) (hv : Int64.ofNat (i : Nat) = v) (k : BV x E' (pc2) L (.long v :: rest) E kc ks) : BV x E' (pc) L (rest) E kc ks := by
  obtain ⟨p, l, e, R, s, m, args, below, meth, c, D, z, n, k1, k2, Q⟩ := x
  obtain ⟨hx, hb, hml, hn, hown, hr, hlk, hts, hK, hW, ⟨hf, hkc, hks⟩, hlo, hz⟩ := G
  obtain ⟨hd, rfl⟩ := hd
  intro H locs ls hR hS hl
  exact lv_lconst hx hb hd hv (k H locs ls hR hS hl)
theorem b_ldc2 {cy : Nat → ClassId} {w : Nat × Nat} {x : BX} {E' : KE} {cc : ByteArray} {own : String} {nL d pc pc2 : Nat} {ini : Option (Bool × Option FieldType × BP)} {kc ks : Nat} {L : List (Nat × Value)} {rest : List Value} {E : KE} {i : Nat} {v : Int64} (G : BG cy w x cc own nL ini d) (hd : dc cc pc (.ldc2_w i) 3 pc2) (hc : Cond.constantLong own i v ∈ tb) (k : BV x E' (pc2) L (.long v :: rest) E kc ks) : BV x E' (pc) L (rest) E kc ks := by
  obtain ⟨p, l, e, R, s, m, args, below, meth, c, D, z, n, k1, k2, Q⟩ := x
  obtain ⟨hx, hb, hml, hn, hown, hr, hlk, hts, hK, hW, ⟨hf, hkc, hks⟩, hlo, hz⟩ := G
  obtain ⟨hd, rfl⟩ := hd
  intro H locs ls hR hS hl
  exact lv_ldc2 hx hb hown (hts _ hc) hd (k H locs ls hR hS hl)
theorem b_dup {cy : Nat → ClassId} {w : Nat × Nat} {x : BX} {E' : KE} {cc : ByteArray} {own : String} {nL d pc pc2 : Nat} {ini : Option (Bool × Option FieldType × BP)} {kc ks : Nat} {L : List (Nat × Value)} {rest : List Value} {E : KE} {va : Value} (G : BG cy w x cc own nL ini d) (hd : dc cc pc (.dup) 1 pc2) (hc : va.category = 1) (k : BV x E' (pc2) L (va :: va :: rest) E kc ks) : BV x E' (pc) L (va :: rest) E kc ks := by
  obtain ⟨p, l, e, R, s, m, args, below, meth, c, D, z, n, k1, k2, Q⟩ := x
  obtain ⟨hx, hb, hml, hn, hown, hr, hlk, hts, hK, hW, ⟨hf, hkc, hks⟩, hlo, hz⟩ := G
  obtain ⟨hd, rfl⟩ := hd
  intro H locs ls hR hS hl
  exact lv_dup hx hb hd hc (k H locs ls hR hS hl)
theorem b_iload_n {cy : Nat → ClassId} {w : Nat × Nat} {x : BX} {E' : KE} {cc : ByteArray} {own : String} {nL d pc pc2 : Nat} {ini : Option (Bool × Option FieldType × BP)} {kc ks : Nat} {L : List (Nat × Value)} {rest : List Value} {E : KE} {f : Fin 4} {v : Int32} (G : BG cy w x cc own nL ini d) (hd : dc cc pc (.iload_n f) 1 pc2) (j : Nat) (h : L[j]? = some ((f : Nat), .int v)) (k : BV x E' (pc2) L (.int v :: rest) E kc ks) : BV x E' (pc) L (rest) E kc ks := by
  obtain ⟨p, l, e, R, s, m, args, below, meth, c, D, z, n, k1, k2, Q⟩ := x
  obtain ⟨hx, hb, hml, hn, hown, hr, hlk, hts, hK, hW, ⟨hf, hkc, hks⟩, hlo, hz⟩ := G
  obtain ⟨hd, rfl⟩ := hd
  intro H locs ls hR hS hl
  exact lv_iload_n hx hb hd rfl (lv_at hl j h) (k H locs ls hR hS hl)
theorem b_istore_n {cy : Nat → ClassId} {w : Nat × Nat} {x : BX} {E' : KE} {cc : ByteArray} {own : String} {nL d pc pc2 : Nat} {ini : Option (Bool × Option FieldType × BP)} {kc ks : Nat} {L : List (Nat × Value)} {rest : List Value} {E : KE} {f : Fin 4} {v : Int32} (L2 : List (Nat × Value)) (G : BG cy w x cc own nL ini d) (hd : dc cc pc (.istore_n f) 1 pc2) (hi : (f : Nat) < nL) (hL : ((f : Nat), Value.int v) :: L.filter (fun q => !(q.1 == (f : Nat)) && !(q.1 + 1 == (f : Nat) && q.2.category == 2)) = L2) (k : BV x E' (pc2) L2 (rest) E kc ks) : BV x E' (pc) L (.int v :: rest) E kc ks := by
  obtain ⟨p, l, e, R, s, m, args, below, meth, c, D, z, n, k1, k2, Q⟩ := x
  obtain ⟨hx, hb, hml, hn, hown, hr, hlk, hts, hK, hW, ⟨hf, hkc, hks⟩, hlo, hz⟩ := G
  obtain ⟨hd, rfl⟩ := hd
  subst hn
  intro H locs ls hR hS hl
  exact lv_istore_n hx hb hd rfl hl hi hL (fun ls2 hl2 => k H locs ls2 hR hS hl2)
theorem b_iload {cy : Nat → ClassId} {w : Nat × Nat} {x : BX} {E' : KE} {cc : ByteArray} {own : String} {nL d pc pc2 : Nat} {ini : Option (Bool × Option FieldType × BP)} {kc ks : Nat} {L : List (Nat × Value)} {rest : List Value} {E : KE} {i : Nat} {v : Int32} (G : BG cy w x cc own nL ini d) (hd : dc cc pc (.iload i) 2 pc2) (j : Nat) (h : L[j]? = some (i, .int v)) (k : BV x E' (pc2) L (.int v :: rest) E kc ks) : BV x E' (pc) L (rest) E kc ks := by
  obtain ⟨p, l, e, R, s, m, args, below, meth, c, D, z, n, k1, k2, Q⟩ := x
  obtain ⟨hx, hb, hml, hn, hown, hr, hlk, hts, hK, hW, ⟨hf, hkc, hks⟩, hlo, hz⟩ := G
  obtain ⟨hd, rfl⟩ := hd
  intro H locs ls hR hS hl
  exact lv_iload hx hb hd  (lv_at hl j h) (k H locs ls hR hS hl)
theorem b_istore {cy : Nat → ClassId} {w : Nat × Nat} {x : BX} {E' : KE} {cc : ByteArray} {own : String} {nL d pc pc2 : Nat} {ini : Option (Bool × Option FieldType × BP)} {kc ks : Nat} {L : List (Nat × Value)} {rest : List Value} {E : KE} {i : Nat} {v : Int32} (L2 : List (Nat × Value)) (G : BG cy w x cc own nL ini d) (hd : dc cc pc (.istore i) 2 pc2) (hi : i < nL) (hL : (i, Value.int v) :: L.filter (fun q => !(q.1 == i) && !(q.1 + 1 == i && q.2.category == 2)) = L2) (k : BV x E' (pc2) L2 (rest) E kc ks) : BV x E' (pc) L (.int v :: rest) E kc ks := by
  obtain ⟨p, l, e, R, s, m, args, below, meth, c, D, z, n, k1, k2, Q⟩ := x
  obtain ⟨hx, hb, hml, hn, hown, hr, hlk, hts, hK, hW, ⟨hf, hkc, hks⟩, hlo, hz⟩ := G
  obtain ⟨hd, rfl⟩ := hd
  subst hn
  intro H locs ls hR hS hl
  exact lv_istore hx hb hd  hl hi hL (fun ls2 hl2 => k H locs ls2 hR hS hl2)
theorem b_lload_n {cy : Nat → ClassId} {w : Nat × Nat} {x : BX} {E' : KE} {cc : ByteArray} {own : String} {nL d pc pc2 : Nat} {ini : Option (Bool × Option FieldType × BP)} {kc ks : Nat} {L : List (Nat × Value)} {rest : List Value} {E : KE} {f : Fin 4} {v : Int64} (G : BG cy w x cc own nL ini d) (hd : dc cc pc (.lload_n f) 1 pc2) (j : Nat) (h : L[j]? = some ((f : Nat), .long v)) (k : BV x E' (pc2) L (.long v :: rest) E kc ks) : BV x E' (pc) L (rest) E kc ks := by
  obtain ⟨p, l, e, R, s, m, args, below, meth, c, D, z, n, k1, k2, Q⟩ := x
  obtain ⟨hx, hb, hml, hn, hown, hr, hlk, hts, hK, hW, ⟨hf, hkc, hks⟩, hlo, hz⟩ := G
  obtain ⟨hd, rfl⟩ := hd
  intro H locs ls hR hS hl
  exact lv_lload_n hx hb hd rfl (lv_at hl j h) (k H locs ls hR hS hl)
theorem b_lstore_n {cy : Nat → ClassId} {w : Nat × Nat} {x : BX} {E' : KE} {cc : ByteArray} {own : String} {nL d pc pc2 : Nat} {ini : Option (Bool × Option FieldType × BP)} {kc ks : Nat} {L : List (Nat × Value)} {rest : List Value} {E : KE} {f : Fin 4} {v : Int64} (L2 : List (Nat × Value)) (G : BG cy w x cc own nL ini d) (hd : dc cc pc (.lstore_n f) 1 pc2) (hi : (f : Nat) + 1 < nL) (hL : ((f : Nat), Value.long v) :: L.filter (fun q => !(q.1 == (f : Nat)) && (!(q.1 == (f : Nat) + 1) && !(q.1 + 1 == (f : Nat) && q.2.category == 2))) = L2) (k : BV x E' (pc2) L2 (rest) E kc ks) : BV x E' (pc) L (.long v :: rest) E kc ks := by
  obtain ⟨p, l, e, R, s, m, args, below, meth, c, D, z, n, k1, k2, Q⟩ := x
  obtain ⟨hx, hb, hml, hn, hown, hr, hlk, hts, hK, hW, ⟨hf, hkc, hks⟩, hlo, hz⟩ := G
  obtain ⟨hd, rfl⟩ := hd
  subst hn
  intro H locs ls hR hS hl
  exact lv_lstore_n hx hb hd rfl hl hi hL (fun ls2 hl2 => k H locs ls2 hR hS hl2)
theorem b_lload {cy : Nat → ClassId} {w : Nat × Nat} {x : BX} {E' : KE} {cc : ByteArray} {own : String} {nL d pc pc2 : Nat} {ini : Option (Bool × Option FieldType × BP)} {kc ks : Nat} {L : List (Nat × Value)} {rest : List Value} {E : KE} {i : Nat} {v : Int64} (G : BG cy w x cc own nL ini d) (hd : dc cc pc (.lload i) 2 pc2) (j : Nat) (h : L[j]? = some (i, .long v)) (k : BV x E' (pc2) L (.long v :: rest) E kc ks) : BV x E' (pc) L (rest) E kc ks := by
  obtain ⟨p, l, e, R, s, m, args, below, meth, c, D, z, n, k1, k2, Q⟩ := x
  obtain ⟨hx, hb, hml, hn, hown, hr, hlk, hts, hK, hW, ⟨hf, hkc, hks⟩, hlo, hz⟩ := G
  obtain ⟨hd, rfl⟩ := hd
  intro H locs ls hR hS hl
  exact lv_lload hx hb hd  (lv_at hl j h) (k H locs ls hR hS hl)
theorem b_lstore {cy : Nat → ClassId} {w : Nat × Nat} {x : BX} {E' : KE} {cc : ByteArray} {own : String} {nL d pc pc2 : Nat} {ini : Option (Bool × Option FieldType × BP)} {kc ks : Nat} {L : List (Nat × Value)} {rest : List Value} {E : KE} {i : Nat} {v : Int64} (L2 : List (Nat × Value)) (G : BG cy w x cc own nL ini d) (hd : dc cc pc (.lstore i) 2 pc2) (hi : i + 1 < nL) (hL : (i, Value.long v) :: L.filter (fun q => !(q.1 == i) && (!(q.1 == i + 1) && !(q.1 + 1 == i && q.2.category == 2))) = L2) (k : BV x E' (pc2) L2 (rest) E kc ks) : BV x E' (pc) L (.long v :: rest) E kc ks := by
  obtain ⟨p, l, e, R, s, m, args, below, meth, c, D, z, n, k1, k2, Q⟩ := x
  obtain ⟨hx, hb, hml, hn, hown, hr, hlk, hts, hK, hW, ⟨hf, hkc, hks⟩, hlo, hz⟩ := G
  obtain ⟨hd, rfl⟩ := hd
  subst hn
  intro H locs ls hR hS hl
  exact lv_lstore hx hb hd  hl hi hL (fun ls2 hl2 => k H locs ls2 hR hS hl2)
theorem b_aload_n {cy : Nat → ClassId} {w : Nat × Nat} {x : BX} {E' : KE} {cc : ByteArray} {own : String} {nL d pc pc2 : Nat} {ini : Option (Bool × Option FieldType × BP)} {kc ks : Nat} {L : List (Nat × Value)} {rest : List Value} {E : KE} {f : Fin 4} {v : Nat} (G : BG cy w x cc own nL ini d) (hd : dc cc pc (.aload_n f) 1 pc2) (j : Nat) (h : L[j]? = some ((f : Nat), .ref v)) (k : BV x E' (pc2) L (.ref v :: rest) E kc ks) : BV x E' (pc) L (rest) E kc ks := by
  obtain ⟨p, l, e, R, s, m, args, below, meth, c, D, z, n, k1, k2, Q⟩ := x
  obtain ⟨hx, hb, hml, hn, hown, hr, hlk, hts, hK, hW, ⟨hf, hkc, hks⟩, hlo, hz⟩ := G
  obtain ⟨hd, rfl⟩ := hd
  intro H locs ls hR hS hl
  exact lv_aload_n hx hb hd rfl (lv_at hl j h) (k H locs ls hR hS hl)
theorem b_aload {cy : Nat → ClassId} {w : Nat × Nat} {x : BX} {E' : KE} {cc : ByteArray} {own : String} {nL d pc pc2 : Nat} {ini : Option (Bool × Option FieldType × BP)} {kc ks : Nat} {L : List (Nat × Value)} {rest : List Value} {E : KE} {i : Nat} {v : Nat} (G : BG cy w x cc own nL ini d) (hd : dc cc pc (.aload i) 2 pc2) (j : Nat) (h : L[j]? = some (i, .ref v)) (k : BV x E' (pc2) L (.ref v :: rest) E kc ks) : BV x E' (pc) L (rest) E kc ks := by
  obtain ⟨p, l, e, R, s, m, args, below, meth, c, D, z, n, k1, k2, Q⟩ := x
  obtain ⟨hx, hb, hml, hn, hown, hr, hlk, hts, hK, hW, ⟨hf, hkc, hks⟩, hlo, hz⟩ := G
  obtain ⟨hd, rfl⟩ := hd
  intro H locs ls hR hS hl
  exact lv_aload hx hb hd  (lv_at hl j h) (k H locs ls hR hS hl)
theorem b_astore_n {cy : Nat → ClassId} {w : Nat × Nat} {x : BX} {E' : KE} {cc : ByteArray} {own : String} {nL d pc pc2 : Nat} {ini : Option (Bool × Option FieldType × BP)} {kc ks : Nat} {L : List (Nat × Value)} {rest : List Value} {E : KE} {f : Fin 4} {v : Nat} (L2 : List (Nat × Value)) (G : BG cy w x cc own nL ini d) (hd : dc cc pc (.astore_n f) 1 pc2) (hi : (f : Nat) < nL) (hL : ((f : Nat), Value.ref v) :: L.filter (fun q => !(q.1 == (f : Nat)) && !(q.1 + 1 == (f : Nat) && q.2.category == 2)) = L2) (k : BV x E' (pc2) L2 (rest) E kc ks) : BV x E' (pc) L (.ref v :: rest) E kc ks := by
  obtain ⟨p, l, e, R, s, m, args, below, meth, c, D, z, n, k1, k2, Q⟩ := x
  obtain ⟨hx, hb, hml, hn, hown, hr, hlk, hts, hK, hW, ⟨hf, hkc, hks⟩, hlo, hz⟩ := G
  obtain ⟨hd, rfl⟩ := hd
  subst hn
  intro H locs ls hR hS hl
  exact lv_astore_n hx hb hd rfl hl hi hL (fun ls2 hl2 => k H locs ls2 hR hS hl2)
theorem b_iinc {cy : Nat → ClassId} {w : Nat × Nat} {x : BX} {E' : KE} {cc : ByteArray} {own : String} {nL d pc pc2 : Nat} {ini : Option (Bool × Option FieldType × BP)} {kc ks : Nat} {L : List (Nat × Value)} {rest : List Value} {E : KE} {i : Nat} {q : Int} {v : Int32} (v2 : Int32) (L2 : List (Nat × Value)) (G : BG cy w x cc own nL ini d) (hd : dc cc pc (.iinc i q) 3 pc2) (j : Nat) (h : L[j]? = some (i, .int v)) (hv : v + Int32.ofInt q = v2) (hi : i < nL) (hL : (i, Value.int v2) :: L.filter (fun q => !(q.1 == i) && !(q.1 + 1 == i && q.2.category == 2)) = L2) (k : BV x E' (pc2) L2 (rest) E kc ks) : BV x E' (pc) L (rest) E kc ks := by
  obtain ⟨p, l, e, R, s, m, args, below, meth, c, D, z, n, k1, k2, Q⟩ := x
  obtain ⟨hx, hb, hml, hn, hown, hr, hlk, hts, hK, hW, ⟨hf, hkc, hks⟩, hlo, hz⟩ := G
  obtain ⟨hd, rfl⟩ := hd
  subst hn
  intro H locs ls hR hS hl
  exact lv_iinc hx hb hd hl h hv hi hL (fun ls2 hl2 => k H locs ls2 hR hS hl2)
theorem b_icmp_ge {cy : Nat → ClassId} {w : Nat × Nat} {x : BX} {E' : KE} {cc : ByteArray} {own : String} {nL d pc pc2 : Nat} {ini : Option (Bool × Option FieldType × BP)} {kc ks : Nat} {L : List (Nat × Value)} {rest : List Value} {E : KE} {a b : Int32} {off : Int} (tgt : Nat) (G : BG cy w x cc own nL ini d) (hd : dc cc pc (.if_icmp .ge off) 3 pc2) (ht : (pc : Int) + off = (tgt : Int)) (kt : b ≤ a → BV x E' (tgt) L (rest) E kc ks) (kf : ¬ b ≤ a → BV x E' (pc2) L (rest) E kc ks) : BV x E' (pc) L (.int b :: .int a :: rest) E kc ks := by
  obtain ⟨p, l, e, R, s, m, args, below, meth, c, D, z, n, k1, k2, Q⟩ := x
  obtain ⟨hx, hb, hml, hn, hown, hr, hlk, hts, hK, hW, ⟨hf, hkc, hks⟩, hlo, hz⟩ := G
  obtain ⟨hd, rfl⟩ := hd
  intro H locs ls hR hS hl
  exact lv_icmp_ge hx hb hd ht (fun h => kt h H locs ls hR hS hl) (fun h => kf h H locs ls hR hS hl)
theorem b_icmp_ne {cy : Nat → ClassId} {w : Nat × Nat} {x : BX} {E' : KE} {cc : ByteArray} {own : String} {nL d pc pc2 : Nat} {ini : Option (Bool × Option FieldType × BP)} {kc ks : Nat} {L : List (Nat × Value)} {rest : List Value} {E : KE} {a b : Int32} {off : Int} (tgt : Nat) (G : BG cy w x cc own nL ini d) (hd : dc cc pc (.if_icmp .ne off) 3 pc2) (ht : (pc : Int) + off = (tgt : Int)) (kt : ¬ a = b → BV x E' (tgt) L (rest) E kc ks) (kf : a = b → BV x E' (pc2) L (rest) E kc ks) : BV x E' (pc) L (.int b :: .int a :: rest) E kc ks := by
  obtain ⟨p, l, e, R, s, m, args, below, meth, c, D, z, n, k1, k2, Q⟩ := x
  obtain ⟨hx, hb, hml, hn, hown, hr, hlk, hts, hK, hW, ⟨hf, hkc, hks⟩, hlo, hz⟩ := G
  obtain ⟨hd, rfl⟩ := hd
  intro H locs ls hR hS hl
  exact lv_icmp_ne hx hb hd ht (fun h => kt h H locs ls hR hS hl) (fun h => kf h H locs ls hR hS hl)
theorem b_icmp_lt {cy : Nat → ClassId} {w : Nat × Nat} {x : BX} {E' : KE} {cc : ByteArray} {own : String} {nL d pc pc2 : Nat} {ini : Option (Bool × Option FieldType × BP)} {kc ks : Nat} {L : List (Nat × Value)} {rest : List Value} {E : KE} {a b : Int32} {off : Int} (tgt : Nat) (G : BG cy w x cc own nL ini d) (hd : dc cc pc (.if_icmp .lt off) 3 pc2) (ht : (pc : Int) + off = (tgt : Int)) (kt : a < b → BV x E' (tgt) L (rest) E kc ks) (kf : ¬ a < b → BV x E' (pc2) L (rest) E kc ks) : BV x E' (pc) L (.int b :: .int a :: rest) E kc ks := by
  obtain ⟨p, l, e, R, s, m, args, below, meth, c, D, z, n, k1, k2, Q⟩ := x
  obtain ⟨hx, hb, hml, hn, hown, hr, hlk, hts, hK, hW, ⟨hf, hkc, hks⟩, hlo, hz⟩ := G
  obtain ⟨hd, rfl⟩ := hd
  intro H locs ls hR hS hl
  exact lv_icmp_lt hx hb hd ht (fun h => kt h H locs ls hR hS hl) (fun h => kf h H locs ls hR hS hl)
theorem b_icmp_eq {cy : Nat → ClassId} {w : Nat × Nat} {x : BX} {E' : KE} {cc : ByteArray} {own : String} {nL d pc pc2 : Nat} {ini : Option (Bool × Option FieldType × BP)} {kc ks : Nat} {L : List (Nat × Value)} {rest : List Value} {E : KE} {a b : Int32} {off : Int} (tgt : Nat) (G : BG cy w x cc own nL ini d) (hd : dc cc pc (.if_icmp .eq off) 3 pc2) (ht : (pc : Int) + off = (tgt : Int)) (kt : a = b → BV x E' (tgt) L (rest) E kc ks) (kf : ¬ a = b → BV x E' (pc2) L (rest) E kc ks) : BV x E' (pc) L (.int b :: .int a :: rest) E kc ks := by
  obtain ⟨p, l, e, R, s, m, args, below, meth, c, D, z, n, k1, k2, Q⟩ := x
  obtain ⟨hx, hb, hml, hn, hown, hr, hlk, hts, hK, hW, ⟨hf, hkc, hks⟩, hlo, hz⟩ := G
  obtain ⟨hd, rfl⟩ := hd
  intro H locs ls hR hS hl
  exact lv_icmp_eq hx hb hd ht (fun h => kt h H locs ls hR hS hl) (fun h => kf h H locs ls hR hS hl)
theorem b_goto {cy : Nat → ClassId} {w : Nat × Nat} {x : BX} {E' : KE} {cc : ByteArray} {own : String} {nL d pc pc2 : Nat} {ini : Option (Bool × Option FieldType × BP)} {kc ks : Nat} {L : List (Nat × Value)} {rest : List Value} {E : KE} {off : Int} (tgt : Nat) (G : BG cy w x cc own nL ini d) (hd : dc cc pc (.goto off) 3 pc2) (ht : (pc : Int) + off = (tgt : Int)) (k : BV x E' (tgt) L (rest) E kc ks) : BV x E' (pc) L (rest) E kc ks := by
  obtain ⟨p, l, e, R, s, m, args, below, meth, c, D, z, n, k1, k2, Q⟩ := x
  obtain ⟨hx, hb, hml, hn, hown, hr, hlk, hts, hK, hW, ⟨hf, hkc, hks⟩, hlo, hz⟩ := G
  obtain ⟨hd, rfl⟩ := hd
  intro H locs ls hR hS hl
  exact lv_goto hx hb hd ht (k H locs ls hR hS hl)
theorem b_iand {cy : Nat → ClassId} {w : Nat × Nat} {x : BX} {E' : KE} {cc : ByteArray} {own : String} {nL d pc pc2 : Nat} {ini : Option (Bool × Option FieldType × BP)} {kc ks : Nat} {L : List (Nat × Value)} {rest : List Value} {E : KE} {a b : Int32} (G : BG cy w x cc own nL ini d) (hd : dc cc pc (.iand) 1 pc2)  (k : BV x E' (pc2) L (.int (a &&& b) :: rest) E kc ks) : BV x E' (pc) L (.int b :: .int a :: rest) E kc ks := by
  obtain ⟨p, l, e, R, s, m, args, below, meth, c, D, z, n, k1, k2, Q⟩ := x
  obtain ⟨hx, hb, hml, hn, hown, hr, hlk, hts, hK, hW, ⟨hf, hkc, hks⟩, hlo, hz⟩ := G
  obtain ⟨hd, rfl⟩ := hd
  intro H locs ls hR hS hl
  exact lv_iand hx hb hd  (k H locs ls hR hS hl)
theorem b_ishr {cy : Nat → ClassId} {w : Nat × Nat} {x : BX} {E' : KE} {cc : ByteArray} {own : String} {nL d pc pc2 : Nat} {ini : Option (Bool × Option FieldType × BP)} {kc ks : Nat} {L : List (Nat × Value)} {rest : List Value} {E : KE} {a b : Int32} (G : BG cy w x cc own nL ini d) (hd : dc cc pc (.ishr) 1 pc2)  (k : BV x E' (pc2) L (.int (a >>> (b &&& 31)) :: rest) E kc ks) : BV x E' (pc) L (.int b :: .int a :: rest) E kc ks := by
  obtain ⟨p, l, e, R, s, m, args, below, meth, c, D, z, n, k1, k2, Q⟩ := x
  obtain ⟨hx, hb, hml, hn, hown, hr, hlk, hts, hK, hW, ⟨hf, hkc, hks⟩, hlo, hz⟩ := G
  obtain ⟨hd, rfl⟩ := hd
  intro H locs ls hR hS hl
  exact lv_ishr hx hb hd  (k H locs ls hR hS hl)
theorem b_if_eq {cy : Nat → ClassId} {w : Nat × Nat} {x : BX} {E' : KE} {cc : ByteArray} {own : String} {nL d pc pc2 : Nat} {ini : Option (Bool × Option FieldType × BP)} {kc ks : Nat} {L : List (Nat × Value)} {rest : List Value} {E : KE} {a : Int32} {off : Int} (tgt : Nat) (G : BG cy w x cc own nL ini d) (hd : dc cc pc (.ifCond .eq off) 3 pc2) (ht : (pc : Int) + off = (tgt : Int)) (kt : a = 0 → BV x E' (tgt) L (rest) E kc ks) (kf : ¬ a = 0 → BV x E' (pc2) L (rest) E kc ks) : BV x E' (pc) L (.int a :: rest) E kc ks := by
  obtain ⟨p, l, e, R, s, m, args, below, meth, c, D, z, n, k1, k2, Q⟩ := x
  obtain ⟨hx, hb, hml, hn, hown, hr, hlk, hts, hK, hW, ⟨hf, hkc, hks⟩, hlo, hz⟩ := G
  obtain ⟨hd, rfl⟩ := hd
  intro H locs ls hR hS hl
  exact lv_if_eq hx hb hd ht (fun h => kt h H locs ls hR hS hl) (fun h => kf h H locs ls hR hS hl)
theorem b_if_ne {cy : Nat → ClassId} {w : Nat × Nat} {x : BX} {E' : KE} {cc : ByteArray} {own : String} {nL d pc pc2 : Nat} {ini : Option (Bool × Option FieldType × BP)} {kc ks : Nat} {L : List (Nat × Value)} {rest : List Value} {E : KE} {a : Int32} {off : Int} (tgt : Nat) (G : BG cy w x cc own nL ini d) (hd : dc cc pc (.ifCond .ne off) 3 pc2) (ht : (pc : Int) + off = (tgt : Int)) (kt : ¬ a = 0 → BV x E' (tgt) L (rest) E kc ks) (kf : a = 0 → BV x E' (pc2) L (rest) E kc ks) : BV x E' (pc) L (.int a :: rest) E kc ks := by
  obtain ⟨p, l, e, R, s, m, args, below, meth, c, D, z, n, k1, k2, Q⟩ := x
  obtain ⟨hx, hb, hml, hn, hown, hr, hlk, hts, hK, hW, ⟨hf, hkc, hks⟩, hlo, hz⟩ := G
  obtain ⟨hd, rfl⟩ := hd
  intro H locs ls hR hS hl
  exact lv_if_ne hx hb hd ht (fun h => kt h H locs ls hR hS hl) (fun h => kf h H locs ls hR hS hl)
theorem b_if_lt {cy : Nat → ClassId} {w : Nat × Nat} {x : BX} {E' : KE} {cc : ByteArray} {own : String} {nL d pc pc2 : Nat} {ini : Option (Bool × Option FieldType × BP)} {kc ks : Nat} {L : List (Nat × Value)} {rest : List Value} {E : KE} {a : Int32} {off : Int} (tgt : Nat) (G : BG cy w x cc own nL ini d) (hd : dc cc pc (.ifCond .lt off) 3 pc2) (ht : (pc : Int) + off = (tgt : Int)) (kt : a < 0 → BV x E' (tgt) L (rest) E kc ks) (kf : ¬ a < 0 → BV x E' (pc2) L (rest) E kc ks) : BV x E' (pc) L (.int a :: rest) E kc ks := by
  obtain ⟨p, l, e, R, s, m, args, below, meth, c, D, z, n, k1, k2, Q⟩ := x
  obtain ⟨hx, hb, hml, hn, hown, hr, hlk, hts, hK, hW, ⟨hf, hkc, hks⟩, hlo, hz⟩ := G
  obtain ⟨hd, rfl⟩ := hd
  intro H locs ls hR hS hl
  exact lv_if_lt hx hb hd ht (fun h => kt h H locs ls hR hS hl) (fun h => kf h H locs ls hR hS hl)
theorem b_pop {cy : Nat → ClassId} {w : Nat × Nat} {x : BX} {E' : KE} {cc : ByteArray} {own : String} {nL d pc pc2 : Nat} {ini : Option (Bool × Option FieldType × BP)} {kc ks : Nat} {L : List (Nat × Value)} {rest : List Value} {E : KE} {va : Value} (G : BG cy w x cc own nL ini d) (hd : dc cc pc (.pop) 1 pc2) (hc : va.category = 1) (k : BV x E' (pc2) L (rest) E kc ks) : BV x E' (pc) L (va :: rest) E kc ks := by
  obtain ⟨p, l, e, R, s, m, args, below, meth, c, D, z, n, k1, k2, Q⟩ := x
  obtain ⟨hx, hb, hml, hn, hown, hr, hlk, hts, hK, hW, ⟨hf, hkc, hks⟩, hlo, hz⟩ := G
  obtain ⟨hd, rfl⟩ := hd
  intro H locs ls hR hS hl
  exact lv_pop hx hb hd hc (k H locs ls hR hS hl)
theorem b_sub {x : BX} {E' : KE} {pc : Nat} {L : List (Nat × Value)} {rest : List Value} {E : KE} {kc ks : Nat} (L2 : List (Nat × Value)) (js : List Nat) (h : lv_pick L js = L2) (k : BV x E' pc L2 rest E kc ks) : BV x E' pc L rest E kc ks := by
  obtain ⟨p, l, e, R, s, m, args, below, meth, c, D, z, n, k1, k2, Q⟩ := x
  intro H locs ls hR hS hl
  exact k H locs ls hR hS (lv_sub hl js h)
theorem b_i2c {cy : Nat → ClassId} {w : Nat × Nat} {x : BX} {E' : KE} {cc : ByteArray} {own : String} {nL d pc pc2 : Nat} {ini : Option (Bool × Option FieldType × BP)} {kc ks : Nat} {L : List (Nat × Value)} {rest : List Value} {E : KE} {a : Int32} (G : BG cy w x cc own nL ini d) (hd : dc cc pc (.i2c) 1 pc2) (k : BV x E' pc2 L (.int ((a.toUInt32 % 65536).toInt32) :: rest) E kc ks) : BV x E' pc L (.int a :: rest) E kc ks := by
  obtain ⟨p, l, e, R, s, m, args, below, meth, c, D, z, n, k1, k2, Q⟩ := x
  obtain ⟨hx, hb, hml, hn, hown, hr, hlk, hts, hK, hW, ⟨hf, hkc, hks⟩, hlo, hz⟩ := G
  obtain ⟨hd, rfl⟩ := hd
  intro H locs ls hR hS hl
  exact lv_i2c hx hb hd rfl (k H locs ls hR hS hl)
/-- the string of the class file -/
theorem b_ldcS {cy : Nat → ClassId} {w : Nat × Nat} {x : BX} {E' : KE} {cc : ByteArray} {own : String} {nL d pc pc2 : Nat} {ini : Option (Bool × Option FieldType × BP)} {kc ks : Nat} {L : List (Nat × Value)} {rest : List Value} {E : KE} (G : BG cy w x cc own nL ini d) (hown0 : own = "NoonGuides$TextReader") (hd : dc cc pc (.ldc 26) 2 pc2) (k : BV x E' pc2 L (.ref w.1 :: rest) E kc ks) : BV x E' pc L rest E kc ks := by
  obtain ⟨p, l, e, R, s, m, args, below, meth, c, D, z, n, k1, k2, Q⟩ := x
  obtain ⟨hx, hb, hml, hn, hown, hr, hlk, hts, hK, hW, ⟨hf, hkc, hks⟩, hlo, hz⟩ := G
  obtain ⟨hd, rfl⟩ := hd
  subst hown0
  intro H locs ls hR hS hl
  exact va_ldcS hx hb hown hW.2.2.1 hd (k H locs ls hR hS hl)
/-- its row of bytes -/
theorem b_strv {cy : Nat → ClassId} {w : Nat × Nat} {x : BX} {E' : KE} {cc : ByteArray} {own : String} {nL d pc pc2 : Nat} {ini : Option (Bool × Option FieldType × BP)} {kc ks : Nat} {L : List (Nat × Value)} {rest : List Value} {E : KE} {idx : Nat} (G : BG cy w x cc own nL ini d) (hl0 : Cond.fieldLink own idx "java/lang/String" "value" "[B" ∈ tb) (hd : dc cc pc (.getfield idx) 3 pc2) (k : BV x E' pc2 L (.ref w.2 :: rest) E kc ks) : BV x E' pc L (.ref w.1 :: rest) E kc ks := by
  obtain ⟨p, l, e, R, s, m, args, below, meth, c, D, z, n, k1, k2, Q⟩ := x
  obtain ⟨hx, hb, hml, hn, hown, hr, hlk, hts, hK, hW, ⟨hf, hkc, hks⟩, hlo, hz⟩ := G
  obtain ⟨hd, rfl⟩ := hd
  intro H locs ls hR hS hl
  exact vk_getf hx hb (hW.2.2.2.1.1 0 (Nat.lt_succ_self 0)).2.2.1 hS hown (hts _ hl0) (fun y hy => hy) hd (k H locs ls hR hS hl)
/-- its coder -/
theorem b_strc {cy : Nat → ClassId} {w : Nat × Nat} {x : BX} {E' : KE} {cc : ByteArray} {own : String} {nL d pc pc2 : Nat} {ini : Option (Bool × Option FieldType × BP)} {kc ks : Nat} {L : List (Nat × Value)} {rest : List Value} {E : KE} {idx : Nat} (G : BG cy w x cc own nL ini d) (hl0 : Cond.fieldLink own idx "java/lang/String" "coder" "B" ∈ tb) (hd : dc cc pc (.getfield idx) 3 pc2) (k : BV x E' pc2 L (.int 0 :: rest) E kc ks) : BV x E' pc L (.ref w.1 :: rest) E kc ks := by
  obtain ⟨p, l, e, R, s, m, args, below, meth, c, D, z, n, k1, k2, Q⟩ := x
  obtain ⟨hx, hb, hml, hn, hown, hr, hlk, hts, hK, hW, ⟨hf, hkc, hks⟩, hlo, hz⟩ := G
  obtain ⟨hd, rfl⟩ := hd
  intro H locs ls hR hS hl
  exact vk_getf hx hb (hW.2.2.2.1.1 0 (Nat.lt_succ_self 0)).2.1 hS hown (hts _ hl0) (fun y hy => hy) hd (k H locs ls hR hS hl)
theorem b_strl {cy : Nat → ClassId} {w : Nat × Nat} {x : BX} {E' : KE} {cc : ByteArray} {own : String} {nL d pc pc2 : Nat} {ini : Option (Bool × Option FieldType × BP)} {kc ks : Nat} {L : List (Nat × Value)} {rest : List Value} {E : KE} (G : BG cy w x cc own nL ini d) (hd : dc cc pc (.arraylength) 1 pc2) (k : BV x E' pc2 L (.int 141 :: rest) E kc ks) : BV x E' pc L (.ref w.2 :: rest) E kc ks := by
  obtain ⟨p, l, e, R, s, m, args, below, meth, c, D, z, n, k1, k2, Q⟩ := x
  obtain ⟨hx, hb, hml, hn, hown, hr, hlk, hts, hK, hW, ⟨hf, hkc, hks⟩, hlo, hz⟩ := G
  obtain ⟨hd, rfl⟩ := hd
  intro H locs ls hR hS hl
  exact va_tlen hx hb (hW.2.2.2.1.1 0 (Nat.lt_succ_self 0)).2.2.2 hS (v := 141) rfl hd (k H locs ls hR hS hl)
theorem b_strb {cy : Nat → ClassId} {w : Nat × Nat} {x : BX} {E' : KE} {cc : ByteArray} {own : String} {nL d pc pc2 : Nat} {ini : Option (Bool × Option FieldType × BP)} {kc ks : Nat} {L : List (Nat × Value)} {rest : List Value} {E : KE} {i : Int32} (G : BG cy w x cc own nL ini d) (hin : ix i 141) (hd : dc cc pc (.baload) 1 pc2) (k : BV x E' pc2 L (.int (kwBytes.getD i.toNatClampNeg 0) :: rest) E kc ks) : BV x E' pc L (.int i :: .ref w.2 :: rest) E kc ks := by
  obtain ⟨p, l, e, R, s, m, args, below, meth, c, D, z, n, k1, k2, Q⟩ := x
  obtain ⟨hx, hb, hml, hn, hown, hr, hlk, hts, hK, hW, ⟨hf, hkc, hks⟩, hlo, hz⟩ := G
  obtain ⟨hd, rfl⟩ := hd
  intro H locs ls hR hS hl
  exact va_tb hx hb (hW.2.2.2.1.1 0 (Nat.lt_succ_self 0)).2.2.2 hS hin rfl hd (k H locs ls hR hS hl)
/-- strings are kept by bytes -/
theorem b_comp {cy : Nat → ClassId} {w : Nat × Nat} {x : BX} {E' : KE} {cc : ByteArray} {own : String} {nL d pc pc2 : Nat} {ini : Option (Bool × Option FieldType × BP)} {kc ks : Nat} {L : List (Nat × Value)} {rest : List Value} {E : KE} {idx : Nat} (G : BG cy w x cc own nL ini d) (hl0 : Cond.fieldLink own idx "java/lang/String" "COMPACT_STRINGS" "Z" ∈ tb) (hd : dc cc pc (.getstatic idx) 3 pc2) (k : BV x E' pc2 L (.int 1 :: rest) E kc ks) : BV x E' pc L rest E kc ks := by
  obtain ⟨p, l, e, R, s, m, args, below, meth, c, D, z, n, k1, k2, Q⟩ := x
  obtain ⟨hx, hb, hml, hn, hown, hr, hlk, hts, hK, hW, ⟨hf, hkc, hks⟩, hlo, hz⟩ := G
  obtain ⟨hd, rfl⟩ := hd
  intro H locs ls hR hS hl
  exact va_gets hx hb hW.2.2.2.2.1 hS hown (hts _ hl0) (fun y hy => hy) hd (k H locs ls hR hS hl)
theorem b_sio {cy : Nat → ClassId} {w : Nat × Nat} {x : BX} {E' : KE} {cc : ByteArray} {own : String} {nL d pc pc2 : Nat} {ini : Option (Bool × Option FieldType × BP)} {kc ks : Nat} {L : List (Nat × Value)} {rest : List Value} {E : KE} {idx : Nat} (G : BG cy w x cc own nL ini d) (hl0 : Cond.fieldLink own idx "jdk/internal/util/Preconditions" "SIOOBE_FORMATTER" "Ljava/util/function/BiFunction;" ∈ tb) (hd : dc cc pc (.getstatic idx) 3 pc2) (k : ∀ v : Value, (v = .null ∨ ∃ q, v = .ref q) → BV x E' pc2 L (v :: rest) E kc ks) : BV x E' pc L rest E kc ks := by
  obtain ⟨p, l, e, R, s, m, args, below, meth, c, D, z, n, k1, k2, Q⟩ := x
  obtain ⟨hx, hb, hml, hn, hown, hr, hlk, hts, hK, hW, ⟨hf, hkc, hks⟩, hlo, hz⟩ := G
  obtain ⟨hd, rfl⟩ := hd
  intro H locs ls hR hS hl
  rcases hW.2.2.2.2.2 with hZ | ⟨q, hZ⟩
  · exact va_gets hx hb hZ hS hown (hts _ hl0) (fun y hy => hy) hd (k _ (Or.inl rfl) H locs ls hR hS hl)
  · exact va_gets hx hb hZ hS hown (hts _ hl0) (fun y hy => hy) hd (k _ (Or.inr ⟨q, rfl⟩) H locs ls hR hS hl)
/-- a static method is called that changes nothing -/
theorem b_callS {cy : Nat → ClassId} {w : Nat × Nat} {x : BX} {E' : KE} {cc : ByteArray} {own : String} {nL d pc pc2 : Nat} {ini : Option (Bool × Option FieldType × BP)} {kc ks : Nat} {L : List (Nat × Value)} {rest : List Value} {E : KE} {y : MethodName} {bytes : ByteArray} {maxL nA idx d2 : Nat} {rt : Option FieldType} {rv : Option Value} {st : List Value} (As : List Value) (G : BG cy w x cc own nL ini d) (hct : BC x.2.1 cy w x.2.2.2.2.2.2.2.2.2.2.1 (BXz x) y bytes maxL rt rv d2 0 0 As E E) (w1 : Cond.methodLink own idx y ∈ tb) (w2 : Cond.static y ∈ tb) (w4 : Cond.initialized y.cls ∈ tb) (w5 : Cond.code y bytes maxL rt ∈ tb) (hnm : y.cls ≠ "java/lang/invoke/MethodHandle" ∧ y.cls ≠ "java/lang/invoke/VarHandle" ∧ (parseMethodDescriptor y.desc).map (fun d => d.parameters.length) = some nA) (hd2 : d2 < d) (hm : maxL ≤ 19) (hst : st = As.reverse ++ rest) (hn2 : As.length = nA) (hrm : (rest.map fun v => v.category).sum ≤ 8) (h1 : kc ≤ (BXk x).1) (h2 : ks ≤ (BXk x).2) (hd : dc cc pc (.invokestatic idx) 3 pc2) (k : BV x E' pc2 L (rv.toList ++ rest) E kc ks) : BV x E' pc L st E kc ks := by
  obtain ⟨p, l, e, R, s, m, args, below, meth, c, D, z, n, k1, k2, Q⟩ := x
  obtain ⟨hx, hb, hml, hn, hown, hr, hlk, hts, hK, hW, ⟨hf, hkc, hks⟩, hlo, hz⟩ := G
  obtain ⟨hd, rfl⟩ := hd
  subst hst
  intro H locs ls hR hS hl
  exact b_run hz (va_runS (As := As) (rest := rest) ⟨hx, hb, hml, hown, hts⟩ hct ⟨callB_of nA hts (tb_good w5 (fun _ h => h)) rfl rfl rfl (hts _ w4) (hts _ w1) hnm ⟨by show d2 + 1 ≤ R.frames; omega, by show 8 + (maxL + 11) + 38 * d2 ≤ R.locals; omega⟩, hts _ w2⟩ ⟨bc_blind, fun U hU hWm => ⟨rfl, by rw [hU]; exact hR, va_K.moved hWm.alike hK, by rw [hU]; exact (hW.kept hS).warm hWm, by rw [hU]; exact Nat.le_trans hz hS.1⟩⟩ rfl hn2 (hl.1.trans hn) rfl (lv_room hrm) hd ⟨Nat.le_trans h1 hkc, Nat.le_trans h2 hks⟩) hS hl k
/-- a method of the string is called that changes nothing -/
theorem b_callT {cy : Nat → ClassId} {w : Nat × Nat} {x : BX} {E' : KE} {cc : ByteArray} {own : String} {nL d pc pc2 : Nat} {ini : Option (Bool × Option FieldType × BP)} {kc ks : Nat} {L : List (Nat × Value)} {rest : List Value} {E : KE} {y : MethodName} {bytes : ByteArray} {maxL nA idx d2 : Nat} {rt : Option FieldType} {rv : Option Value} {st : List Value} (As : List Value) (G : BG cy w x cc own nL ini d) (hct : BC x.2.1 cy w x.2.2.2.2.2.2.2.2.2.2.1 (BXz x) y bytes maxL rt rv d2 0 0 (.ref w.1 :: As) E E) (hC : y.cls = "java/lang/String") (w1 : Cond.methodLink own idx y ∈ tb) (w2 : Cond.instanceMethod y ∈ tb) (w3 : Cond.selects "java/lang/String" y y ∈ tb) (w4 : Cond.initialized "java/lang/String" ∈ tb) (w5 : Cond.code y bytes maxL rt ∈ tb) (hnm : y.cls ≠ "java/lang/invoke/MethodHandle" ∧ y.cls ≠ "java/lang/invoke/VarHandle" ∧ (parseMethodDescriptor y.desc).map (fun d => d.parameters.length) = some nA) (hd2 : d2 < d) (hm : maxL ≤ 19) (hst : st = As.reverse ++ .ref w.1 :: rest) (hn2 : As.length = nA) (hrm : (rest.map fun v => v.category).sum ≤ 8) (h1 : kc ≤ (BXk x).1) (h2 : ks ≤ (BXk x).2) (hd : dc cc pc (.invokevirtual idx) 3 pc2) (k : BV x E' pc2 L (rv.toList ++ rest) E kc ks) : BV x E' pc L st E kc ks := by
  obtain ⟨p, l, e, R, s, m, args, below, meth, c, D, z, n, k1, k2, Q⟩ := x
  obtain ⟨hx, hb, hml, hn, hown, hr, hlk, hts, hK, hW, ⟨hf, hkc, hks⟩, hlo, hz⟩ := G
  obtain ⟨hd, rfl⟩ := hd
  subst hst
  intro H locs ls hR hS hl
  refine b_run hz (va_runV (As := As) (rest := rest) (C := "java/lang/String") ⟨hx, hb, hml, hown, hts⟩ hct (cwV nA hts (C := "java/lang/String") ?_ rfl rfl rfl ⟨hC, hnm⟩ ⟨?_, ?_⟩) ⟨bc_blind, vk_recv hW.2.2.2.1 (Nat.lt_succ_self 0) hS, fun U hU hWm => ⟨rfl, by rw [hU]; exact hR, va_K.moved hWm.alike hK, by rw [hU]; exact (hW.kept hS).warm hWm, by rw [hU]; exact Nat.le_trans hz hS.1⟩⟩ rfl hn2 (hl.1.trans hn) rfl (lv_room hrm) hd ⟨Nat.le_trans h1 hkc, Nat.le_trans h2 hks⟩) hS hl k
  · intro w hw
    rcases List.mem_append.mp hw with h | h
    · simp only [List.mem_cons, List.not_mem_nil, or_false] at h
      rcases h with h | h | h | h <;> rw [h] <;> apply tb_g <;> assumption
    · exact tb_good w5 (fun _ h => h) w h
  · show d2 + 1 ≤ R.frames; omega
  · show 8 + (maxL + 11) + 38 * d2 ≤ R.locals; omega
/-! ===== rows of objects ===== -/
/-- below i as B has them, from i on those of l -/
def bL (B : Nat → va_E) (i : Nat) (l : List va_E) : KE := (fun a => if a < i then B a else l.getD (a - i) (.inr (0, [])), i + l.length)
theorem bL_at {B : Nat → va_E} {i k : Nat} {l : List va_E} {e : va_E} (h : l[k]? = some e) : (bL B i l).1 (i + k) = e := by
  show (if i + k < i then B (i + k) else l.getD (i + k - i) _) = e
  rw [if_neg (by omega), Nat.add_sub_cancel_left, List.getD_eq_getElem?_getD, h]
  rfl
theorem bL_lt {B : Nat → va_E} {i k : Nat} {l : List va_E} {e : va_E} (h : l[k]? = some e) : i + k < (bL B i l).2 := by
  obtain ⟨h1, -⟩ := List.getElem?_eq_some_iff.mp h
  exact Nat.add_lt_add_left h1 i
theorem bL_set {B : Nat → va_E} {i k : Nat} {l : List va_E} {e : va_E} (h : k < l.length) : bU (bL B i l) (i + k) e = bL B i (l.set k e) := by
  refine Prod.ext (funext fun a => ?_) (by show i + l.length = i + (l.set k e).length; rw [List.length_set])
  show (if a = i + k then e else if a < i then B a else l.getD (a - i) _) = if a < i then B a else (l.set k e).getD (a - i) _
  by_cases c : a = i + k
  · subst c
    rw [if_pos rfl, if_neg (by omega), Nat.add_sub_cancel_left, List.getD_eq_getElem?_getD, List.getElem?_set_self h]
    rfl
  · rw [if_neg c]
    by_cases c2 : a < i
    · rw [if_pos c2, if_pos c2]
    · rw [if_neg c2, if_neg c2, List.getD_eq_getElem?_getD, List.getD_eq_getElem?_getD, List.getElem?_set_ne (by omega)]
theorem bL_new {B : Nat → va_E} {i : Nat} {l : List va_E} {e : va_E} : bN (bL B i l) e = bL B i (l ++ [e]) := by
  refine Prod.ext (funext fun a => ?_) (by show i + l.length + 1 = i + (l ++ [e]).length; rw [List.length_append]; rfl)
  show (if a = i + l.length then e else if a < i then B a else l.getD (a - i) _) = if a < i then B a else (l ++ [e]).getD (a - i) _
  by_cases c : a = i + l.length
  · subst c
    rw [if_pos rfl, if_neg (by omega), Nat.add_sub_cancel_left, List.getD_eq_getElem?_getD, List.getElem?_append_right (Nat.le_refl _), Nat.sub_self]
    rfl
  · rw [if_neg c]
    by_cases c2 : a < i
    · rw [if_pos c2, if_pos c2]
    · rw [if_neg c2, if_neg c2, List.getD_eq_getElem?_getD, List.getD_eq_getElem?_getD]
      rcases Nat.lt_or_ge (a - i) l.length with h | h
      · rw [List.getElem?_append_left h]
      · rw [List.getElem?_eq_none h, List.getElem?_eq_none (by rw [List.length_append]; show l.length + 1 ≤ a - i; omega)]
theorem bL_cut {B : Nat → va_E} {i : Nat} {l1 l2 : List va_E} : bL B i (l1 ++ l2) = bL (bL B i l1).1 (i + l1.length) l2 := by
  refine Prod.ext (funext fun a => ?_) (by show i + (l1 ++ l2).length = i + l1.length + l2.length; rw [List.length_append]; omega)
  show (if a < i then B a else (l1 ++ l2).getD (a - i) _) = if a < i + l1.length then (if a < i then B a else l1.getD (a - i) _) else l2.getD (a - (i + l1.length)) _
  by_cases c2 : a < i
  · rw [if_pos c2, if_pos (by omega), if_pos c2]
  · rw [if_neg c2, if_neg c2, List.getD_eq_getElem?_getD]
    by_cases c : a < i + l1.length
    · rw [if_pos c, List.getElem?_append_left (by omega), List.getD_eq_getElem?_getD]
    · rw [if_neg c, List.getElem?_append_right (by omega), List.getD_eq_getElem?_getD, Nat.sub_sub]
theorem bL_len {B : Nat → va_E} {i : Nat} {l : List va_E} : (bL B i l).2 = i + l.length := rfl
theorem ar_congr {cA : ClassId} {N : Nat} {f g : Nat → Value} (h : ∀ q, q < N → f q = g q) : arrV cA N f = arrV cA N g := by
  unfold arrV
  rw [show (fun j : Fin N => f j.val) = (fun j : Fin N => g j.val) from funext fun j => h j.1 j.2]
/-- a new object of ours -/
theorem l_new {cy : Nat → ClassId} {w : Nat × Nat} {x : BX} {E' : KE} {cc : ByteArray} {own C : String} {nL d pc pc2 kc ks idx ci N nn : Nat} {ini : Option (Bool × Option FieldType × BP)} {T : u_T} {L : List (Nat × Value)} {rest : List Value} {B : Nat → va_E} {i : Nat} {h0 : va_E} {l : List va_E} (G : BG cy w x cc own nL ini d) (ty : Nat → FieldType) (hc : vwCl[ci]? = some (C, T, N)) (hin : ∀ w ∈ u_ws C T N, w ∈ tb) (hty : ∀ k, k < N → parseFieldDescriptor (T k).2.2.1 = some (ty k)) (w1 : Cond.classLink own idx C ∈ tb) (w2 : Cond.instantiable C N ∈ tb) (w3 : Cond.initialized C ∈ tb) (fs : List Value) (hfs : ∀ j, j < N → defaultValue (ty j) = vp_V fs j) (h1 : kc + 1 ≤ (BXk x).1) (h2 : ks + N ≤ (BXk x).2) (hlen : (h0 :: l).length = nn) (hd : dc cc pc (.new idx) 3 pc2)
    (kk : BV x E' pc2 L (.ref (BXz x + (i + nn)) :: rest) (bL B i (h0 :: (l ++ [.inr (ci, fs)]))) (kc + 1) (ks + N)) : BV x E' pc L rest (bL B i (h0 :: l)) kc ks := by
  refine b_new G ty hc hin hty w1 w2 w3 fs hfs h1 h2 hd ?_
  rw [bL_new, bL_len, hlen]
  exact kk
theorem l_newa {cy : Nat → ClassId} {w : Nat × Nat} {x : BX} {E' : KE} {cc : ByteArray} {own : String} {nL d pc pc2 kc ks t0 N nn : Nat} {ini : Option (Bool × Option FieldType × BP)} {L : List (Nat × Value)} {rest : List Value} {B : Nat → va_E} {i : Nat} {h0 : va_E} {l : List va_E} {at0 : ArrayType} {n : Int32} {a0 : vp_A} (G : BG cy w x cc own nL ini d) (w1 : Cond.arrayClass (newarray.typeOf at0) ∈ tb) (ht : (ktys cy)[t0]? = some (cy t0, newarray.typeOf at0)) (ha : ∀ cA : ClassId, vp_cell cA a0 = arrV cA N (fun _ => defaultValue (newarray.typeOf at0))) (hn : ¬ n < 0) (hN : n.toNatClampNeg = N) (hby : N * componentBytes (newarray.typeOf at0) ≤ 536870912) (h1 : kc + 1 ≤ (BXk x).1) (h2 : ks + N ≤ (BXk x).2) (hlen : (h0 :: l).length = nn) (hd : dc cc pc (.newarray at0) 2 pc2)
    (kk : BV x E' pc2 L (.ref (BXz x + (i + nn)) :: rest) (bL B i (h0 :: (l ++ [.inl (cy t0, a0)]))) (kc + 1) (ks + N)) : BV x E' pc L (.int n :: rest) (bL B i (h0 :: l)) kc ks := by
  refine b_newa G w1 ⟨_, ht⟩ ha hn hN hby h1 h2 hd ?_ (fun cA h => (Prod.ext_iff.mp (Option.some.inj (h.symm.trans ht))).1)
  rw [bL_new, bL_len, hlen]
  exact kk
theorem l_anew {cy : Nat → ClassId} {w : Nat × Nat} {x : BX} {E' : KE} {cc : ByteArray} {own C : String} {nL d pc pc2 kc ks t0 N idx nn : Nat} {ini : Option (Bool × Option FieldType × BP)} {L : List (Nat × Value)} {rest : List Value} {B : Nat → va_E} {i : Nat} {h0 : va_E} {l : List va_E} {n : Int32} (G : BG cy w x cc own nL ini d) (w1 : Cond.classLink own idx C ∈ tb) (hC : C = "NoonGuides$Tray" ∨ C = "NoonGuides$Land" ∨ C = "NoonGuides$Person") (ht : (ktys cy)[t0]? = some (cy t0, .object C)) (hn : ¬ n < 0) (hN : n.toNatClampNeg = N) (hby : N * 4 ≤ 536870912) (h1 : kc + 1 ≤ (BXk x).1) (h2 : ks + N ≤ (BXk x).2) (hlen : (h0 :: l).length = nn) (hd : dc cc pc (.anewarray idx) 3 pc2)
    (kk : BV x E' pc2 L (.ref (BXz x + (i + nn)) :: rest) (bL B i (h0 :: (l ++ [.inl (cy t0, N, .inr (.inr (.inr (.inr (fun _ => none)))))]))) (kc + 1) (ks + N)) : BV x E' pc L (.int n :: rest) (bL B i (h0 :: l)) kc ks := by
  refine b_anew G w1 hC ht hn hN hby h1 h2 hd ?_
  rw [bL_new, bL_len, hlen]
  exact kk
/-- a field of the object itself is written -/
theorem l_put {cy : Nat → ClassId} {w : Nat × Nat} {x : BX} {E' : KE} {cc : ByteArray} {own ref C : String} {nL d pc pc2 kc ks idx ci N : Nat} {T : u_T} {ty0 : Nat → FieldType} {L : List (Nat × Value)} {rest fs : List Value} {v : Value} {rt : Option FieldType} {qc : BP} {B : Nat → va_E} {i : Nat} {l : List va_E} (G : BG cy w x cc own nL (some (true, rt, qc)) d) (hc : vwCl[ci]? = some (C, T, N)) (k : Nat) (hkN : k < N) (hin : ∀ w ∈ u_ws C T N, w ∈ tb) (hty : ∀ k, k < N → parseFieldDescriptor (T k).2.2.1 = some (ty0 k)) (hnm : ∀ a, a < N → ∀ b, b < N → a ≠ b → (T a).2.1 ≠ (T b).2.1) (hlink : Cond.fieldLink own idx ref (T k).2.1 (T k).2.2.1 ∈ tb) (hsame : ref = (T k).1 ∨ Cond.sameField ref (T k).1 (T k).2.1 (T k).2.2.1 ∈ tb) (hfin : (T k).2.2.2 = false ∨ (T k).1 = own) (hnar : narrow (ty0 k) v = v) (hfit : fits (ty0 k) v = true) (hlen : k < fs.length) (hd : dc cc pc (.putfield idx) 3 pc2)
    (kk : BV x E' pc2 L rest (bL B i (.inr (ci, fs.set k v) :: l)) kc ks) : BV x E' pc L (v :: .ref (BXz x + i) :: rest) (bL B i (.inr (ci, fs) :: l)) kc ks := by
  have e0 : (.inr (ci, fs) :: l : List va_E)[0]? = some (.inr (ci, fs)) := rfl
  refine b_put G (bL_lt (k := 0) e0) (bL_at (k := 0) e0) hc k hkN hin hty hnm hlink hsame hfin hnar hfit hlen hd ?_
  have e1 := bL_set (B := B) (i := i) (k := 0) (l := .inr (ci, fs) :: l) (e := .inr (ci, fs.set k v)) (Nat.succ_pos _)
  rw [show bU (bL B i (.inr (ci, fs) :: l)) i (.inr (ci, fs.set k v)) = bL B i (.inr (ci, fs.set k v) :: l) from e1]
  exact kk
/-- a field of the object itself is read -/
theorem l_get {cy : Nat → ClassId} {w : Nat × Nat} {x : BX} {E' : KE} {cc : ByteArray} {own ref C : String} {nL d pc pc2 kc ks idx ci N : Nat} {ini : Option (Bool × Option FieldType × BP)} {T : u_T} {L : List (Nat × Value)} {rest fs : List Value} {v : Value} {B : Nat → va_E} {i : Nat} {l : List va_E} (G : BG cy w x cc own nL ini d) (hc : vwCl[ci]? = some (C, T, N)) (k : Nat) (hkN : k < N) (hin : ∀ w ∈ u_ws C T N, w ∈ tb) (hlink : Cond.fieldLink own idx ref (T k).2.1 (T k).2.2.1 ∈ tb) (hsame : ref = (T k).1 ∨ Cond.sameField ref (T k).1 (T k).2.1 (T k).2.2.1 ∈ tb) (hv : fs[k]? = some v) (hd : dc cc pc (.getfield idx) 3 pc2)
    (kk : BV x E' pc2 L (v :: rest) (bL B i (.inr (ci, fs) :: l)) kc ks) : BV x E' pc L (.ref (BXz x + i) :: rest) (bL B i (.inr (ci, fs) :: l)) kc ks := by
  have e0 : (.inr (ci, fs) :: l : List va_E)[0]? = some (.inr (ci, fs)) := rfl
  exact b_get G (bL_lt (k := 0) e0) (bL_at (k := 0) e0) hc k hkN hin hlink hsame hv hd kk
/-- an int, a long, an object into a row -/
theorem l_iast {cy : Nat → ClassId} {w : Nat × Nat} {x : BX} {E' : KE} {cc : ByteArray} {own : String} {nL d pc pc2 kc ks k N : Nat} {ini : Option (Bool × Option FieldType × BP)} {L : List (Nat × Value)} {rest : List Value} {B : Nat → va_E} {i : Nat} {l : List va_E} {f : Nat → Int32} {j v : Int32} (G : BG cy w x cc own nL ini d) (he : l[k]? = some (.inl (cy 1, N, .inl f))) (hin : ix j N) (hd : dc cc pc (.iastore) 1 pc2)
    (kk : BV x E' pc2 L rest (bL B i (l.set k (.inl (cy 1, N, .inl (upd f j.toNatClampNeg v))))) kc ks) : BV x E' pc L (.int v :: .int j :: .ref (BXz x + (i + k)) :: rest) (bL B i l) kc ks := by
  refine b_iast G (bL_lt he) (bL_at he) hin hd ?_
  rw [bL_set (List.getElem?_eq_some_iff.mp he).1]
  exact kk
theorem l_last {cy : Nat → ClassId} {w : Nat × Nat} {x : BX} {E' : KE} {cc : ByteArray} {own : String} {nL d pc pc2 kc ks k N : Nat} {ini : Option (Bool × Option FieldType × BP)} {L : List (Nat × Value)} {rest : List Value} {B : Nat → va_E} {i : Nat} {l : List va_E} {f : Nat → Int64} {j : Int32} {v : Int64} (G : BG cy w x cc own nL ini d) (he : l[k]? = some (.inl (cy 2, N, .inr (.inl f)))) (hin : ix j N) (hd : dc cc pc (.lastore) 1 pc2)
    (kk : BV x E' pc2 L rest (bL B i (l.set k (.inl (cy 2, N, .inr (.inl (vp_updL f j.toNatClampNeg v)))))) kc ks) : BV x E' pc L (.long v :: .int j :: .ref (BXz x + (i + k)) :: rest) (bL B i l) kc ks := by
  refine b_last G (bL_lt he) (bL_at he) hin hd ?_
  rw [bL_set (List.getElem?_eq_some_iff.mp he).1]
  exact kk
theorem l_aast {cy : Nat → ClassId} {w : Nat × Nat} {x : BX} {E' : KE} {cc : ByteArray} {own C : String} {nL d pc pc2 kc ks k o N t0 ci : Nat} {ini : Option (Bool × Option FieldType × BP)} {L : List (Nat × Value)} {rest vs : List Value} {B : Nat → va_E} {i : Nat} {l : List va_E} {f : Nat → Option Nat} {j : Int32} {T : u_T} {Nf : Nat} (G : BG cy w x cc own nL ini d) (he : l[k]? = some (.inl (cy t0, N, .inr (.inr (.inr (.inr f)))))) (hv : l[o]? = some (.inr (ci, vs))) (hc : vwCl[ci]? = some (C, T, Nf)) (ht : (ktys cy)[t0]? = some (cy t0, .object C)) (hin : ix j N) (hd : dc cc pc (.aastore) 1 pc2)
    (kk : BV x E' pc2 L rest (bL B i (l.set k (.inl (cy t0, N, .inr (.inr (.inr (.inr (va_up f j.toNatClampNeg (some (BXz x + (i + o)))))))))) ) kc ks) : BV x E' pc L (.ref (BXz x + (i + o)) :: .int j :: .ref (BXz x + (i + k)) :: rest) (bL B i l) kc ks := by
  refine b_aast (r := (C, T, Nf)) G (bL_lt he) (bL_at he) (bL_lt hv) (bL_at hv) hc ht hin hd ?_
  rw [bL_set (List.getElem?_eq_some_iff.mp he).1]
  exact kk
/-- likewise, the object the newest with what it made -/
theorem l_aastQ {cy : Nat → ClassId} {w : Nat × Nat} {x : BX} {E' : KE} {cc : ByteArray} {own C : String} {nL d pc pc2 kc ks k nn N t0 ci : Nat} {ini : Option (Bool × Option FieldType × BP)} {L : List (Nat × Value)} {rest vs : List Value} {B : Nat → va_E} {i : Nat} {h0 : va_E} {l Y : List va_E} {f : Nat → Option Nat} {j : Int32} {T : u_T} {Nf : Nat} (G : BG cy w x cc own nL ini d) (he : l[k]? = some (.inl (cy t0, N, .inr (.inr (.inr (.inr f)))))) (hY : Y[0]? = some (.inr (ci, vs))) (hc : vwCl[ci]? = some (C, T, Nf)) (ht : (ktys cy)[t0]? = some (cy t0, .object C)) (hin : ix j N) (hlen : (h0 :: l).length = nn) (hd : dc cc pc (.aastore) 1 pc2)
    (kk : BV x E' pc2 L rest (bL B i (h0 :: (l.set k (.inl (cy t0, N, .inr (.inr (.inr (.inr (va_up f j.toNatClampNeg (some (BXz x + (i + nn))))))))) ++ Y))) kc ks) : BV x E' pc L (.ref (BXz x + (i + nn)) :: .int j :: .ref (BXz x + (i + (k + 1))) :: rest) (bL B i (h0 :: (l ++ Y))) kc ks := by
  have hk := (List.getElem?_eq_some_iff.mp he).1
  have e1 : (h0 :: (l ++ Y))[k + 1]? = some (.inl (cy t0, N, .inr (.inr (.inr (.inr f))))) := by
    rw [List.getElem?_cons_succ, List.getElem?_append_left hk]; exact he
  have e2 : (h0 :: (l ++ Y))[nn]? = some (.inr (ci, vs)) := by
    subst hlen
    rw [show h0 :: (l ++ Y) = (h0 :: l) ++ Y from rfl, List.getElem?_append_right (Nat.le_refl _), Nat.sub_self]
    exact hY
  refine l_aast (k := k + 1) (o := nn) G e1 e2 hc ht hin hd ?_
  rw [List.set_cons_succ, List.set_append_left _ _ hk]
  exact kk
/-- a constructor of ours is called on the newest object -/
theorem l_call {cy : Nat → ClassId} {w : Nat × Nat} {x : BX} {E' : KE} {cc : ByteArray} {own : String} {nL d pc pc2 kc ks idx mc ms d2 maxL nn : Nat} {ini : Option (Bool × Option FieldType × BP)} {y : MethodName} {bytes : ByteArray} {L : List (Nat × Value)} {rest : List Value} {B : Nat → va_E} {i : Nat} {h0 e0 : va_E} {l : List va_E} {LX : Nat → List va_E} (G : BG cy w x cc own nL ini d) (hct : ∀ (B : Nat → va_E) (j : Nat), BC (BXl x) cy w (BXD x) (BXz x) y bytes maxL none none d2 mc ms [.ref (BXz x + j)] (bL B j [e0]) (bL B j (LX j))) (w1 : Cond.methodLink own idx y ∈ tb) (w2 : Cond.instanceMethod y ∈ tb) (w4 : Cond.initialized y.cls ∈ tb) (w5 : Cond.code y bytes maxL none ∈ tb) (hyn : y.name = "<init>") (hnm : y.cls ≠ "java/lang/invoke/MethodHandle" ∧ y.cls ≠ "java/lang/invoke/VarHandle" ∧ (parseMethodDescriptor y.desc).map (fun d => d.parameters.length) = some 0) (hd2 : d2 < d) (hm : maxL ≤ 19) (h1 : kc + mc ≤ (BXk x).1) (h2 : ks + ms ≤ (BXk x).2) (hlen : (h0 :: l).length = nn) (hrm : (rest.map fun v => v.category).sum ≤ 8) (hd : dc cc pc (.invokespecial idx) 3 pc2)
    (k : BV x E' pc2 L rest (bL B i (h0 :: (l ++ LX (i + nn)))) (kc + mc) (ks + ms)) : BV x E' pc L (.ref (BXz x + (i + nn)) :: rest) (bL B i (h0 :: (l ++ [e0]))) kc ks := by
  subst hlen
  have e1 : bL B i (h0 :: (l ++ [e0])) = bL (bL B i (h0 :: l)).1 (i + (h0 :: l).length) [e0] := bL_cut (l1 := h0 :: l) (l2 := [e0])
  rw [e1]
  refine b_call G (hct _ _) w1 w2 w4 w5 hyn hnm hd2 hm h1 h2 hrm hd ?_
  have e2 : bL B i (h0 :: (l ++ LX (i + (h0 :: l).length))) = bL (bL B i (h0 :: l)).1 (i + (h0 :: l).length) (LX (i + (h0 :: l).length)) := bL_cut (l1 := h0 :: l)
  rw [← e2]
  exact k
theorem l_callN {cy : Nat → ClassId} {w : Nat × Nat} {x : BX} {E' : KE} {cc : ByteArray} {own host : String} {nL d pc pc2 kc ks idx mc ms d2 maxL nn : Nat} {ini : Option (Bool × Option FieldType × BP)} {y : MethodName} {bytes : ByteArray} {L : List (Nat × Value)} {rest : List Value} {B : Nat → va_E} {i : Nat} {h0 e0 : va_E} {l : List va_E} {LX : Nat → List va_E} (G : BG cy w x cc own nL ini d) (hct : ∀ (B : Nat → va_E) (j : Nat), BC (BXl x) cy w (BXD x) (BXz x) y bytes maxL none none d2 mc ms [.ref (BXz x + j)] (bL B j [e0]) (bL B j (LX j))) (w1 : Cond.methodLinkNest own idx y host ∈ nestL) (w2 : Cond.instanceMethod y ∈ tb) (w4 : Cond.initialized y.cls ∈ tb) (w5 : Cond.code y bytes maxL none ∈ tb) (hyn : y.name = "<init>") (hnm : y.cls ≠ "java/lang/invoke/MethodHandle" ∧ y.cls ≠ "java/lang/invoke/VarHandle" ∧ (parseMethodDescriptor y.desc).map (fun d => d.parameters.length) = some 0) (hd2 : d2 < d) (hm : maxL ≤ 19) (h1 : kc + mc ≤ (BXk x).1) (h2 : ks + ms ≤ (BXk x).2) (hlen : (h0 :: l).length = nn) (hrm : (rest.map fun v => v.category).sum ≤ 8) (hd : dc cc pc (.invokespecial idx) 3 pc2)
    (k : BV x E' pc2 L rest (bL B i (h0 :: (l ++ LX (i + nn)))) (kc + mc) (ks + ms)) : BV x E' pc L (.ref (BXz x + (i + nn)) :: rest) (bL B i (h0 :: (l ++ [e0]))) kc ks := by
  subst hlen
  have e1 : bL B i (h0 :: (l ++ [e0])) = bL (bL B i (h0 :: l)).1 (i + (h0 :: l).length) [e0] := bL_cut (l1 := h0 :: l) (l2 := [e0])
  rw [e1]
  refine b_callN G (hct _ _) w1 w2 w4 w5 hyn hnm hd2 hm h1 h2 hrm hd ?_
  have e2 : bL B i (h0 :: (l ++ LX (i + (h0 :: l).length))) = bL (bL B i (h0 :: l)).1 (i + (h0 :: l).length) (LX (i + (h0 :: l).length)) := bL_cut (l1 := h0 :: l)
  rw [← e2]
  exact k
/-- a constructor of the class above is called on the object itself -/
theorem l_sup {cy : Nat → ClassId} {w : Nat × Nat} {x : BX} {E' : KE} {cc : ByteArray} {own : String} {nL d pc pc2 kc ks idx mc ms d2 maxL : Nat} {ini : Option (Bool × Option FieldType × BP)} {y : MethodName} {bytes : ByteArray} {L : List (Nat × Value)} {rest : List Value} {B : Nat → va_E} {i : Nat} {e0 : va_E} {LX : Nat → List va_E} (G : BG cy w x cc own nL ini d) (hct : ∀ (B : Nat → va_E) (j : Nat), BC (BXl x) cy w (BXD x) (BXz x) y bytes maxL none none d2 mc ms [.ref (BXz x + j)] (bL B j [e0]) (bL B j (LX j))) (w1 : Cond.methodLink own idx y ∈ tb) (w2 : Cond.instanceMethod y ∈ tb) (w4 : Cond.initialized y.cls ∈ tb) (w5 : Cond.code y bytes maxL none ∈ tb) (hyn : y.name = "<init>") (hnm : y.cls ≠ "java/lang/invoke/MethodHandle" ∧ y.cls ≠ "java/lang/invoke/VarHandle" ∧ (parseMethodDescriptor y.desc).map (fun d => d.parameters.length) = some 0) (hd2 : d2 < d) (hm : maxL ≤ 19) (h1 : kc + mc ≤ (BXk x).1) (h2 : ks + ms ≤ (BXk x).2) (hrm : (rest.map fun v => v.category).sum ≤ 8) (hd : dc cc pc (.invokespecial idx) 3 pc2)
    (k : BV x E' pc2 L rest (bL B i (LX i)) (kc + mc) (ks + ms)) : BV x E' pc L (.ref (BXz x + i) :: rest) (bL B i [e0]) kc ks :=
  b_call G (hct _ _) w1 w2 w4 w5 hyn hnm hd2 hm h1 h2 hrm hd k
/-- a row of references may be told otherwise beyond its end -/
theorem l_fix {cy : Nat → ClassId} {x : BX} {E' : KE} {pc kc ks k N t0 : Nat} {L : List (Nat × Value)} {st : List Value} {B : Nat → va_E} {i : Nat} {l : List va_E} {f : Nat → Option Nat} (g : Nat → Option Nat) (he : l[k]? = some (.inl (cy t0, N, .inr (.inr (.inr (.inr f)))))) (hfg : ∀ q, q < N → f q = g q)
    (kk : BV x E' pc L st (bL B i (l.set k (.inl (cy t0, N, .inr (.inr (.inr (.inr g))))))) kc ks) : BV x E' pc L st (bL B i l) kc ks := by
  obtain ⟨p, ll, e, R, s, m, args, below, meth, c, D, z, n, k1, k2, Q⟩ := x
  intro H locs ls hR hS hl
  refine kk H locs ls ?_ hS hl
  rw [← bL_set (List.getElem?_eq_some_iff.mp he).1]
  refine BR_set hR (bL_lt he) ?_ rfl (fun _ _ => rfl)
  have h1 := hR.1 (i + k) _ (bws_at (bL_lt he))
  rw [bL_at he] at h1
  show H[z + (i + k)]? = some (vp_cell _ _)
  rw [show H[z + (i + k)]? = some (vp_cell _ _) from h1, vp_cell_q, vp_cell_q]
  exact congrArg some (ar_congr (fun q hq => by rw [hfg q hq]))
