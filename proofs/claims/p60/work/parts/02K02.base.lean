def RX0 : String := "NoonGuides$DaysReader"
def TX0 : u_T := fun k => match k with
  | 0 => ("NoonGuides$TextReader", "keywords", "[J", true)
  | 1 => ("NoonGuides$TextReader", "text", "[B", false)
  | 2 => ("NoonGuides$TextReader", "length", "I", false)
  | 3 => ("NoonGuides$TextReader", "next", "I", false)
  | 4 => ("NoonGuides$TextReader", "faultKind", "I", false)
  | 5 => ("NoonGuides$TextReader", "faultPlace", "I", false)
  | 6 => ("NoonGuides$TextReader", "kind", "I", false)
  | 7 => ("NoonGuides$TextReader", "keyword", "I", false)
  | 8 => ("NoonGuides$TextReader", "value", "I", false)
  | 9 => ("NoonGuides$TextReader", "name", "J", false)
  | 10 => ("NoonGuides$TextReader", "start", "I", false)
  | 11 => ("NoonGuides$TextReader", "takenAt", "I", false)
  | 12 => ("NoonGuides$DaysReader", "open", "[I", true)
  | _ => ("NoonGuides$DaysReader", "depth", "I", false)
def tyX0 : Nat → FieldType := fun k => match k with
  | 0 => .array .long
  | 1 => .array .byte
  | 2 => .int
  | 3 => .int
  | 4 => .int
  | 5 => .int
  | 6 => .int
  | 7 => .int
  | 8 => .int
  | 9 => .long
  | 10 => .int
  | 11 => .int
  | 12 => .array .int
  | _ => .int
theorem nmX0 : ∀ a, a < 14 → ∀ b, b < 14 → a ≠ b → (TX0 a).2.1 ≠ (TX0 b).2.1 := by decide +kernel
theorem tyX0_ok : ∀ k, k < 14 → parseFieldDescriptor (TX0 k).2.2.1 = some (tyX0 k) := by decide +kernel
def RX1 : String := "NoonGuides$Hours"
def TX1 : u_T := fun k => match k with
  | 0 => ("NoonGuides$Hours", "from", "I", false)
  | 1 => ("NoonGuides$Hours", "till", "I", false)
  | _ => ("NoonGuides$Hours", "glareADay", "I", false)
def tyX1 : Nat → FieldType := fun k => match k with
  | 0 => .int
  | 1 => .int
  | _ => .int
theorem nmX1 : ∀ a, a < 3 → ∀ b, b < 3 → a ≠ b → (TX1 a).2.1 ≠ (TX1 b).2.1 := by decide +kernel
theorem tyX1_ok : ∀ k, k < 3 → parseFieldDescriptor (TX1 k).2.2.1 = some (tyX1 k) := by decide +kernel
def RX2 : String := "NoonGuides$Land"
def TX2 : u_T := fun k => match k with
  | 0 => ("NoonGuides$Land", "placeNames", "[J", true)
  | 1 => ("NoonGuides$Land", "roadFrom", "[I", true)
  | 2 => ("NoonGuides$Land", "roadTo", "[I", true)
  | 3 => ("NoonGuides$Land", "roadMinutes", "[I", true)
  | 4 => ("NoonGuides$Land", "roadSmells", "[Z", true)
  | 5 => ("NoonGuides$Land", "people", "[LNoonGuides$Person;", true)
  | 6 => ("NoonGuides$Land", "hours", "LNoonGuides$Hours;", true)
  | 7 => ("NoonGuides$Land", "plan", "LNoonGuides$Plan;", false)
  | 8 => ("NoonGuides$Land", "placeCount", "I", false)
  | 9 => ("NoonGuides$Land", "roadCount", "I", false)
  | 10 => ("NoonGuides$Land", "peopleCount", "I", false)
  | 11 => ("NoonGuides$Land", "minute", "I", false)
  | 12 => ("NoonGuides$Land", "rope", "I", false)
  | 13 => ("NoonGuides$Land", "habit", "I", false)
  | 14 => ("NoonGuides$Land", "odds", "I", false)
  | _ => ("NoonGuides$Land", "cloudy", "Z", false)
def tyX2 : Nat → FieldType := fun k => match k with
  | 0 => .array .long
  | 1 => .array .int
  | 2 => .array .int
  | 3 => .array .int
  | 4 => .array .boolean
  | 5 => .array (.object "NoonGuides$Person")
  | 6 => .object "NoonGuides$Hours"
  | 7 => .object "NoonGuides$Plan"
  | 8 => .int
  | 9 => .int
  | 10 => .int
  | 11 => .int
  | 12 => .int
  | 13 => .int
  | 14 => .int
  | _ => .boolean
theorem nmX2 : ∀ a, a < 16 → ∀ b, b < 16 → a ≠ b → (TX2 a).2.1 ≠ (TX2 b).2.1 := by decide +kernel
theorem tyX2_ok : ∀ k, k < 16 → parseFieldDescriptor (TX2 k).2.2.1 = some (tyX2 k) := by decide +kernel
def RX3 : String := "NoonGuides$LandReader"
def TX3 : u_T := fun k => match k with
  | 0 => ("NoonGuides$TextReader", "keywords", "[J", true)
  | 1 => ("NoonGuides$TextReader", "text", "[B", false)
  | 2 => ("NoonGuides$TextReader", "length", "I", false)
  | 3 => ("NoonGuides$TextReader", "next", "I", false)
  | 4 => ("NoonGuides$TextReader", "faultKind", "I", false)
  | 5 => ("NoonGuides$TextReader", "faultPlace", "I", false)
  | 6 => ("NoonGuides$TextReader", "kind", "I", false)
  | 7 => ("NoonGuides$TextReader", "keyword", "I", false)
  | 8 => ("NoonGuides$TextReader", "value", "I", false)
  | 9 => ("NoonGuides$TextReader", "name", "J", false)
  | 10 => ("NoonGuides$TextReader", "start", "I", false)
  | 11 => ("NoonGuides$TextReader", "takenAt", "I", false)
  | 12 => ("NoonGuides$LandReader", "toldOnce", "I", false)
  | _ => ("NoonGuides$LandReader", "toldKnows", "Z", false)
def tyX3 : Nat → FieldType := fun k => match k with
  | 0 => .array .long
  | 1 => .array .byte
  | 2 => .int
  | 3 => .int
  | 4 => .int
  | 5 => .int
  | 6 => .int
  | 7 => .int
  | 8 => .int
  | 9 => .long
  | 10 => .int
  | 11 => .int
  | 12 => .int
  | _ => .boolean
theorem nmX3 : ∀ a, a < 14 → ∀ b, b < 14 → a ≠ b → (TX3 a).2.1 ≠ (TX3 b).2.1 := by decide +kernel
theorem tyX3_ok : ∀ k, k < 14 → parseFieldDescriptor (TX3 k).2.2.1 = some (tyX3 k) := by decide +kernel
def RX4 : String := "NoonGuides$Life"
def TX4 : u_T := fun k => match k with
  | 0 => ("NoonGuides$Life", "turnsLeft", "[I", true)
  | 1 => ("NoonGuides$Life", "drawn", "I", false)
  | 2 => ("NoonGuides$Life", "steps", "I", false)
  | 3 => ("NoonGuides$Life", "missed", "I", false)
  | 4 => ("NoonGuides$Life", "minutes", "I", false)
  | 5 => ("NoonGuides$Life", "arrivals", "I", false)
  | 6 => ("NoonGuides$Life", "lost", "I", false)
  | _ => ("NoonGuides$Life", "isCutOff", "Z", false)
def tyX4 : Nat → FieldType := fun k => match k with
  | 0 => .array .int
  | 1 => .int
  | 2 => .int
  | 3 => .int
  | 4 => .int
  | 5 => .int
  | 6 => .int
  | _ => .boolean
theorem nmX4 : ∀ a, a < 8 → ∀ b, b < 8 → a ≠ b → (TX4 a).2.1 ≠ (TX4 b).2.1 := by decide +kernel
theorem tyX4_ok : ∀ k, k < 8 → parseFieldDescriptor (TX4 k).2.2.1 = some (tyX4 k) := by decide +kernel
def RX5 : String := "NoonGuides$Pairing"
def TX5 : u_T := fun k => match k with
  | 0 => ("NoonGuides$Pairing", "partner", "[I", true)
  | _ => ("NoonGuides$Pairing", "asked", "[I", true)
def tyX5 : Nat → FieldType := fun k => match k with
  | 0 => .array .int
  | _ => .array .int
theorem nmX5 : ∀ a, a < 2 → ∀ b, b < 2 → a ≠ b → (TX5 a).2.1 ≠ (TX5 b).2.1 := by decide +kernel
theorem tyX5_ok : ∀ k, k < 2 → parseFieldDescriptor (TX5 k).2.2.1 = some (tyX5 k) := by decide +kernel
def RX6 : String := "NoonGuides$Paths"
def TX6 : u_T := fun k => match k with
  | 0 => ("NoonGuides$Paths", "costs", "[I", true)
  | 1 => ("NoonGuides$Paths", "otherCosts", "[I", true)
  | 2 => ("NoonGuides$Paths", "counts", "[J", false)
  | 3 => ("NoonGuides$Paths", "newCounts", "[J", false)
  | 4 => ("NoonGuides$Paths", "meetingPlace", "I", false)
  | _ => ("NoonGuides$Paths", "meetingIn", "I", false)
def tyX6 : Nat → FieldType := fun k => match k with
  | 0 => .array .int
  | 1 => .array .int
  | 2 => .array .long
  | 3 => .array .long
  | 4 => .int
  | _ => .int
theorem nmX6 : ∀ a, a < 6 → ∀ b, b < 6 → a ≠ b → (TX6 a).2.1 ≠ (TX6 b).2.1 := by decide +kernel
theorem tyX6_ok : ∀ k, k < 6 → parseFieldDescriptor (TX6 k).2.2.1 = some (tyX6 k) := by decide +kernel
def RX7 : String := "NoonGuides$Person"
def TX7 : u_T := fun k => match k with
  | 0 => ("NoonGuides$Person", "gone", "[I", true)
  | 1 => ("NoonGuides$Person", "owes", "[I", true)
  | 2 => ("NoonGuides$Person", "name", "J", false)
  | 3 => ("NoonGuides$Person", "sighted", "Z", false)
  | 4 => ("NoonGuides$Person", "hasGlasses", "Z", false)
  | 5 => ("NoonGuides$Person", "place", "I", false)
  | 6 => ("NoonGuides$Person", "road", "I", false)
  | 7 => ("NoonGuides$Person", "origin", "I", false)
  | 8 => ("NoonGuides$Person", "goal", "I", false)
  | 9 => ("NoonGuides$Person", "leader", "I", false)
  | 10 => ("NoonGuides$Person", "left", "I", false)
  | _ => ("NoonGuides$Person", "lost", "I", false)
def tyX7 : Nat → FieldType := fun k => match k with
  | 0 => .array .int
  | 1 => .array .int
  | 2 => .long
  | 3 => .boolean
  | 4 => .boolean
  | 5 => .int
  | 6 => .int
  | 7 => .int
  | 8 => .int
  | 9 => .int
  | 10 => .int
  | _ => .int
theorem nmX7 : ∀ a, a < 12 → ∀ b, b < 12 → a ≠ b → (TX7 a).2.1 ≠ (TX7 b).2.1 := by decide +kernel
theorem tyX7_ok : ∀ k, k < 12 → parseFieldDescriptor (TX7 k).2.2.1 = some (tyX7 k) := by decide +kernel
def RX8 : String := "NoonGuides$Plan"
def TX8 : u_T := fun k => match k with
  | 0 => ("NoonGuides$Plan", "kinds", "[I", true)
  | 1 => ("NoonGuides$Plan", "first", "[I", true)
  | 2 => ("NoonGuides$Plan", "second", "[I", true)
  | 3 => ("NoonGuides$Plan", "third", "[I", true)
  | 4 => ("NoonGuides$Plan", "partner", "[I", true)
  | 5 => ("NoonGuides$Plan", "rows", "I", false)
  | 6 => ("NoonGuides$Plan", "steps", "I", false)
  | _ => ("NoonGuides$Plan", "isTold", "Z", false)
def tyX8 : Nat → FieldType := fun k => match k with
  | 0 => .array .int
  | 1 => .array .int
  | 2 => .array .int
  | 3 => .array .int
  | 4 => .array .int
  | 5 => .int
  | 6 => .int
  | _ => .boolean
theorem nmX8 : ∀ a, a < 8 → ∀ b, b < 8 → a ≠ b → (TX8 a).2.1 ≠ (TX8 b).2.1 := by decide +kernel
theorem tyX8_ok : ∀ k, k < 8 → parseFieldDescriptor (TX8 k).2.2.1 = some (tyX8 k) := by decide +kernel
def RX9 : String := "NoonGuides$TextReader"
def TX9 : u_T := fun k => match k with
  | _ => ("", "", "", false)
def tyX9 : Nat → FieldType := fun k => match k with
  | _ => .int
theorem nmX9 : ∀ a, a < 0 → ∀ b, b < 0 → a ≠ b → (TX9 a).2.1 ≠ (TX9 b).2.1 := by decide +kernel
theorem tyX9_ok : ∀ k, k < 0 → parseFieldDescriptor (TX9 k).2.2.1 = some (tyX9 k) := by decide +kernel
def RX10 : String := "NoonGuides$Tray"
def TX10 : u_T := fun k => match k with
  | 0 => ("NoonGuides$Tray", "numbers", "[J", true)
  | 1 => ("NoonGuides$Tray", "sort", "I", false)
  | _ => ("NoonGuides$Tray", "length", "I", false)
def tyX10 : Nat → FieldType := fun k => match k with
  | 0 => .array .long
  | 1 => .int
  | _ => .int
theorem nmX10 : ∀ a, a < 3 → ∀ b, b < 3 → a ≠ b → (TX10 a).2.1 ≠ (TX10 b).2.1 := by decide +kernel
theorem tyX10_ok : ∀ k, k < 3 → parseFieldDescriptor (TX10 k).2.2.1 = some (tyX10 k) := by decide +kernel
def RX11 : String := "NoonGuides"
def TX11 : u_T := fun k => match k with
  | 0 => ("NoonGuides", "trays", "[LNoonGuides$Tray;", true)
  | 1 => ("NoonGuides", "tape", "[B", true)
  | 2 => ("NoonGuides", "markedLands", "[LNoonGuides$Land;", true)
  | 3 => ("NoonGuides", "livedLast", "[I", true)
  | 4 => ("NoonGuides", "landReader", "LNoonGuides$LandReader;", true)
  | 5 => ("NoonGuides", "daysReader", "LNoonGuides$DaysReader;", true)
  | 6 => ("NoonGuides", "life", "LNoonGuides$Life;", true)
  | 7 => ("NoonGuides", "paths", "LNoonGuides$Paths;", true)
  | 8 => ("NoonGuides", "pairing", "LNoonGuides$Pairing;", true)
  | 9 => ("NoonGuides", "otherHours", "LNoonGuides$Hours;", true)
  | 10 => ("NoonGuides", "country", "LNoonGuides$Land;", false)
  | 11 => ("NoonGuides", "spareLand", "LNoonGuides$Land;", false)
  | 12 => ("NoonGuides", "sparePlan", "LNoonGuides$Plan;", false)
  | 13 => ("NoonGuides", "taped", "I", false)
  | 14 => ("NoonGuides", "marks", "I", false)
  | 15 => ("NoonGuides", "lastStatus", "I", false)
  | 16 => ("NoonGuides", "faultKind", "I", false)
  | 17 => ("NoonGuides", "faultPlace", "I", false)
  | 18 => ("NoonGuides", "fractionTop", "J", false)
  | _ => ("NoonGuides", "fractionBottom", "J", false)
def tyX11 : Nat → FieldType := fun k => match k with
  | 0 => .array (.object "NoonGuides$Tray")
  | 1 => .array .byte
  | 2 => .array (.object "NoonGuides$Land")
  | 3 => .array .int
  | 4 => .object "NoonGuides$LandReader"
  | 5 => .object "NoonGuides$DaysReader"
  | 6 => .object "NoonGuides$Life"
  | 7 => .object "NoonGuides$Paths"
  | 8 => .object "NoonGuides$Pairing"
  | 9 => .object "NoonGuides$Hours"
  | 10 => .object "NoonGuides$Land"
  | 11 => .object "NoonGuides$Land"
  | 12 => .object "NoonGuides$Plan"
  | 13 => .int
  | 14 => .int
  | 15 => .int
  | 16 => .int
  | 17 => .int
  | 18 => .long
  | _ => .long
theorem nmX11 : ∀ a, a < 20 → ∀ b, b < 20 → a ≠ b → (TX11 a).2.1 ≠ (TX11 b).2.1 := by decide +kernel
theorem tyX11_ok : ∀ k, k < 20 → parseFieldDescriptor (TX11 k).2.2.1 = some (tyX11 k) := by decide +kernel
def RX12 : String := "NoonGuidesModel"
def TX12 : u_T := fun k => match k with
  | _ => ("", "", "", false)
def tyX12 : Nat → FieldType := fun k => match k with
  | _ => .int
theorem nmX12 : ∀ a, a < 0 → ∀ b, b < 0 → a ≠ b → (TX12 a).2.1 ≠ (TX12 b).2.1 := by decide +kernel
theorem tyX12_ok : ∀ k, k < 0 → parseFieldDescriptor (TX12 k).2.2.1 = some (tyX12 k) := by decide +kernel
abbrev vwCl : List vw_C := [(RX0, TX0, 14), (RX1, TX1, 3), (RX2, TX2, 16), (RX3, TX3, 14), (RX4, TX4, 8), (RX5, TX5, 2), (RX6, TX6, 6), (RX7, TX7, 12), (RX8, TX8, 8), (RX10, TX10, 3), (RX11, TX11, 20)]
/-! ===== the words ===== -/
/-- private methods of the abstract reader, on both readers -/
def selx : List Cond := [Cond.selects "NoonGuides$LandReader" ⟨"NoonGuides$TextReader", "advance", "()V"⟩ ⟨"NoonGuides$TextReader", "advance", "()V"⟩, Cond.selects "NoonGuides$LandReader" ⟨"NoonGuides$TextReader", "scanWord", "()V"⟩ ⟨"NoonGuides$TextReader", "scanWord", "()V"⟩, Cond.selects "NoonGuides$LandReader" ⟨"NoonGuides$TextReader", "scanNumber", "()V"⟩ ⟨"NoonGuides$TextReader", "scanNumber", "()V"⟩, Cond.selects "NoonGuides$LandReader" ⟨"NoonGuides$TextReader", "takeKnown", "(I)I"⟩ ⟨"NoonGuides$TextReader", "takeKnown", "(I)I"⟩, Cond.selects "NoonGuides$DaysReader" ⟨"NoonGuides$TextReader", "advance", "()V"⟩ ⟨"NoonGuides$TextReader", "advance", "()V"⟩, Cond.selects "NoonGuides$DaysReader" ⟨"NoonGuides$TextReader", "scanWord", "()V"⟩ ⟨"NoonGuides$TextReader", "scanWord", "()V"⟩, Cond.selects "NoonGuides$DaysReader" ⟨"NoonGuides$TextReader", "scanNumber", "()V"⟩ ⟨"NoonGuides$TextReader", "scanNumber", "()V"⟩, Cond.selects "NoonGuides$DaysReader" ⟨"NoonGuides$TextReader", "takeKnown", "(I)I"⟩ ⟨"NoonGuides$TextReader", "takeKnown", "(I)I"⟩]
def tbx : List Cond := selx ++ lw_tbl
def tb : List Cond := tbx.filter goodWord
theorem tb_i (k : Nat) {c : Cond} (h : tbx[k]? = some c) (g : goodWord c = true) : c ∈ tb := List.mem_filter.mpr ⟨List.mem_of_getElem? h, g⟩
theorem tb_good {y : MethodName} {cc : ByteArray} {n : Nat} {r : Option FieldType} (h : Cond.code y cc n r ∈ tb) {big : List Cond} (hb : ∀ w ∈ tb, w ∈ big) : GoodIn big (Cond.code y cc n r :: tb) := fun w hw => by
  rcases List.mem_cons.mp hw with e | e
  · rw [e]; exact ⟨hb _ h, good_of_word (List.mem_filter.mp h).2⟩
  · exact ⟨hb _ e, good_of_word (List.mem_filter.mp e).2⟩
theorem tb_X0 : ∀ w ∈ u_ws RX0 TX0 14, w ∈ tb := by decide +kernel
theorem tb_X1 : ∀ w ∈ u_ws RX1 TX1 3, w ∈ tb := by decide +kernel
theorem tb_X2 : ∀ w ∈ u_ws RX2 TX2 16, w ∈ tb := by decide +kernel
theorem tb_X3 : ∀ w ∈ u_ws RX3 TX3 14, w ∈ tb := by decide +kernel
theorem tb_X4 : ∀ w ∈ u_ws RX4 TX4 8, w ∈ tb := by decide +kernel
theorem tb_X5 : ∀ w ∈ u_ws RX5 TX5 2, w ∈ tb := by decide +kernel
theorem tb_X6 : ∀ w ∈ u_ws RX6 TX6 6, w ∈ tb := by decide +kernel
theorem tb_X7 : ∀ w ∈ u_ws RX7 TX7 12, w ∈ tb := by decide +kernel
theorem tb_X8 : ∀ w ∈ u_ws RX8 TX8 8, w ∈ tb := by decide +kernel
theorem tb_X10 : ∀ w ∈ u_ws RX10 TX10 3, w ∈ tb := by decide +kernel
theorem tb_X11 : ∀ w ∈ u_ws RX11 TX11 20, w ∈ tb := by decide +kernel
/-! ===== memory: ints, longs and references by cell and place ===== -/
/-- a whole row of ints, of longs -/
theorem kts_len : kts.length = NK := by decide +kernel
theorem kty_lt {a t : Nat} (h : kty a = t) (h0 : t ≠ 0) : a < NK := by
  rcases Nat.lt_or_ge a NK with q | q
  · exact q
  · exact absurd (h.symm.trans (by unfold kty; rw [List.getD_eq_getElem?_getD, List.getElem?_eq_none (by rw [kts_len]; exact q)]; rfl)) h0
theorem kty_all {t t2 : Nat} {f : Nat → Nat} (hf : ((List.range NK).all fun a => !(kty a == t) || kty (f a) == t2) = true) (h0 : t ≠ 0) {a : Nat} (h : kty a = t) : kty (f a) = t2 := by
  have h1 := List.all_eq_true.mp hf a (List.mem_range.mpr (kty_lt h h0))
  simpa [h] using h1
def fl_2 (ad : Nat → Nat) (a : Nat) (i : Nat → Int32) (j : Nat → Int64) (r : Nat → Nat) : List Value := [.ref (ad (a + 1)), .ref (ad (a + 2)), .ref (ad (a + 3)), .ref (ad (a + 4)), .ref (ad (a + 5)), .ref (ad (a + 6)), .ref (ad (a + 7)), .ref (ad (r 7)), .int (i 8), .int (i 9), .int (i 10), .int (i 11), .int (i 12), .int (i 13), .int (i 14), .int (i 15)]
def fl_8 (ad : Nat → Nat) (a : Nat) (i : Nat → Int32) (j : Nat → Int64) (r : Nat → Nat) : List Value := [.ref (ad (a + 1)), .ref (ad (a + 2)), .ref (ad (a + 3)), .ref (ad (a + 4)), .ref (ad (a + 5)), .int (i 5), .int (i 6), .int (i 7)]
def fl_9 (ad : Nat → Nat) (a : Nat) (i : Nat → Int32) (j : Nat → Int64) (r : Nat → Nat) : List Value := [.ref (ad (a + 1)), .int (i 1), .int (i 2)]
def fl_7 (ad : Nat → Nat) (a : Nat) (i : Nat → Int32) (j : Nat → Int64) (r : Nat → Nat) : List Value := [.ref (ad (a + 1)), .ref (ad (a + 2)), .long (j 2), .int (i 3), .int (i 4), .int (i 5), .int (i 6), .int (i 7), .int (i 8), .int (i 9), .int (i 10), .int (i 11)]
def fl_1 (ad : Nat → Nat) (a : Nat) (i : Nat → Int32) (j : Nat → Int64) (r : Nat → Nat) : List Value := [.int (i 0), .int (i 1), .int (i 2)]
def fl_3 (ad : Nat → Nat) (a : Nat) (i : Nat → Int32) (j : Nat → Int64) (r : Nat → Nat) : List Value := [.ref (ad (a + 1)), .ref (ad (r 1)), .int (i 2), .int (i 3), .int (i 4), .int (i 5), .int (i 6), .int (i 7), .int (i 8), .long (j 9), .int (i 10), .int (i 11), .int (i 12), .int (i 13)]
def fl_0 (ad : Nat → Nat) (a : Nat) (i : Nat → Int32) (j : Nat → Int64) (r : Nat → Nat) : List Value := [.ref (ad (a + 1)), .ref (ad (r 1)), .int (i 2), .int (i 3), .int (i 4), .int (i 5), .int (i 6), .int (i 7), .int (i 8), .long (j 9), .int (i 10), .int (i 11), .ref (ad (a + 3)), .int (i 13)]
def fl_4 (ad : Nat → Nat) (a : Nat) (i : Nat → Int32) (j : Nat → Int64) (r : Nat → Nat) : List Value := [.ref (ad (a + 1)), .int (i 1), .int (i 2), .int (i 3), .int (i 4), .int (i 5), .int (i 6), .int (i 7)]
def fl_6 (ad : Nat → Nat) (a : Nat) (i : Nat → Int32) (j : Nat → Int64) (r : Nat → Nat) : List Value := [.ref (ad (a + 1)), .ref (ad (a + 2)), .ref (ad (r 2)), .ref (ad (r 3)), .int (i 4), .int (i 5)]
def fl_5 (ad : Nat → Nat) (a : Nat) (i : Nat → Int32) (j : Nat → Int64) (r : Nat → Nat) : List Value := [.ref (ad (a + 1)), .ref (ad (a + 2))]
def fl_10 (ad : Nat → Nat) (a : Nat) (i : Nat → Int32) (j : Nat → Int64) (r : Nat → Nat) : List Value := [.ref (ad (a + 1)), .ref (ad (a + 2)), .ref (ad (a + 3)), .ref (ad (a + 4)), .ref (ad (a + 5)), .ref (ad (a + 8)), .ref (ad (a + 12)), .ref (ad (a + 14)), .ref (ad (a + 19)), .ref (ad (a + 22)), .ref (ad (r 10)), .ref (ad (r 11)), .ref (ad (r 12)), .int (i 13), .int (i 14), .int (i 15), .int (i 16), .int (i 17), .long (j 18), .long (j 19)]
/-- what stands in a cell, by its kind -/
def kc (ad : Nat → Nat) (cy : Nat → ClassId) (t a : Nat) (i : Nat → Int32) (j : Nat → Int64) (r : Nat → Nat) : va_E := match t with
  | 1 => .inr (0, fl_0 ad a i j r)
  | 2 => .inr (1, fl_1 ad a i j r)
  | 3 => .inr (2, fl_2 ad a i j r)
  | 4 => .inr (3, fl_3 ad a i j r)
  | 5 => .inr (4, fl_4 ad a i j r)
  | 6 => .inr (5, fl_5 ad a i j r)
  | 7 => .inr (6, fl_6 ad a i j r)
  | 8 => .inr (7, fl_7 ad a i j r)
  | 9 => .inr (8, fl_8 ad a i j r)
  | 10 => .inr (9, fl_9 ad a i j r)
  | 11 => .inr (10, fl_10 ad a i j r)
  | 20 => .inl (cy 6, 4, .inr (.inr (.inr (.inr fun q => some (ad (a + 104 + 2 * q))))))
  | 21 => .inl (cy 0, 900, .inl i)
  | 22 => .inl (cy 4, 3, .inr (.inr (.inr (.inr fun q => some (ad (a + 110 + 38 * q))))))
  | 23 => .inl (cy 1, 5, .inl i)
  | 24 => .inl (cy 2, 26, .inr (.inl j))
  | 25 => .inl (cy 0, 0, .inl i)
  | 26 => .inl (cy 1, 3, .inl i)
  | 27 => .inl (cy 1, 60, .inl i)
  | 28 => .inl (cy 1, 8, .inl i)
  | 29 => .inl (cy 2, 8, .inr (.inl j))
  | 30 => .inl (cy 1, 12, .inl i)
  | 31 => .inl (cy 3, 12, .inl i)
  | 32 => .inl (cy 5, 8, .inr (.inr (.inr (.inr fun q => some (ad (a + 8 + 3 * q))))))
  | 33 => .inl (cy 2, 60, .inr (.inl j))
  | 34 => .inl (cy 1, 24, .inl i)
  | 35 => .inl (cy 1, 53, .inl i)
  | _ => .inl (cy 1, 0, .inl i)
def kws (ad : Nat → Nat) (cy : Nat → ClassId) (M : KM) : va_W := (List.range NK).map fun a => (ad a, kc ad cy (kty a) a (M.1 a) (M.2.1 a) (M.2.2 a))
abbrev ktys (cy : Nat → ClassId) : List (ClassId × FieldType) := [(cy 0, .byte), (cy 1, .int), (cy 2, .long), (cy 3, .boolean), (cy 4, .object "NoonGuides$Land"), (cy 5, .object "NoonGuides$Person"), (cy 6, .object "NoonGuides$Tray")]
/-- what the references that change lead to -/
def KT (r : Nat → Nat → Nat) : Prop := (∀ a, kty a = 11 → kty (r a 10) = 3) ∧ (∀ a, kty a = 11 → kty (r a 11) = 3) ∧ (∀ a, kty a = 11 → kty (r a 12) = 9) ∧ (∀ a, kty a = 3 → kty (r a 7) = 9) ∧ (∀ a, kty a = 4 → kty (r a 1) = 21 ∨ kty (r a 1) = 25) ∧ (∀ a, kty a = 1 → kty (r a 1) = 21 ∨ kty (r a 1) = 25) ∧ (∀ a, kty a = 7 → kty (r a 2) = 29) ∧ (∀ a, kty a = 7 → kty (r a 3) = 29)
theorem kws_at {ad : Nat → Nat} {cy : Nat → ClassId} {M : KM} {a : Nat} (h : a < NK) : (kws ad cy M)[a]? = some (ad a, kc ad cy (kty a) a (M.1 a) (M.2.1 a) (M.2.2 a)) := by
  simp only [kws, List.getElem?_map, List.getElem?_range h, Option.map_some]
theorem kws_ad {ad : Nat → Nat} {cy : Nat → ClassId} {M : KM} {k : Nat} {q : Nat × va_E} (h : (kws ad cy M)[k]? = some q) : k < NK ∧ q.1 = ad k := by
  simp only [kws, List.getElem?_map] at h
  rcases Nat.lt_or_ge k NK with hk | hk
  · rw [List.getElem?_range hk, Option.map_some] at h
    exact ⟨hk, by rw [← Option.some.inj h]⟩
  · rw [List.getElem?_eq_none (by rw [List.length_range]; exact hk)] at h
    cases h
theorem kws_upd {ad : Nat → Nat} {cy : Nat → ClassId} {M M' : KM} {a : Nat} {e : va_E} (h : ∀ b, b ≠ a → M'.1 b = M.1 b ∧ M'.2.1 b = M.2.1 b ∧ M'.2.2 b = M.2.2 b) (he : kc ad cy (kty a) a (M'.1 a) (M'.2.1 a) (M'.2.2 a) = e) : (kws ad cy M).set a (ad a, e) = kws ad cy M' := by
  apply List.ext_getElem?
  intro k
  rcases Nat.lt_or_ge k NK with hk | hk
  · rw [kws_at hk]
    by_cases hka : k = a
    · subst hka
      rw [List.getElem?_set_self (by simp [kws]; exact hk), he]
    · rw [List.getElem?_set_ne (fun z => hka z.symm), kws_at hk, (h k hka).1, (h k hka).2.1, (h k hka).2.2]
  · rw [List.getElem?_eq_none (by simp [kws]; exact hk), List.getElem?_eq_none (by simp [kws]; exact hk)]
/-- the addresses are apart and new -/
def KA (ad : Nat → Nat) (z : Nat) : Prop := (∀ a b, ad a = ad b → a = b) ∧ ∀ a, z ≤ ad a
theorem kws_D {ad : Nat → Nat} {cy : Nat → ClassId} {M : KM} {z : Nat} (h : KA ad z) : va_D (fun q => z ≤ q) (kws ad cy M) := by
  refine ⟨fun i j p q hp hq e => ?_, fun k q hq => ?_⟩
  · rw [(kws_ad hp).2, (kws_ad hq).2] at e
    exact h.1 _ _ e
  · show z ≤ q.1
    rw [(kws_ad hq).2]
    exact h.2 k
def KR (ad : Nat → Nat) (D : va_G) (cy : Nat → ClassId) (M : KM) (H : Heap) : Prop := va_P D vwCl (kws ad cy M) H ∧ KT M.2.2
abbrev KO : Type := Option Value × KM
abbrev KX : Type := Program × Launch × Env × Room × State × MethodId × Array Value × List Frame × Method × Code × va_G × Nat × Nat × Nat × Nat × (KO → State → Prop)
def KQ (ad : Nat → Nat) (cy : Nat → ClassId) (D : va_G) (z : Nat) (o : KO) : Array Value → State → Outcome → State → Prop := fun _ st oc t => oc = .returned o.1 ∧ KR ad D cy o.2 t.heap ∧ va_F (fun q => z ≤ q) st t
/-- what stays while a method runs; rt: what it returns (none: the law itself) -/
def KG (ad : Nat → Nat) (cy : Nat → ClassId) (x : KX) (cc : ByteArray) (own : String) (nL : Nat) (rt : Option (Option FieldType)) (d : Nat) : Prop := match x with
  | (p, l, e, R, s, m, args, below, meth, c, D, z, n, k1, k2, Q) => p.tables.exec = Jvm.exec ∧ c.code = cc ∧ c.maxLocals = nL ∧ n = nL ∧ s.vm.findClass own = some m.cls ∧ (∀ r, rt = some r → meth.sig.returnType = r ∧ Q = fun o => MQ below (KQ ad cy D z o) args s k1 k2 (fun q => z ≤ q)) ∧ meth.locks = false ∧ (∀ w ∈ tb, w.before args s = true) ∧ va_K D vwCl (ktys cy) s ∧ KA ad z ∧ (d ≤ R.frames ∧ k1 ≤ R.cells ∧ k2 ≤ R.slots) ∧ 38 * d ≤ R.locals ∧ z ≤ s.heap.size
/-- from here the method comes to its end with o -/
def KV (ad : Nat → Nat) (cy : Nat → ClassId) (x : KX) (o : KO) (pc : Nat) (L : List (Nat × Value)) (st : List Value) (M : KM) : Prop := match x with
  | (p, l, e, R, s, m, args, below, meth, c, D, z, n, k1, k2, Q) => ∀ (H : Heap) (locs : List Loc) (ls : Array Slot), KR ad D cy M H → va_S (fun q => z ≤ q) s.heap H locs → lv_has ls n L → W p l e R s m args below meth c H locs k1 k2 (Q o) (F0 m pc ls st)
/-- an instruction, its length, and the place behind it -/
def dc (cc : ByteArray) (pc : Nat) (i : Instr) (ln pc2 : Nat) : Prop := decode cc pc = .ok (i, ln) ∧ pc + ln = pc2
abbrev krm (d : Nat) : Room := { frames := d, cells := 0, slots := 0, locals := 38 * d }
/-- a method's contract -/
def KC (l : Launch) (ad : Nat → Nat) (cy : Nat → ClassId) (D : va_G) (z : Nat) (y : MethodName) (cc : ByteArray) (nL : Nat) (ret : Option FieldType) (d : Nat) (av : List Value) (M : KM) (o : KO) : Prop :=
  Met l y (Cond.code y cc nL ret :: tb) (krm d) (va_Pc av (fun U => KR ad D cy M U.heap ∧ va_K D vwCl (ktys cy) U ∧ KA ad z ∧ z ≤ U.heap.size)) (KQ ad cy D z o) 0 0 (fun q => z ≤ q)
theorem kv_enter {l : Launch} {ad : Nat → Nat} {cy : Nat → ClassId} {D : va_G} {z : Nat} {y : MethodName} {cc : ByteArray} {nL : Nat} {ret : Option FieldType} {d : Nat} {av : List Value} {M : KM} {o : KO} (hy : plainName y.cls = true) (hl : (lg_sl av).length ≤ nL)
    (body : ∀ x : KX, x.2.1 = l → x.2.2.2.2.2.2.2.2.2.2.1 = D → x.2.2.2.2.2.2.2.2.2.2.2.1 = z → KG ad cy x cc y.cls nL (some ret) d → KV ad cy x o 0 (lv_args 0 av) [] M) : KC l ad cy D z y cc nL ret d av M o := by
  refine Met.ofW (cc := cc) (maxL := nL) (ret := ret) hy rfl ?_
  intro p e s m args below meth c s₁ B hml hv
  obtain ⟨rfl, hR, hK, hA, hz⟩ := hv
  have hts := atoms_spec (ws := Cond.code y cc nL ret :: tb) B.pre
  have h1 := body (p, l, e, krm d, s, m, av.toArray, below, meth, c, D, z, nL, 0, 0, fun o => MQ below (KQ ad cy D z o) av.toArray s 0 0 (fun q => z ≤ q)) rfl rfl rfl ⟨B.exec, B.bytes, hml, rfl, findClass_of_methodNamed B.named, fun r hr => by cases hr; exact ⟨B.returns, rfl⟩, B.notSynchronized, fun w hw => hts w (List.mem_cons_of_mem _ hw), hK, hA, ⟨Nat.le_refl _, Nat.le_refl _, Nat.le_refl _⟩, Nat.le_refl _, hz⟩
  rw [lg_entry_eq]
  exact h1 s.heap [] _ hR va_S.rf (lv_entry av hl)

