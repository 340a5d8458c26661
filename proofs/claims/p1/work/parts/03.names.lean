/-! ===== printed by wip/gen_names.py: names, methods, pools ===== -/
def RX0 : String := "RaftTown$Judge"
def TX0 : u_T := fun k => match k with
  | 0 => ("RaftTown$Judge", "names", "[I", true)
  | 1 => ("RaftTown$Judge", "values", "[I", true)
  | _ => ("RaftTown$Judge", "open", "I", false)
def tyX0 : Nat → FieldType := fun k => match k with
  | 0 => .array .int
  | 1 => .array .int
  | _ => .int
theorem nmX0 : ∀ a, a < 3 → ∀ b, b < 3 → a ≠ b → (TX0 a).2.1 ≠ (TX0 b).2.1 := by decide +kernel
theorem tyX0_ok : ∀ k, k < 3 → parseFieldDescriptor (TX0 k).2.2.1 = some (tyX0 k) := by decide +kernel
def RX1 : String := "RaftTown$Log"
def TX1 : u_T := fun k => match k with
  | 0 => ("RaftTown$Log", "whats", "[I", true)
  | 1 => ("RaftTown$Log", "numbers", "[I", true)
  | 2 => ("RaftTown$Log", "days", "[I", true)
  | 3 => ("RaftTown$Log", "knowers", "[I", true)
  | 4 => ("RaftTown$Log", "first", "I", false)
  | 5 => ("RaftTown$Log", "size", "I", false)
  | 6 => ("RaftTown$Log", "lawText", "[I", true)
  | 7 => ("RaftTown$Log", "lawKnown", "[I", true)
  | _ => ("RaftTown$Log", "lawCount", "I", false)
def tyX1 : Nat → FieldType := fun k => match k with
  | 0 => .array .int
  | 1 => .array .int
  | 2 => .array .int
  | 3 => .array .int
  | 4 => .int
  | 5 => .int
  | 6 => .array .int
  | 7 => .array .int
  | _ => .int
theorem nmX1 : ∀ a, a < 9 → ∀ b, b < 9 → a ≠ b → (TX1 a).2.1 ≠ (TX1 b).2.1 := by decide +kernel
theorem tyX1_ok : ∀ k, k < 9 → parseFieldDescriptor (TX1 k).2.2.1 = some (tyX1 k) := by decide +kernel
def RX2 : String := "RaftTown$Net"
def TX2 : u_T := fun k => match k with
  | 0 => ("RaftTown$Net", "ends", "[I", true)
  | 1 => ("RaftTown$Net", "strength", "[I", true)
  | 2 => ("RaftTown$Net", "lighter", "[I", true)
  | 3 => ("RaftTown$Net", "weight", "[I", true)
  | 4 => ("RaftTown$Net", "all", "I", false)
  | _ => ("RaftTown$Net", "afloat", "I", false)
def tyX2 : Nat → FieldType := fun k => match k with
  | 0 => .array .int
  | 1 => .array .int
  | 2 => .array .int
  | 3 => .array .int
  | 4 => .int
  | _ => .int
theorem nmX2 : ∀ a, a < 6 → ∀ b, b < 6 → a ≠ b → (TX2 a).2.1 ≠ (TX2 b).2.1 := by decide +kernel
theorem tyX2_ok : ∀ k, k < 6 → parseFieldDescriptor (TX2 k).2.2.1 = some (tyX2 k) := by decide +kernel
def RX3 : String := "RaftTown$Person"
def TX3 : u_T := fun k => match k with
  | 0 => ("RaftTown$Person", "raft", "I", false)
  | 1 => ("RaftTown$Person", "born", "I", false)
  | 2 => ("RaftTown$Person", "one", "I", false)
  | 3 => ("RaftTown$Person", "two", "I", false)
  | 4 => ("RaftTown$Person", "wedTo", "I", false)
  | 5 => ("RaftTown$Person", "thirst", "I", false)
  | _ => ("RaftTown$Person", "lost", "Z", false)
def tyX3 : Nat → FieldType := fun k => match k with
  | 0 => .int
  | 1 => .int
  | 2 => .int
  | 3 => .int
  | 4 => .int
  | 5 => .int
  | _ => .boolean
theorem nmX3 : ∀ a, a < 7 → ∀ b, b < 7 → a ≠ b → (TX3 a).2.1 ≠ (TX3 b).2.1 := by decide +kernel
theorem tyX3_ok : ∀ k, k < 7 → parseFieldDescriptor (TX3 k).2.2.1 = some (tyX3 k) := by decide +kernel
def RX4 : String := "RaftTown$Raft"
def TX4 : u_T := fun k => match k with
  | 0 => ("RaftTown$Raft", "kind", "I", false)
  | 1 => ("RaftTown$Raft", "cell", "I", false)
  | 2 => ("RaftTown$Raft", "planks", "I", false)
  | 3 => ("RaftTown$Raft", "hold", "I", false)
  | 4 => ("RaftTown$Raft", "water", "I", false)
  | 5 => ("RaftTown$Raft", "goods", "I", false)
  | _ => ("RaftTown$Raft", "sunk", "Z", false)
def tyX4 : Nat → FieldType := fun k => match k with
  | 0 => .int
  | 1 => .int
  | 2 => .int
  | 3 => .int
  | 4 => .int
  | 5 => .int
  | _ => .boolean
theorem nmX4 : ∀ a, a < 7 → ∀ b, b < 7 → a ≠ b → (TX4 a).2.1 ≠ (TX4 b).2.1 := by decide +kernel
theorem tyX4_ok : ∀ k, k < 7 → parseFieldDescriptor (TX4 k).2.2.1 = some (tyX4 k) := by decide +kernel
def RX5 : String := "RaftTown$Rope"
def TX5 : u_T := fun k => match k with
  | 0 => ("RaftTown$Rope", "one", "I", false)
  | 1 => ("RaftTown$Rope", "two", "I", false)
  | 2 => ("RaftTown$Rope", "sideOne", "I", false)
  | 3 => ("RaftTown$Rope", "sideTwo", "I", false)
  | 4 => ("RaftTown$Rope", "toldStrength", "I", false)
  | 5 => ("RaftTown$Rope", "age", "I", false)
  | 6 => ("RaftTown$Rope", "wetDays", "I", false)
  | _ => ("RaftTown$Rope", "live", "Z", false)
def tyX5 : Nat → FieldType := fun k => match k with
  | 0 => .int
  | 1 => .int
  | 2 => .int
  | 3 => .int
  | 4 => .int
  | 5 => .int
  | 6 => .int
  | _ => .boolean
theorem nmX5 : ∀ a, a < 8 → ∀ b, b < 8 → a ≠ b → (TX5 a).2.1 ≠ (TX5 b).2.1 := by decide +kernel
theorem tyX5_ok : ∀ k, k < 8 → parseFieldDescriptor (TX5 k).2.2.1 = some (tyX5 k) := by decide +kernel
def RX6 : String := "RaftTown$Sea"
def TX6 : u_T := fun k => match k with
  | 0 => ("RaftTown$Sea", "streamX", "[I", true)
  | 1 => ("RaftTown$Sea", "streamY", "[I", true)
  | _ => ("RaftTown$Sea", "steps", "[J", true)
def tyX6 : Nat → FieldType := fun k => match k with
  | 0 => .array .int
  | 1 => .array .int
  | _ => .array .long
theorem nmX6 : ∀ a, a < 3 → ∀ b, b < 3 → a ≠ b → (TX6 a).2.1 ≠ (TX6 b).2.1 := by decide +kernel
theorem tyX6_ok : ∀ k, k < 3 → parseFieldDescriptor (TX6 k).2.2.1 = some (tyX6 k) := by decide +kernel
def RX7 : String := "RaftTown$Sheet"
def TX7 : u_T := fun k => match k with
  | 0 => ("RaftTown$Sheet", "bits", "I", false)
  | 1 => ("RaftTown$Sheet", "length", "I", false)
  | _ => ("RaftTown$Sheet", "row", "[I", true)
def tyX7 : Nat → FieldType := fun k => match k with
  | 0 => .int
  | 1 => .int
  | _ => .array .int
theorem nmX7 : ∀ a, a < 3 → ∀ b, b < 3 → a ≠ b → (TX7 a).2.1 ≠ (TX7 b).2.1 := by decide +kernel
theorem tyX7_ok : ∀ k, k < 3 → parseFieldDescriptor (TX7 k).2.2.1 = some (tyX7 k) := by decide +kernel
def RX8 : String := "RaftTown$Tape"
def TX8 : u_T := fun k => match k with
  | 0 => ("RaftTown$Tape", "bytes", "[I", true)
  | 1 => ("RaftTown$Tape", "length", "I", false)
  | 2 => ("RaftTown$Tape", "draft", "LRaftTown$Text;", true)
  | 3 => ("RaftTown$Tape", "at", "I", false)
  | 4 => ("RaftTown$Tape", "token", "I", false)
  | 5 => ("RaftTown$Tape", "start", "I", false)
  | _ => ("RaftTown$Tape", "number", "I", false)
def tyX8 : Nat → FieldType := fun k => match k with
  | 0 => .array .int
  | 1 => .int
  | 2 => .object "RaftTown$Text"
  | 3 => .int
  | 4 => .int
  | 5 => .int
  | _ => .int
theorem nmX8 : ∀ a, a < 7 → ∀ b, b < 7 → a ≠ b → (TX8 a).2.1 ≠ (TX8 b).2.1 := by decide +kernel
theorem tyX8_ok : ∀ k, k < 7 → parseFieldDescriptor (TX8 k).2.2.1 = some (tyX8 k) := by decide +kernel
def RX9 : String := "RaftTown$Text"
def TX9 : u_T := fun k => match k with
  | 0 => ("RaftTown$Text", "told", "Z", false)
  | 1 => ("RaftTown$Text", "code", "[I", true)
  | 2 => ("RaftTown$Text", "ends", "[I", true)
  | _ => ("RaftTown$Text", "length", "I", false)
def tyX9 : Nat → FieldType := fun k => match k with
  | 0 => .boolean
  | 1 => .array .int
  | 2 => .array .int
  | _ => .int
theorem nmX9 : ∀ a, a < 4 → ∀ b, b < 4 → a ≠ b → (TX9 a).2.1 ≠ (TX9 b).2.1 := by decide +kernel
theorem tyX9_ok : ∀ k, k < 4 → parseFieldDescriptor (TX9 k).2.2.1 = some (tyX9 k) := by decide +kernel
def RX10 : String := "RaftTown$Town"
def TX10 : u_T := fun k => match k with
  | 0 => ("RaftTown$Town", "sea", "LRaftTown$Sea;", true)
  | 1 => ("RaftTown$Town", "rafts", "[LRaftTown$Raft;", true)
  | 2 => ("RaftTown$Town", "raftCount", "I", false)
  | 3 => ("RaftTown$Town", "persons", "[LRaftTown$Person;", true)
  | 4 => ("RaftTown$Town", "personCount", "I", false)
  | 5 => ("RaftTown$Town", "ropes", "[LRaftTown$Rope;", true)
  | 6 => ("RaftTown$Town", "ropeCount", "I", false)
  | 7 => ("RaftTown$Town", "log", "LRaftTown$Log;", true)
  | 8 => ("RaftTown$Town", "texts", "[LRaftTown$Text;", true)
  | 9 => ("RaftTown$Town", "today", "I", false)
  | 10 => ("RaftTown$Town", "used", "I", false)
  | _ => ("RaftTown$Town", "spilt", "I", false)
def tyX10 : Nat → FieldType := fun k => match k with
  | 0 => .object "RaftTown$Sea"
  | 1 => .array (.object "RaftTown$Raft")
  | 2 => .int
  | 3 => .array (.object "RaftTown$Person")
  | 4 => .int
  | 5 => .array (.object "RaftTown$Rope")
  | 6 => .int
  | 7 => .object "RaftTown$Log"
  | 8 => .array (.object "RaftTown$Text")
  | 9 => .int
  | 10 => .int
  | _ => .int
theorem nmX10 : ∀ a, a < 12 → ∀ b, b < 12 → a ≠ b → (TX10 a).2.1 ≠ (TX10 b).2.1 := by decide +kernel
theorem tyX10_ok : ∀ k, k < 12 → parseFieldDescriptor (TX10 k).2.2.1 = some (tyX10 k) := by decide +kernel
def RX11 : String := "RaftTown"
def TX11 : u_T := fun k => match k with
  | 0 => ("RaftTown", "town", "LRaftTown$Town;", true)
  | 1 => ("RaftTown", "kept", "LRaftTown$Town;", true)
  | 2 => ("RaftTown", "hasImage", "Z", false)
  | 3 => ("RaftTown", "sheets", "[LRaftTown$Sheet;", true)
  | 4 => ("RaftTown", "tape", "LRaftTown$Tape;", true)
  | 5 => ("RaftTown", "net", "LRaftTown$Net;", true)
  | 6 => ("RaftTown", "judge", "LRaftTown$Judge;", true)
  | _ => ("RaftTown", "findings", "I", false)
def tyX11 : Nat → FieldType := fun k => match k with
  | 0 => .object "RaftTown$Town"
  | 1 => .object "RaftTown$Town"
  | 2 => .boolean
  | 3 => .array (.object "RaftTown$Sheet")
  | 4 => .object "RaftTown$Tape"
  | 5 => .object "RaftTown$Net"
  | 6 => .object "RaftTown$Judge"
  | _ => .int
theorem nmX11 : ∀ a, a < 8 → ∀ b, b < 8 → a ≠ b → (TX11 a).2.1 ≠ (TX11 b).2.1 := by decide +kernel
theorem tyX11_ok : ∀ k, k < 8 → parseFieldDescriptor (TX11 k).2.2.1 = some (tyX11 k) := by decide +kernel
def RX12 : String := "RaftTownModel"
def TX12 : u_T := fun k => match k with
  | 0 => ("RaftTownModel", "now", "[I", true)
  | 1 => ("RaftTownModel", "kept", "[I", true)
  | 2 => ("RaftTownModel", "hasImage", "Z", false)
  | 3 => ("RaftTownModel", "findings", "I", false)
  | 4 => ("RaftTownModel", "weights", "[I", true)
  | 5 => ("RaftTownModel", "tape", "[B", true)
  | 6 => ("RaftTownModel", "taped", "I", false)
  | 7 => ("RaftTownModel", "letters", "[C", true)
  | 8 => ("RaftTownModel", "begins", "[I", true)
  | 9 => ("RaftTownModel", "code", "[I", true)
  | 10 => ("RaftTownModel", "waits", "[I", true)
  | 11 => ("RaftTownModel", "names", "[I", true)
  | 12 => ("RaftTownModel", "begin", "I", false)
  | 13 => ("RaftTownModel", "end", "I", false)
  | 14 => ("RaftTownModel", "next", "I", false)
  | 15 => ("RaftTownModel", "number", "I", false)
  | 16 => ("RaftTownModel", "size", "I", false)
  | 17 => ("RaftTownModel", "waitMany", "I", false)
  | 18 => ("RaftTownModel", "heap", "[I", true)
  | 19 => ("RaftTownModel", "lostOf", "[I", true)
  | 20 => ("RaftTownModel", "may0", "[Z", true)
  | 21 => ("RaftTownModel", "then", "[Z", true)
  | 22 => ("RaftTownModel", "sheetBits", "[I", true)
  | 23 => ("RaftTownModel", "sheetSize", "[I", true)
  | 24 => ("RaftTownModel", "sheets", "[I", true)
  | _ => ("RaftTownModel", "carried", "[I", true)
def tyX12 : Nat → FieldType := fun k => match k with
  | 0 => .array .int
  | 1 => .array .int
  | 2 => .boolean
  | 3 => .int
  | 4 => .array .int
  | 5 => .array .byte
  | 6 => .int
  | 7 => .array .char
  | 8 => .array .int
  | 9 => .array .int
  | 10 => .array .int
  | 11 => .array .int
  | 12 => .int
  | 13 => .int
  | 14 => .int
  | 15 => .int
  | 16 => .int
  | 17 => .int
  | 18 => .array .int
  | 19 => .array .int
  | 20 => .array .boolean
  | 21 => .array .boolean
  | 22 => .array .int
  | 23 => .array .int
  | 24 => .array .int
  | _ => .array .int
theorem nmX12 : ∀ a, a < 26 → ∀ b, b < 26 → a ≠ b → (TX12 a).2.1 ≠ (TX12 b).2.1 := by decide +kernel
theorem tyX12_ok : ∀ k, k < 26 → parseFieldDescriptor (TX12 k).2.2.1 = some (tyX12 k) := by decide +kernel
abbrev vwCl : List vw_C := [(RX0, TX0, 3), (RX1, TX1, 9), (RX2, TX2, 6), (RX3, TX3, 7), (RX4, TX4, 7), (RX5, TX5, 8), (RX6, TX6, 3), (RX7, TX7, 3), (RX8, TX8, 7), (RX9, TX9, 4), (RX10, TX10, 12), (RX11, TX11, 8), (RX12, TX12, 26)]
def mm_ty (ci : Nat) : Nat → FieldType := match ci with
  | 0 => tyX0
  | 1 => tyX1
  | 2 => tyX2
  | 3 => tyX3
  | 4 => tyX4
  | 5 => tyX5
  | 6 => tyX6
  | 7 => tyX7
  | 8 => tyX8
  | 9 => tyX9
  | 10 => tyX10
  | 11 => tyX11
  | _ => tyX12
def mm_cns : List String := [RX0, RX1, RX2, RX3, RX4, RX5, RX6, RX7, RX8, RX9, RX10, RX11, RX12, "RaftTownLaw", "java/lang/Math", "java/lang/Integer", "java/lang/String", "java/lang/StringLatin1", "jdk/internal/util/Preconditions", "java/lang/StringUTF16", "java/lang/Long"]
abbrev mm_Mt : Type := Nat × MethodName × ByteArray × Nat × Option FieldType × Nat × Nat × List Nat
def mm_mths_0 : List mm_Mt := [
  (11, ⟨"RaftTown", "<init>", "()V"⟩, prog_1_method_1_code, 2, (none), 0, 2, [133, 132, 0, 108]),
  (10, ⟨"RaftTown$Town", "<init>", "()V"⟩, prog_12_method_1_code, 2, (none), 0, 2, [141, 140, 0, 109]),
  (6, ⟨"RaftTown$Sea", "<init>", "()V"⟩, prog_8_method_1_code, 1, (none), 0, 2, [147, 146, 0, 110]),
  (1, ⟨"RaftTown$Log", "<init>", "()V"⟩, prog_3_method_1_code, 1, (none), 0, 2, [171, 170, 0, 111]),
  (4, ⟨"RaftTown$Raft", "<init>", "()V"⟩, prog_6_method_1_code, 1, (none), 0, 2, [208, 207, 0, 112]),
  (3, ⟨"RaftTown$Person", "<init>", "()V"⟩, prog_5_method_1_code, 1, (none), 0, 2, [249, 248, 0, 113]),
  (5, ⟨"RaftTown$Rope", "<init>", "()V"⟩, prog_7_method_1_code, 1, (none), 0, 2, [290, 289, 0, 114]),
  (9, ⟨"RaftTown$Text", "<init>", "()V"⟩, prog_11_method_1_code, 1, (none), 0, 2, [336, 335, 0, 115]),
  (7, ⟨"RaftTown$Sheet", "<init>", "()V"⟩, prog_9_method_1_code, 1, (none), 0, 2, [403, 402, 0, 116]),
  (8, ⟨"RaftTown$Tape", "<init>", "()V"⟩, prog_10_method_1_code, 1, (none), 0, 2, [422, 421, 0, 117]),
  (2, ⟨"RaftTown$Net", "<init>", "()V"⟩, prog_4_method_1_code, 1, (none), 0, 2, [453, 452, 0, 118]),
  (0, ⟨"RaftTown$Judge", "<init>", "()V"⟩, prog_2_method_1_code, 1, (none), 0, 2, [481, 480, 0, 119]),
  (11, ⟨"RaftTown", "stream", "(III)I"⟩, prog_1_method_2_code, 4, (some .int), 3, 1, [521, 519, 520, 108]),
  (11, ⟨"RaftTown", "isCell", "(I)Z"⟩, prog_1_method_49_code, 1, (some .boolean), 1, 0, [524, 523, 0, 108]),
  (11, ⟨"RaftTown", "within", "(III)Z"⟩, prog_1_method_48_code, 3, (some .boolean), 3, 0, [527, 526, 0, 108]),
  (11, ⟨"RaftTown", "noted", "(I)I"⟩, prog_1_method_42_code, 2, (some .int), 1, 1, [532, 531, 0, 108]),
  (6, ⟨"RaftTown$Sea", "lead", "(III)V"⟩, prog_8_method_3_code, 4, (none), 3, 1, [537, 535, 536, 110]),
  (11, ⟨"RaftTown", "raft", "(IIII)I"⟩, prog_1_method_3_code, 5, (some .int), 4, 1, [542, 540, 541, 108]),
  (11, ⟨"RaftTown", "isKind", "(I)Z"⟩, prog_1_method_50_code, 1, (some .boolean), 1, 0, [545, 544, 0, 108]),
  (10, ⟨"RaftTown$Town", "addRaft", "(IIII)I"⟩, prog_12_method_11_code, 6, (some .int), 4, 1, [550, 548, 549, 109]),
  (10, ⟨"RaftTown$Town", "raftAt", "(I)LRaftTown$Raft;"⟩, prog_12_method_6_code, 2, (some (.object "RaftTown$Raft")), 1, 1, [554, 552, 553, 109]),
  (4, ⟨"RaftTown$Raft", "launch", "(IIII)V"⟩, prog_6_method_3_code, 5, (none), 4, 1, [559, 557, 558, 112]),
  (11, ⟨"RaftTown", "as", "(II)I"⟩, prog_1_method_4_code, 3, (some .int), 2, 1, [563, 561, 562, 108]),
  (10, ⟨"RaftTown$Town", "hasRaft", "(I)Z"⟩, prog_12_method_3_code, 2, (some .boolean), 1, 1, [567, 565, 566, 109]),
  (4, ⟨"RaftTown$Raft", "isOf", "(I)Z"⟩, prog_6_method_4_code, 4, (some .boolean), 1, 1, [572, 570, 571, 112]),
  (11, ⟨"RaftTown", "raftIs", "(II)I"⟩, prog_1_method_5_code, 4, (some .int), 2, 1, [580, 578, 579, 108]),
  (11, ⟨"RaftTown", "surveyed", "()LRaftTown$Net;"⟩, prog_1_method_43_code, 1, (some (.object "RaftTown$Net")), 0, 1, [584, 583, 1, 108]),
  (2, ⟨"RaftTown$Net", "survey", "(LRaftTown$Town;)V"⟩, prog_4_method_2_code, 4, (none), 1, 1, [588, 586, 587, 118]),
  (4, ⟨"RaftTown$Raft", "ownWeight", "()I"⟩, prog_6_method_6_code, 1, (some .int), 0, 1, [593, 591, 592, 112]),
  (4, ⟨"RaftTown$Raft", "area", "()I"⟩, prog_6_method_5_code, 1, (some .int), 0, 1, [597, 595, 596, 112]),
  (10, ⟨"RaftTown$Town", "personAt", "(I)LRaftTown$Person;"⟩, prog_12_method_7_code, 2, (some (.object "RaftTown$Person")), 1, 1, [604, 602, 603, 109]),
  (10, ⟨"RaftTown$Town", "ropeAt", "(I)LRaftTown$Rope;"⟩, prog_12_method_8_code, 2, (some (.object "RaftTown$Rope")), 1, 1, [609, 607, 608, 109]),
  (5, ⟨"RaftTown$Rope", "strength", "()I"⟩, prog_7_method_4_code, 1, (some .int), 0, 1, [613, 611, 612, 114]),
  (14, ⟨"java/lang/Math", "max", "(II)I"⟩, prog_17_method_65_code, 2, (some .int), 2, 0, [616, 615, 0, 121]),
  (2, ⟨"RaftTown$Net", "weightAt", "(I)I"⟩, prog_4_method_3_code, 2, (some .int), 1, 1, [620, 618, 619, 118]),
  (14, ⟨"java/lang/Math", "min", "(II)I"⟩, prog_17_method_69_code, 2, (some .int), 2, 0, [623, 622, 0, 121]),
  (2, ⟨"RaftTown$Net", "partOf", "(I)I"⟩, prog_4_method_6_code, 2, (some .int), 1, 1, [629, 627, 628, 118]),
  (2, ⟨"RaftTown$Net", "reach", "(II)I"⟩, prog_4_method_5_code, 7, (some .int), 2, 1, [633, 632, 2, 118]),
  (11, ⟨"RaftTown", "leastOf", "(I)I"⟩, prog_1_method_57_code, 1, (some .int), 1, 0, [636, 635, 0, 108]),
  (15, ⟨"java/lang/Integer", "numberOfTrailingZeros", "(I)I"⟩, prog_15_method_48_code, 2, (some .int), 1, 0, [639, 638, 0, 122])]
def mm_mths_1 : List mm_Mt := [
  (11, ⟨"RaftTown", "load", "(IIZ)I"⟩, prog_1_method_6_code, 5, (some .int), 3, 1, [644, 642, 643, 108]),
  (4, ⟨"RaftTown$Raft", "room", "()I"⟩, prog_6_method_7_code, 1, (some .int), 0, 1, [649, 647, 648, 112]),
  (4, ⟨"RaftTown$Raft", "stow", "(IZ)I"⟩, prog_6_method_9_code, 3, (some .int), 2, 1, [653, 651, 652, 112]),
  (4, ⟨"RaftTown$Raft", "casks", "(Z)I"⟩, prog_6_method_8_code, 2, (some .int), 1, 1, [657, 655, 656, 112]),
  (11, ⟨"RaftTown", "trade", "(IIIZ)I"⟩, prog_1_method_7_code, 7, (some .int), 4, 1, [661, 659, 660, 108]),
  (2, ⟨"RaftTown$Net", "inOnePart", "(II)Z"⟩, prog_4_method_7_code, 3, (some .boolean), 2, 1, [666, 664, 665, 118]),
  (11, ⟨"RaftTown", "has", "(II)Z"⟩, prog_1_method_56_code, 2, (some .boolean), 2, 0, [670, 669, 0, 108]),
  (11, ⟨"RaftTown", "person", "(IIII)I"⟩, prog_1_method_8_code, 5, (some .int), 4, 1, [677, 675, 676, 108]),
  (11, ⟨"RaftTown", "areParents", "(II)Z"⟩, prog_1_method_47_code, 3, (some .boolean), 2, 1, [681, 680, 3, 108]),
  (10, ⟨"RaftTown$Town", "addPerson", "(IIII)I"⟩, prog_12_method_12_code, 6, (some .int), 4, 1, [685, 683, 684, 109]),
  (3, ⟨"RaftTown$Person", "arrive", "(IIII)V"⟩, prog_5_method_3_code, 5, (none), 4, 1, [690, 688, 689, 113]),
  (11, ⟨"RaftTown", "wed", "(II)I"⟩, prog_1_method_9_code, 5, (some .int), 2, 1, [694, 692, 693, 108]),
  (10, ⟨"RaftTown$Town", "hasPerson", "(I)Z"⟩, prog_12_method_4_code, 2, (some .boolean), 1, 1, [698, 696, 697, 109]),
  (11, ⟨"RaftTown", "move", "(II)I"⟩, prog_1_method_10_code, 5, (some .int), 2, 1, [704, 702, 703, 108]),
  (11, ⟨"RaftTown", "personIs", "(II)I"⟩, prog_1_method_11_code, 4, (some .int), 2, 1, [708, 706, 707, 108]),
  (10, ⟨"RaftTown$Town", "kinOf", "(I)I"⟩, prog_12_method_16_code, 4, (some .int), 1, 1, [712, 710, 711, 109]),
  (10, ⟨"RaftTown$Town", "areKin", "(II)Z"⟩, prog_12_method_15_code, 5, (some .boolean), 2, 1, [716, 715, 4, 109]),
  (3, ⟨"RaftTown$Person", "hasParent", "(I)Z"⟩, prog_5_method_4_code, 2, (some .boolean), 1, 1, [720, 718, 719, 113]),
  (11, ⟨"RaftTown", "tie", "(IIIII)I"⟩, prog_1_method_12_code, 10, (some .int), 5, 1, [724, 722, 723, 108]),
  (11, ⟨"RaftTown", "isSide", "(I)Z"⟩, prog_1_method_51_code, 1, (some .boolean), 1, 0, [727, 726, 0, 108]),
  (10, ⟨"RaftTown$Town", "hasRoomAt", "(II)Z"⟩, prog_12_method_13_code, 5, (some .boolean), 2, 1, [731, 729, 730, 109]),
  (5, ⟨"RaftTown$Rope", "isAtSide", "(II)Z"⟩, prog_7_method_6_code, 3, (some .boolean), 2, 1, [735, 733, 734, 114]),
  (10, ⟨"RaftTown$Town", "freeRope", "()I"⟩, prog_12_method_14_code, 2, (some .int), 0, 1, [739, 737, 738, 109]),
  (5, ⟨"RaftTown$Rope", "lay", "(IIIII)V"⟩, prog_7_method_3_code, 6, (none), 5, 1, [745, 743, 744, 114]),
  (1, ⟨"RaftTown$Log", "add", "(IIII)V"⟩, prog_3_method_5_code, 6, (none), 4, 1, [749, 747, 748, 111]),
  (1, ⟨"RaftTown$Log", "placeOf", "(I)I"⟩, prog_3_method_3_code, 3, (some .int), 1, 1, [753, 752, 5, 111]),
  (1, ⟨"RaftTown$Log", "tellOn", "(I)V"⟩, prog_3_method_7_code, 3, (none), 1, 1, [757, 755, 756, 111]),
  (11, ⟨"RaftTown", "cut", "(I)I"⟩, prog_1_method_13_code, 4, (some .int), 1, 1, [761, 759, 760, 108]),
  (10, ⟨"RaftTown$Town", "hasRope", "(I)Z"⟩, prog_12_method_5_code, 2, (some .boolean), 1, 1, [765, 763, 764, 109]),
  (1, ⟨"RaftTown$Log", "lawOf", "(I)I"⟩, prog_3_method_9_code, 4, (some .int), 1, 1, [769, 767, 768, 111]),
  (11, ⟨"RaftTown", "ropeRuling", "(III)I"⟩, prog_1_method_45_code, 4, (some .int), 3, 1, [773, 772, 6, 108]),
  (0, ⟨"RaftTown$Judge", "nameRope", "(LRaftTown$Town;LRaftTown$Net;II)V"⟩, prog_2_method_3_code, 6, (none), 4, 1, [777, 775, 776, 119]),
  (0, ⟨"RaftTown$Judge", "nameNothing", "()V"⟩, prog_2_method_2_code, 2, (none), 0, 1, [782, 781, 7, 119]),
  (2, ⟨"RaftTown$Net", "loadOf", "(III)I"⟩, prog_4_method_11_code, 4, (some .int), 3, 1, [786, 784, 785, 118]),
  (2, ⟨"RaftTown$Net", "hang", "(II)I"⟩, prog_4_method_10_code, 7, (some .int), 2, 1, [790, 788, 789, 118]),
  (2, ⟨"RaftTown$Net", "weigh", "(I)I"⟩, prog_4_method_9_code, 4, (some .int), 1, 1, [794, 793, 8, 118]),
  (10, ⟨"RaftTown$Town", "kinBetween", "(II)I"⟩, prog_12_method_19_code, 6, (some .int), 2, 1, [799, 797, 798, 109]),
  (10, ⟨"RaftTown$Town", "personsOf", "(I)I"⟩, prog_12_method_17_code, 4, (some .int), 1, 1, [803, 801, 802, 109]),
  (3, ⟨"RaftTown$Person", "isAmong", "(I)Z"⟩, prog_5_method_6_code, 2, (some .boolean), 1, 1, [807, 805, 806, 113]),
  (3, ⟨"RaftTown$Person", "isOn", "(I)Z"⟩, prog_5_method_5_code, 2, (some .boolean), 1, 1, [811, 809, 810, 113])]
def mm_mths_2 : List mm_Mt := [
  (15, ⟨"java/lang/Integer", "bitCount", "(I)I"⟩, prog_15_method_49_code, 1, (some .int), 1, 0, [815, 814, 0, 122]),
  (0, ⟨"RaftTown$Judge", "namePart", "(LRaftTown$Town;I)V"⟩, prog_2_method_6_code, 3, (none), 2, 1, [823, 822, 9, 119]),
  (10, ⟨"RaftTown$Town", "headsOf", "(I)I"⟩, prog_12_method_18_code, 2, (some .int), 1, 1, [827, 825, 826, 109]),
  (10, ⟨"RaftTown$Town", "waterOf", "(I)I"⟩, prog_12_method_20_code, 4, (some .int), 1, 1, [831, 829, 830, 109]),
  (10, ⟨"RaftTown$Town", "textOfLaw", "(I)LRaftTown$Text;"⟩, prog_12_method_10_code, 2, (some (.object "RaftTown$Text")), 1, 1, [836, 834, 835, 109]),
  (1, ⟨"RaftTown$Log", "textOf", "(I)I"⟩, prog_3_method_10_code, 2, (some .int), 1, 1, [840, 838, 839, 111]),
  (10, ⟨"RaftTown$Town", "textAt", "(I)LRaftTown$Text;"⟩, prog_12_method_9_code, 2, (some (.object "RaftTown$Text")), 1, 1, [845, 843, 844, 109]),
  (11, ⟨"RaftTown", "isText", "(I)Z"⟩, prog_1_method_52_code, 1, (some .boolean), 1, 0, [848, 847, 0, 108]),
  (0, ⟨"RaftTown$Judge", "comesTo", "(LRaftTown$Text;I)I"⟩, prog_2_method_7_code, 8, (some .int), 2, 1, [852, 850, 851, 119]),
  (9, ⟨"RaftTown$Text", "endOf", "(I)I"⟩, prog_11_method_8_code, 2, (some .int), 1, 1, [856, 854, 855, 115]),
  (9, ⟨"RaftTown$Text", "startOf", "(I)I"⟩, prog_11_method_7_code, 2, (some .int), 1, 1, [862, 860, 861, 115]),
  (0, ⟨"RaftTown$Judge", "push", "(I)V"⟩, prog_2_method_8_code, 2, (none), 1, 1, [866, 865, 10, 119]),
  (0, ⟨"RaftTown$Judge", "pop", "()I"⟩, prog_2_method_9_code, 1, (some .int), 0, 1, [870, 869, 11, 119]),
  (0, ⟨"RaftTown$Judge", "joined", "(III)I"⟩, prog_2_method_10_code, 3, (some .int), 3, 0, [873, 872, 0, 119]),
  (2, ⟨"RaftTown$Net", "countParts", "()I"⟩, prog_4_method_8_code, 4, (some .int), 0, 1, [878, 876, 877, 118]),
  (11, ⟨"RaftTown", "rope", "(II)I"⟩, prog_1_method_14_code, 4, (some .int), 2, 1, [882, 880, 881, 108]),
  (11, ⟨"RaftTown", "bears", "(II)I"⟩, prog_1_method_15_code, 3, (some .int), 2, 1, [888, 886, 887, 108]),
  (11, ⟨"RaftTown", "areWaves", "(I)Z"⟩, prog_1_method_54_code, 1, (some .boolean), 1, 0, [891, 890, 0, 108]),
  (11, ⟨"RaftTown", "parts", "()I"⟩, prog_1_method_16_code, 1, (some .int), 0, 1, [896, 894, 895, 108]),
  (11, ⟨"RaftTown", "part", "(I)I"⟩, prog_1_method_17_code, 2, (some .int), 1, 1, [900, 898, 899, 108]),
  (11, ⟨"RaftTown", "worst", "(II)I"⟩, prog_1_method_18_code, 4, (some .int), 2, 1, [904, 902, 903, 108]),
  (2, ⟨"RaftTown$Net", "countParting", "(III)I"⟩, prog_4_method_13_code, 8, (some .int), 3, 1, [908, 906, 907, 118]),
  (2, ⟨"RaftTown$Net", "worstOf", "(II)I"⟩, prog_4_method_12_code, 7, (some .int), 2, 1, [912, 910, 911, 118]),
  (2, ⟨"RaftTown$Net", "partingAt", "(II)I"⟩, prog_4_method_14_code, 6, (some .int), 2, 1, [917, 915, 916, 118]),
  (11, ⟨"RaftTown", "day", "(II)I"⟩, prog_1_method_19_code, 3, (some .int), 2, 1, [921, 919, 920, 108]),
  (11, ⟨"RaftTown", "isRain", "(I)Z"⟩, prog_1_method_55_code, 1, (some .boolean), 1, 0, [924, 923, 0, 108]),
  (10, ⟨"RaftTown$Town", "passDay", "(IILRaftTown$Net;)I"⟩, prog_12_method_26_code, 5, (some .int), 3, 1, [928, 926, 927, 109]),
  (10, ⟨"RaftTown$Town", "partUnder", "(ILRaftTown$Net;)I"⟩, prog_12_method_27_code, 6, (some .int), 2, 1, [933, 932, 12, 109]),
  (2, ⟨"RaftTown$Net", "drop", "(I)V"⟩, prog_4_method_4_code, 2, (none), 1, 1, [941, 939, 940, 118]),
  (10, ⟨"RaftTown$Town", "catchRain", "(I)V"⟩, prog_12_method_28_code, 4, (none), 1, 1, [945, 944, 13, 109]),
  (10, ⟨"RaftTown$Town", "waterGardens", "()V"⟩, prog_12_method_29_code, 3, (none), 0, 1, [953, 952, 14, 109]),
  (10, ⟨"RaftTown$Town", "drinkAll", "(LRaftTown$Net;)V"⟩, prog_12_method_30_code, 4, (none), 1, 1, [957, 956, 15, 109]),
  (10, ⟨"RaftTown$Town", "drink", "(II)V"⟩, prog_12_method_31_code, 5, (none), 2, 1, [961, 960, 16, 109]),
  (10, ⟨"RaftTown$Town", "fullestOf", "(I)LRaftTown$Raft;"⟩, prog_12_method_32_code, 4, (some (.object "RaftTown$Raft")), 1, 1, [965, 964, 17, 109]),
  (10, ⟨"RaftTown$Town", "lose", "(II)V"⟩, prog_12_method_33_code, 3, (none), 2, 1, [970, 969, 18, 109]),
  (10, ⟨"RaftTown$Town", "ageRopes", "(Z)V"⟩, prog_12_method_34_code, 3, (none), 1, 1, [974, 973, 19, 109]),
  (10, ⟨"RaftTown$Town", "rot", "(LRaftTown$Net;)V"⟩, prog_12_method_35_code, 5, (none), 1, 1, [978, 977, 20, 109]),
  (10, ⟨"RaftTown$Town", "sink", "(ILRaftTown$Net;)V"⟩, prog_12_method_36_code, 7, (none), 2, 1, [982, 981, 21, 109]),
  (5, ⟨"RaftTown$Rope", "isAt", "(I)Z"⟩, prog_7_method_5_code, 2, (some .boolean), 1, 1, [986, 984, 985, 114]),
  (10, ⟨"RaftTown$Town", "drift", "()V"⟩, prog_12_method_37_code, 3, (none), 0, 1, [990, 989, 22, 109])]
def mm_mths_3 : List mm_Mt := [
  (6, ⟨"RaftTown$Sea", "drifted", "(I)I"⟩, prog_8_method_6_code, 2, (some .int), 1, 1, [994, 992, 993, 110]),
  (6, ⟨"RaftTown$Sea", "ledBy", "(II)I"⟩, prog_8_method_5_code, 3, (some .int), 2, 1, [998, 997, 23, 110]),
  (6, ⟨"RaftTown$Sea", "stepped", "(III)I"⟩, prog_8_method_4_code, 6, (some .int), 3, 0, [1001, 1000, 0, 110]),
  (11, ⟨"RaftTown", "days", "(II)I"⟩, prog_1_method_20_code, 10, (some .int), 2, 1, [1006, 1004, 1005, 108]),
  (11, ⟨"RaftTown", "isSheet", "(I)Z"⟩, prog_1_method_53_code, 1, (some .boolean), 1, 0, [1009, 1008, 0, 108]),
  (7, ⟨"RaftTown$Sheet", "isMissing", "()Z"⟩, prog_9_method_2_code, 1, (some .boolean), 0, 1, [1013, 1011, 1012, 116]),
  (7, ⟨"RaftTown$Sheet", "numberOr", "(II)I"⟩, prog_9_method_5_code, 3, (some .int), 2, 1, [1017, 1015, 1016, 116]),
  (11, ⟨"RaftTown", "lasts", "(I)I"⟩, prog_1_method_21_code, 4, (some .int), 1, 1, [1022, 1020, 1021, 108]),
  (10, ⟨"RaftTown$Town", "countKind", "(II)I"⟩, prog_12_method_21_code, 5, (some .int), 2, 1, [1027, 1025, 1026, 109]),
  (11, ⟨"RaftTown", "feed", "(IJ)I"⟩, prog_1_method_22_code, 4, (some .int), 2, 1, [1032, 1030, 1031, 108]),
  (8, ⟨"RaftTown$Tape", "hasRoom", "(I)Z"⟩, prog_10_method_2_code, 2, (some .boolean), 1, 1, [1036, 1034, 1035, 117]),
  (8, ⟨"RaftTown$Tape", "append", "(IJ)I"⟩, prog_10_method_3_code, 5, (some .int), 2, 1, [1040, 1038, 1039, 117]),
  (11, ⟨"RaftTown", "text", "(I)I"⟩, prog_1_method_23_code, 3, (some .int), 1, 1, [1045, 1043, 1044, 108]),
  (8, ⟨"RaftTown$Tape", "read", "()I"⟩, prog_10_method_4_code, 2, (some .int), 0, 1, [1050, 1048, 1049, 117]),
  (9, ⟨"RaftTown$Text", "clear", "()V"⟩, prog_11_method_3_code, 1, (none), 0, 1, [1054, 1052, 1053, 115]),
  (8, ⟨"RaftTown$Tape", "next", "()V"⟩, prog_10_method_13_code, 2, (none), 0, 1, [1058, 1057, 24, 117]),
  (8, ⟨"RaftTown$Tape", "byteAt", "(I)I"⟩, prog_10_method_14_code, 2, (some .int), 1, 1, [1062, 1061, 25, 117]),
  (8, ⟨"RaftTown$Tape", "isLetter", "(I)Z"⟩, prog_10_method_18_code, 1, (some .boolean), 1, 0, [1065, 1064, 0, 117]),
  (8, ⟨"RaftTown$Tape", "nextWord", "()V"⟩, prog_10_method_15_code, 2, (none), 0, 1, [1070, 1069, 26, 117]),
  (8, ⟨"RaftTown$Tape", "word", "(I)Ljava/lang/String;"⟩, prog_10_method_21_code, 1, (some (.object "java/lang/String")), 1, 0, [1073, 1072, 0, 117]),
  (8, ⟨"RaftTown$Tape", "standsHere", "(Ljava/lang/String;)Z"⟩, prog_10_method_16_code, 3, (some .boolean), 1, 1, [1093, 1092, 27, 117]),
  (16, ⟨"java/lang/String", "length", "()I"⟩, prog_18_method_54_code, 1, (some .int), 0, 1, [1097, 1095, 1096, 123]),
  (16, ⟨"java/lang/String", "coder", "()B"⟩, prog_18_method_152_code, 1, (some .byte), 0, 1, [1101, 1099, 1100, 123]),
  (16, ⟨"java/lang/String", "charAt", "(I)C"⟩, prog_18_method_56_code, 2, (some .char), 1, 1, [1107, 1105, 1106, 123]),
  (16, ⟨"java/lang/String", "isLatin1", "()Z"⟩, prog_18_method_154_code, 1, (some .boolean), 0, 1, [1111, 1109, 1110, 123]),
  (17, ⟨"java/lang/StringLatin1", "charAt", "([BI)C"⟩, prog_19_method_2_code, 2, (some .char), 2, 0, [1114, 1113, 0, 124]),
  (16, ⟨"java/lang/String", "checkIndex", "(II)V"⟩, prog_18_method_155_code, 2, (none), 2, 0, [1117, 1116, 0, 123]),
  (18, ⟨"jdk/internal/util/Preconditions", "checkIndex", "(IILjava/util/function/BiFunction;)I"⟩, prog_22_method_11_code, 3, (some .int), 3, 0, [1122, 1121, 0, 125]),
  (19, ⟨"java/lang/StringUTF16", "charAt", "([BI)C"⟩, prog_20_method_83_code, 2, (some .char), 2, 0, [1125, 1124, 0, 126]),
  (19, ⟨"java/lang/StringUTF16", "checkIndex", "(I[B)V"⟩, prog_20_method_91_code, 2, (none), 2, 0, [1128, 1127, 0, 126]),
  (19, ⟨"java/lang/StringUTF16", "length", "([B)I"⟩, prog_20_method_6_code, 1, (some .int), 1, 0, [1131, 1130, 0, 126]),
  (19, ⟨"java/lang/StringUTF16", "getChar", "([BI)C"⟩, prog_20_method_5_code, 2, (some .char), 2, 0, [1135, 1134, 0, 126]),
  (8, ⟨"RaftTown$Tape", "isDigit", "(I)Z"⟩, prog_10_method_19_code, 1, (some .boolean), 1, 0, [1144, 1143, 0, 117]),
  (8, ⟨"RaftTown$Tape", "nextNumber", "()V"⟩, prog_10_method_17_code, 1, (none), 0, 1, [1148, 1147, 28, 117]),
  (8, ⟨"RaftTown$Tape", "signOf", "(I)I"⟩, prog_10_method_20_code, 1, (some .int), 1, 0, [1151, 1150, 0, 117]),
  (8, ⟨"RaftTown$Tape", "readClause", "(II)Z"⟩, prog_10_method_5_code, 4, (some .boolean), 2, 1, [1155, 1154, 29, 117]),
  (8, ⟨"RaftTown$Tape", "pass", "(I)Z"⟩, prog_10_method_6_code, 2, (some .boolean), 1, 1, [1159, 1158, 30, 117]),
  (8, ⟨"RaftTown$Tape", "readOr", "(I)Z"⟩, prog_10_method_7_code, 4, (some .boolean), 1, 1, [1163, 1162, 31, 117]),
  (8, ⟨"RaftTown$Tape", "readAnd", "(I)Z"⟩, prog_10_method_8_code, 4, (some .boolean), 1, 1, [1167, 1166, 32, 117]),
  (8, ⟨"RaftTown$Tape", "readNot", "(I)Z"⟩, prog_10_method_9_code, 3, (some .boolean), 1, 1, [1171, 1170, 33, 117])]
def mm_mths_4 : List mm_Mt := [
  (8, ⟨"RaftTown$Tape", "readComparison", "(I)Z"⟩, prog_10_method_10_code, 4, (some .boolean), 1, 1, [1175, 1174, 34, 117]),
  (8, ⟨"RaftTown$Tape", "readSum", "(I)Z"⟩, prog_10_method_11_code, 5, (some .boolean), 1, 1, [1179, 1178, 35, 117]),
  (8, ⟨"RaftTown$Tape", "readOne", "(I)Z"⟩, prog_10_method_12_code, 2, (some .boolean), 1, 1, [1183, 1182, 36, 117]),
  (9, ⟨"RaftTown$Text", "addNumber", "(I)V"⟩, prog_11_method_4_code, 2, (none), 1, 1, [1187, 1185, 1186, 115]),
  (9, ⟨"RaftTown$Text", "addToken", "(I)V"⟩, prog_11_method_5_code, 2, (none), 1, 1, [1191, 1189, 1190, 115]),
  (9, ⟨"RaftTown$Text", "endClause", "(I)V"⟩, prog_11_method_6_code, 2, (none), 1, 1, [1196, 1194, 1195, 115]),
  (9, ⟨"RaftTown$Text", "take", "(LRaftTown$Text;)V"⟩, prog_11_method_2_code, 2, (none), 1, 1, [1201, 1199, 1200, 115]),
  (11, ⟨"RaftTown", "force", "(II)I"⟩, prog_1_method_24_code, 3, (some .int), 2, 1, [1209, 1207, 1208, 108]),
  (1, ⟨"RaftTown$Log", "addLaw", "(III)I"⟩, prog_3_method_6_code, 5, (some .int), 3, 1, [1213, 1211, 1212, 111]),
  (11, ⟨"RaftTown", "law", "(I)I"⟩, prog_1_method_25_code, 3, (some .int), 1, 1, [1218, 1216, 1217, 108]),
  (11, ⟨"RaftTown", "lawAt", "(I)I"⟩, prog_1_method_44_code, 3, (some .int), 1, 1, [1222, 1221, 37, 108]),
  (11, ⟨"RaftTown", "may", "(II)I"⟩, prog_1_method_26_code, 5, (some .int), 2, 1, [1226, 1224, 1225, 108]),
  (11, ⟨"RaftTown", "must", "(II)I"⟩, prog_1_method_27_code, 4, (some .int), 2, 1, [1230, 1228, 1229, 108]),
  (0, ⟨"RaftTown$Judge", "nameRafts", "(LRaftTown$Town;III)V"⟩, prog_2_method_4_code, 5, (none), 4, 1, [1234, 1232, 1233, 119]),
  (11, ⟨"RaftTown", "speaks", "(I)I"⟩, prog_1_method_28_code, 8, (some .int), 1, 1, [1238, 1236, 1237, 108]),
  (0, ⟨"RaftTown$Judge", "namePerson", "(LRaftTown$Town;II)V"⟩, prog_2_method_5_code, 4, (none), 3, 1, [1243, 1241, 1242, 119]),
  (11, ⟨"RaftTown", "events", "(I)I"⟩, prog_1_method_29_code, 2, (some .int), 1, 1, [1251, 1249, 1250, 108]),
  (1, ⟨"RaftTown$Log", "countKnown", "(I)I"⟩, prog_3_method_8_code, 4, (some .int), 1, 1, [1255, 1253, 1254, 111]),
  (11, ⟨"RaftTown", "event", "(II)I"⟩, prog_1_method_30_code, 3, (some .int), 2, 1, [1259, 1257, 1258, 108]),
  (1, ⟨"RaftTown$Log", "detail", "(II)I"⟩, prog_3_method_4_code, 4, (some .int), 2, 1, [1263, 1261, 1262, 111]),
  (11, ⟨"RaftTown", "lash", "(II)I"⟩, prog_1_method_31_code, 4, (some .int), 2, 1, [1267, 1265, 1266, 108]),
  (2, ⟨"RaftTown$Net", "fewestLashings", "(II)I"⟩, prog_4_method_21_code, 11, (some .int), 2, 1, [1271, 1269, 1270, 118]),
  (2, ⟨"RaftTown$Net", "ropesOf", "(I)I"⟩, prog_4_method_20_code, 4, (some .int), 1, 1, [1275, 1274, 38, 118]),
  (2, ⟨"RaftTown$Net", "doomed", "(I)I"⟩, prog_4_method_18_code, 5, (some .int), 1, 1, [1279, 1278, 39, 118]),
  (2, ⟨"RaftTown$Net", "doomedOf", "(II)I"⟩, prog_4_method_19_code, 6, (some .int), 2, 1, [1283, 1282, 40, 118]),
  (2, ⟨"RaftTown$Net", "isBridge", "(II)Z"⟩, prog_4_method_16_code, 4, (some .boolean), 2, 1, [1287, 1286, 41, 118]),
  (2, ⟨"RaftTown$Net", "bridgesOf", "(I)I"⟩, prog_4_method_17_code, 4, (some .int), 1, 1, [1291, 1290, 42, 118]),
  (2, ⟨"RaftTown$Net", "holds", "(II)Z"⟩, prog_4_method_15_code, 4, (some .boolean), 2, 1, [1296, 1295, 43, 118]),
  (11, ⟨"RaftTown", "storm", "(IZ)I"⟩, prog_1_method_32_code, 4, (some .int), 2, 1, [1300, 1298, 1299, 108]),
  (2, ⟨"RaftTown$Net", "bestCuts", "(I)I"⟩, prog_4_method_24_code, 5, (some .int), 1, 1, [1304, 1302, 1303, 118]),
  (2, ⟨"RaftTown$Net", "mostKept", "(II)I"⟩, prog_4_method_22_code, 6, (some .int), 2, 1, [1308, 1307, 44, 118]),
  (2, ⟨"RaftTown$Net", "lostBy", "(III)I"⟩, prog_4_method_23_code, 5, (some .int), 3, 1, [1312, 1310, 1311, 118]),
  (11, ⟨"RaftTown", "proves", "(III)I"⟩, prog_1_method_33_code, 6, (some .int), 3, 1, [1318, 1316, 1317, 108]),
  (2, ⟨"RaftTown$Net", "firstUnproved", "(IILRaftTown$Sheet;)I"⟩, prog_4_method_25_code, 7, (some .int), 3, 1, [1323, 1321, 1322, 118]),
  (11, ⟨"RaftTown", "patch", "(II)I"⟩, prog_1_method_34_code, 4, (some .int), 2, 1, [1328, 1326, 1327, 108]),
  (11, ⟨"RaftTown", "hasSail", "(I)Z"⟩, prog_1_method_46_code, 2, (some .boolean), 1, 1, [1332, 1331, 45, 108]),
  (6, ⟨"RaftTown$Sea", "patchSize", "(IIZ)I"⟩, prog_8_method_7_code, 8, (some .int), 3, 1, [1336, 1334, 1335, 110]),
  (6, ⟨"RaftTown$Sea", "aDayOn", "(J)J"⟩, prog_8_method_9_code, 6, (some .long), 1, 1, [1345, 1344, 46, 110]),
  (20, ⟨"java/lang/Long", "bitCount", "(J)I"⟩, prog_16_method_50_code, 2, (some .int), 1, 0, [1348, 1347, 0, 128]),
  (11, ⟨"RaftTown", "tow", "(II)I"⟩, prog_1_method_35_code, 6, (some .int), 2, 1, [1355, 1353, 1354, 108])]
def mm_mths_5 : List mm_Mt := [
  (6, ⟨"RaftTown$Sea", "soonest", "(IIZ)I"⟩, prog_8_method_8_code, 9, (some .int), 3, 1, [1359, 1357, 1358, 110]),
  (11, ⟨"RaftTown", "sheet", "(III)I"⟩, prog_1_method_36_code, 4, (some .int), 3, 1, [1363, 1361, 1362, 108]),
  (7, ⟨"RaftTown$Sheet", "rule", "(II)I"⟩, prog_9_method_3_code, 4, (some .int), 2, 1, [1367, 1365, 1366, 116]),
  (11, ⟨"RaftTown", "put", "(III)I"⟩, prog_1_method_37_code, 5, (some .int), 3, 1, [1371, 1369, 1370, 108]),
  (7, ⟨"RaftTown$Sheet", "write", "(II)V"⟩, prog_9_method_4_code, 3, (none), 2, 1, [1375, 1373, 1374, 116]),
  (11, ⟨"RaftTown", "copy", "(IIIII)I"⟩, prog_1_method_38_code, 8, (some .int), 5, 1, [1380, 1378, 1379, 108]),
  (7, ⟨"RaftTown$Sheet", "hasRun", "(II)Z"⟩, prog_9_method_6_code, 3, (some .boolean), 2, 1, [1384, 1382, 1383, 116]),
  (11, ⟨"RaftTown", "image", "()I"⟩, prog_1_method_39_code, 1, (some .int), 0, 1, [1389, 1387, 1388, 108]),
  (10, ⟨"RaftTown$Town", "take", "(LRaftTown$Town;)V"⟩, prog_12_method_2_code, 3, (none), 1, 1, [1393, 1391, 1392, 109]),
  (6, ⟨"RaftTown$Sea", "take", "(LRaftTown$Sea;)V"⟩, prog_8_method_2_code, 2, (none), 1, 1, [1397, 1395, 1396, 110]),
  (4, ⟨"RaftTown$Raft", "take", "(LRaftTown$Raft;)V"⟩, prog_6_method_2_code, 2, (none), 1, 1, [1402, 1400, 1401, 112]),
  (3, ⟨"RaftTown$Person", "take", "(LRaftTown$Person;)V"⟩, prog_5_method_2_code, 2, (none), 1, 1, [1407, 1405, 1406, 113]),
  (5, ⟨"RaftTown$Rope", "take", "(LRaftTown$Rope;)V"⟩, prog_7_method_2_code, 2, (none), 1, 1, [1412, 1410, 1411, 114]),
  (1, ⟨"RaftTown$Log", "take", "(LRaftTown$Log;)V"⟩, prog_3_method_2_code, 2, (none), 1, 1, [1417, 1415, 1416, 111]),
  (11, ⟨"RaftTown", "restore", "()I"⟩, prog_1_method_40_code, 1, (some .int), 0, 1, [1423, 1421, 1422, 108]),
  (11, ⟨"RaftTown", "count", "(I)I"⟩, prog_1_method_41_code, 2, (some .int), 1, 1, [1427, 1425, 1426, 108]),
  (10, ⟨"RaftTown$Town", "countAfloat", "()I"⟩, prog_12_method_22_code, 3, (some .int), 0, 1, [1431, 1429, 1430, 109]),
  (10, ⟨"RaftTown$Town", "countAlive", "()I"⟩, prog_12_method_23_code, 3, (some .int), 0, 1, [1435, 1433, 1434, 109]),
  (10, ⟨"RaftTown$Town", "countRopes", "()I"⟩, prog_12_method_24_code, 3, (some .int), 0, 1, [1439, 1437, 1438, 109]),
  (10, ⟨"RaftTown$Town", "countCasks", "()I"⟩, prog_12_method_25_code, 3, (some .int), 0, 1, [1443, 1441, 1442, 109]),
  (12, ⟨"RaftTownModel", "<init>", "()V"⟩, prog_14_method_1_code, 1, (none), 0, 2, [1448, 1447, 0, 120]),
  (12, ⟨"RaftTownModel", "stream", "(III)I"⟩, prog_14_method_12_code, 4, (some .int), 3, 1, [1534, 1532, 1533, 120]),
  (12, ⟨"RaftTownModel", "in", "(III)Z"⟩, prog_14_method_3_code, 3, (some .boolean), 3, 0, [1537, 1536, 0, 120]),
  (12, ⟨"RaftTownModel", "finds", "(I)I"⟩, prog_14_method_4_code, 2, (some .int), 1, 1, [1542, 1541, 47, 120]),
  (12, ⟨"RaftTownModel", "raft", "(IIII)I"⟩, prog_14_method_13_code, 6, (some .int), 4, 1, [1546, 1544, 1545, 120]),
  (12, ⟨"RaftTownModel", "makes", "(III)V"⟩, prog_14_method_10_code, 4, (none), 3, 1, [1551, 1550, 48, 120]),
  (12, ⟨"RaftTownModel", "as", "(II)I"⟩, prog_14_method_14_code, 4, (some .int), 2, 1, [1555, 1553, 1554, 120]),
  (12, ⟨"RaftTownModel", "isFloat", "(I)Z"⟩, prog_14_method_5_code, 2, (some .boolean), 1, 1, [1559, 1558, 49, 120]),
  (12, ⟨"RaftTownModel", "own", "(II)I"⟩, prog_14_method_9_code, 3, (some .int), 2, 1, [1563, 1562, 50, 120]),
  (12, ⟨"RaftTownModel", "raftIs", "(II)I"⟩, prog_14_method_17_code, 3, (some .int), 2, 1, [1568, 1566, 1567, 120]),
  (12, ⟨"RaftTownModel", "weightOf", "(I)I"⟩, prog_14_method_16_code, 4, (some .int), 1, 1, [1572, 1571, 51, 120]),
  (12, ⟨"RaftTownModel", "isOn", "(II)Z"⟩, prog_14_method_23_code, 3, (some .boolean), 2, 1, [1576, 1575, 52, 120]),
  (12, ⟨"RaftTownModel", "isLost", "(I)Z"⟩, prog_14_method_22_code, 2, (some .boolean), 1, 1, [1580, 1579, 53, 120]),
  (12, ⟨"RaftTownModel", "ofPerson", "(II)I"⟩, prog_14_method_21_code, 3, (some .int), 2, 1, [1584, 1583, 54, 120]),
  (12, ⟨"RaftTownModel", "areaOf", "(I)I"⟩, prog_14_method_15_code, 3, (some .int), 1, 1, [1588, 1587, 55, 120]),
  (12, ⟨"RaftTownModel", "allRopes", "()I"⟩, prog_14_method_32_code, 3, (some .int), 0, 1, [1592, 1591, 56, 120]),
  (12, ⟨"RaftTownModel", "isLaid", "(I)Z"⟩, prog_14_method_31_code, 2, (some .boolean), 1, 1, [1596, 1595, 57, 120]),
  (12, ⟨"RaftTownModel", "ofRope", "(II)I"⟩, prog_14_method_30_code, 3, (some .int), 2, 1, [1600, 1599, 58, 120]),
  (12, ⟨"RaftTownModel", "partOf", "(II)I"⟩, prog_14_method_33_code, 8, (some .int), 2, 1, [1604, 1603, 59, 120]),
  (12, ⟨"RaftTownModel", "leastOf", "(I)I"⟩, prog_14_method_34_code, 2, (some .int), 1, 0, [1607, 1606, 0, 120])]
def mm_mths_6 : List mm_Mt := [
  (12, ⟨"RaftTownModel", "load", "(IIZ)I"⟩, prog_14_method_19_code, 5, (some .int), 3, 1, [1611, 1609, 1610, 120]),
  (12, ⟨"RaftTownModel", "isSunk", "(I)Z"⟩, prog_14_method_11_code, 2, (some .boolean), 1, 1, [1615, 1614, 60, 120]),
  (12, ⟨"RaftTownModel", "roomOf", "(I)I"⟩, prog_14_method_18_code, 2, (some .int), 1, 1, [1620, 1619, 61, 120]),
  (12, ⟨"RaftTownModel", "trade", "(IIIZ)I"⟩, prog_14_method_20_code, 6, (some .int), 4, 1, [1624, 1622, 1623, 120]),
  (12, ⟨"RaftTownModel", "person", "(IIII)I"⟩, prog_14_method_24_code, 7, (some .int), 4, 1, [1631, 1629, 1630, 120]),
  (12, ⟨"RaftTownModel", "wed", "(II)I"⟩, prog_14_method_25_code, 3, (some .int), 2, 1, [1635, 1633, 1634, 120]),
  (12, ⟨"RaftTownModel", "isPerson", "(I)Z"⟩, prog_14_method_6_code, 2, (some .boolean), 1, 1, [1639, 1638, 62, 120]),
  (12, ⟨"RaftTownModel", "move", "(II)I"⟩, prog_14_method_26_code, 4, (some .int), 2, 1, [1644, 1642, 1643, 120]),
  (12, ⟨"RaftTownModel", "personIs", "(II)I"⟩, prog_14_method_29_code, 5, (some .int), 2, 1, [1648, 1646, 1647, 120]),
  (12, ⟨"RaftTownModel", "areKin", "(II)Z"⟩, prog_14_method_28_code, 3, (some .boolean), 2, 1, [1652, 1651, 63, 120]),
  (12, ⟨"RaftTownModel", "isParent", "(II)Z"⟩, prog_14_method_27_code, 3, (some .boolean), 2, 1, [1656, 1655, 64, 120]),
  (12, ⟨"RaftTownModel", "parts", "()I"⟩, prog_14_method_37_code, 1, (some .int), 0, 1, [1660, 1658, 1659, 120]),
  (12, ⟨"RaftTownModel", "partMany", "()I"⟩, prog_14_method_36_code, 4, (some .int), 0, 1, [1664, 1663, 65, 120]),
  (12, ⟨"RaftTownModel", "part", "(I)I"⟩, prog_14_method_38_code, 2, (some .int), 1, 1, [1668, 1666, 1667, 120]),
  (12, ⟨"RaftTownModel", "tie", "(IIIII)I"⟩, prog_14_method_40_code, 9, (some .int), 5, 1, [1672, 1670, 1671, 120]),
  (12, ⟨"RaftTownModel", "hasRoom", "(II)Z"⟩, prog_14_method_39_code, 5, (some .boolean), 2, 1, [1676, 1675, 66, 120]),
  (12, ⟨"RaftTownModel", "tellsOn", "(I)V"⟩, prog_14_method_51_code, 3, (none), 1, 1, [1680, 1679, 67, 120]),
  (12, ⟨"RaftTownModel", "happens", "(III)V"⟩, prog_14_method_50_code, 5, (none), 3, 1, [1684, 1683, 68, 120]),
  (12, ⟨"RaftTownModel", "rope", "(II)I"⟩, prog_14_method_47_code, 3, (some .int), 2, 1, [1688, 1686, 1687, 120]),
  (12, ⟨"RaftTownModel", "isRope", "(I)Z"⟩, prog_14_method_7_code, 2, (some .boolean), 1, 1, [1692, 1691, 69, 120]),
  (12, ⟨"RaftTownModel", "strengthOf", "(I)I"⟩, prog_14_method_41_code, 3, (some .int), 1, 1, [1696, 1695, 70, 120]),
  (12, ⟨"RaftTownModel", "weighs", "()V"⟩, prog_14_method_43_code, 2, (none), 0, 1, [1700, 1699, 71, 120]),
  (12, ⟨"RaftTownModel", "hangOf", "(II)I"⟩, prog_14_method_44_code, 8, (some .int), 2, 1, [1704, 1703, 72, 120]),
  (12, ⟨"RaftTownModel", "weightOfAll", "(I)I"⟩, prog_14_method_42_code, 4, (some .int), 1, 1, [1708, 1707, 73, 120]),
  (12, ⟨"RaftTownModel", "bears", "(II)I"⟩, prog_14_method_48_code, 3, (some .int), 2, 1, [1712, 1710, 1711, 120]),
  (12, ⟨"RaftTownModel", "isWaves", "(I)Z"⟩, prog_14_method_8_code, 1, (some .boolean), 1, 0, [1715, 1714, 0, 120]),
  (12, ⟨"RaftTownModel", "loadOf", "(III)I"⟩, prog_14_method_45_code, 4, (some .int), 3, 1, [1719, 1718, 74, 120]),
  (12, ⟨"RaftTownModel", "worst", "(II)I"⟩, prog_14_method_49_code, 6, (some .int), 2, 1, [1723, 1721, 1722, 120]),
  (12, ⟨"RaftTownModel", "partsFirst", "(II)I"⟩, prog_14_method_46_code, 7, (some .int), 2, 1, [1727, 1726, 75, 120]),
  (12, ⟨"RaftTownModel", "events", "(I)I"⟩, prog_14_method_52_code, 4, (some .int), 1, 1, [1731, 1729, 1730, 120]),
  (12, ⟨"RaftTownModel", "event", "(II)I"⟩, prog_14_method_53_code, 3, (some .int), 2, 1, [1735, 1733, 1734, 120]),
  (12, ⟨"RaftTownModel", "day", "(II)I"⟩, prog_14_method_65_code, 3, (some .int), 2, 1, [1739, 1737, 1738, 120]),
  (12, ⟨"RaftTownModel", "passes", "(II)I"⟩, prog_14_method_64_code, 4, (some .int), 2, 1, [1743, 1742, 76, 120]),
  (12, ⟨"RaftTownModel", "partsAll", "(I)I"⟩, prog_14_method_55_code, 5, (some .int), 1, 1, [1747, 1746, 77, 120]),
  (12, ⟨"RaftTownModel", "rains", "(I)V"⟩, prog_14_method_56_code, 4, (none), 1, 1, [1751, 1750, 78, 120]),
  (12, ⟨"RaftTownModel", "drinks", "(I)Z"⟩, prog_14_method_57_code, 2, (some .boolean), 1, 1, [1755, 1754, 79, 120]),
  (12, ⟨"RaftTownModel", "allDrink", "()V"⟩, prog_14_method_58_code, 6, (none), 0, 1, [1759, 1758, 80, 120]),
  (12, ⟨"RaftTownModel", "loses", "(II)V"⟩, prog_14_method_54_code, 3, (none), 2, 1, [1763, 1762, 81, 120]),
  (12, ⟨"RaftTownModel", "ropesAge", "(I)V"⟩, prog_14_method_59_code, 3, (none), 1, 1, [1767, 1766, 82, 120]),
  (12, ⟨"RaftTownModel", "rots", "()V"⟩, prog_14_method_61_code, 2, (none), 0, 1, [1771, 1770, 83, 120])]
def mm_mths_7 : List mm_Mt := [
  (12, ⟨"RaftTownModel", "sinks", "(I)V"⟩, prog_14_method_60_code, 5, (none), 1, 1, [1775, 1774, 84, 120]),
  (12, ⟨"RaftTownModel", "drifts", "()V"⟩, prog_14_method_63_code, 2, (none), 0, 1, [1779, 1778, 85, 120]),
  (12, ⟨"RaftTownModel", "leads", "(II)I"⟩, prog_14_method_62_code, 5, (some .int), 2, 1, [1783, 1782, 86, 120]),
  (12, ⟨"RaftTownModel", "days", "(II)I"⟩, prog_14_method_66_code, 8, (some .int), 2, 1, [1787, 1785, 1786, 120]),
  (12, ⟨"RaftTownModel", "isSheet", "(I)Z"⟩, prog_14_method_107_code, 1, (some .boolean), 1, 0, [1790, 1789, 0, 120]),
  (12, ⟨"RaftTownModel", "lasts", "(I)I"⟩, prog_14_method_69_code, 5, (some .int), 1, 1, [1794, 1792, 1793, 120]),
  (12, ⟨"RaftTownModel", "headsOf", "(I)I"⟩, prog_14_method_67_code, 4, (some .int), 1, 1, [1798, 1797, 87, 120]),
  (12, ⟨"RaftTownModel", "waterOf", "(I)I"⟩, prog_14_method_68_code, 4, (some .int), 1, 1, [1802, 1801, 88, 120]),
  (12, ⟨"RaftTownModel", "feed", "(IJ)I"⟩, prog_14_method_70_code, 5, (some .int), 2, 1, [1806, 1804, 1805, 120]),
  (12, ⟨"RaftTownModel", "text", "(I)I"⟩, prog_14_method_84_code, 4, (some .int), 1, 1, [1810, 1808, 1809, 120]),
  (12, ⟨"RaftTownModel", "reads", "()Z"⟩, prog_14_method_83_code, 2, (some .boolean), 0, 1, [1814, 1813, 89, 120]),
  (12, ⟨"RaftTownModel", "looks", "()V"⟩, prog_14_method_76_code, 2, (none), 0, 1, [1818, 1817, 90, 120]),
  (12, ⟨"RaftTownModel", "byteAt", "(I)I"⟩, prog_14_method_71_code, 2, (some .int), 1, 1, [1822, 1821, 91, 120]),
  (12, ⟨"RaftTownModel", "isLetter", "(I)Z"⟩, prog_14_method_72_code, 1, (some .boolean), 1, 0, [1825, 1824, 0, 120]),
  (12, ⟨"RaftTownModel", "wordOf", "()I"⟩, prog_14_method_75_code, 4, (some .int), 0, 1, [1829, 1828, 92, 120]),
  (12, ⟨"RaftTownModel", "isDigit", "(I)Z"⟩, prog_14_method_73_code, 1, (some .boolean), 1, 0, [1832, 1831, 0, 120]),
  (12, ⟨"RaftTownModel", "isSign", "(I)Z"⟩, prog_14_method_74_code, 1, (some .boolean), 1, 0, [1835, 1834, 0, 120]),
  (12, ⟨"RaftTownModel", "readsE", "(I)Z"⟩, prog_14_method_82_code, 5, (some .boolean), 1, 1, [1839, 1838, 93, 120]),
  (12, ⟨"RaftTownModel", "waitsOf", "(I)I"⟩, prog_14_method_80_code, 4, (some .int), 1, 1, [1843, 1842, 94, 120]),
  (12, ⟨"RaftTownModel", "lays", "(I)V"⟩, prog_14_method_78_code, 2, (none), 1, 1, [1847, 1846, 95, 120]),
  (12, ⟨"RaftTownModel", "settles", "(I)V"⟩, prog_14_method_79_code, 2, (none), 1, 1, [1851, 1850, 96, 120]),
  (12, ⟨"RaftTownModel", "rankOf", "(I)I"⟩, prog_14_method_77_code, 1, (some .int), 1, 0, [1854, 1853, 0, 120]),
  (12, ⟨"RaftTownModel", "isTested", "()Z"⟩, prog_14_method_81_code, 2, (some .boolean), 0, 1, [1858, 1857, 97, 120]),
  (12, ⟨"RaftTownModel", "force", "(II)I"⟩, prog_14_method_87_code, 5, (some .int), 2, 1, [1862, 1860, 1861, 120]),
  (12, ⟨"RaftTownModel", "law", "(I)I"⟩, prog_14_method_89_code, 3, (some .int), 1, 1, [1866, 1864, 1865, 120]),
  (12, ⟨"RaftTownModel", "lawOf", "(I)I"⟩, prog_14_method_88_code, 4, (some .int), 1, 1, [1870, 1869, 98, 120]),
  (12, ⟨"RaftTownModel", "cut", "(I)I"⟩, prog_14_method_93_code, 4, (some .int), 1, 1, [1874, 1872, 1873, 120]),
  (12, ⟨"RaftTownModel", "cutOf", "(IIII)I"⟩, prog_14_method_92_code, 5, (some .int), 4, 1, [1878, 1877, 99, 120]),
  (12, ⟨"RaftTownModel", "namesOf", "(I)V"⟩, prog_14_method_90_code, 3, (none), 1, 1, [1882, 1881, 100, 120]),
  (12, ⟨"RaftTownModel", "kinOn", "(II)I"⟩, prog_14_method_91_code, 6, (some .int), 2, 1, [1886, 1885, 101, 120]),
  (12, ⟨"RaftTownModel", "worth", "(II)I"⟩, prog_14_method_86_code, 7, (some .int), 2, 1, [1890, 1889, 102, 120]),
  (12, ⟨"RaftTownModel", "done", "(III)I"⟩, prog_14_method_85_code, 3, (some .int), 3, 0, [1893, 1892, 0, 120]),
  (12, ⟨"RaftTownModel", "may", "(II)I"⟩, prog_14_method_94_code, 5, (some .int), 2, 1, [1898, 1896, 1897, 120]),
  (12, ⟨"RaftTownModel", "must", "(II)I"⟩, prog_14_method_95_code, 4, (some .int), 2, 1, [1902, 1900, 1901, 120]),
  (12, ⟨"RaftTownModel", "speaks", "(I)I"⟩, prog_14_method_96_code, 8, (some .int), 1, 1, [1906, 1904, 1905, 120]),
  (12, ⟨"RaftTownModel", "lash", "(II)I"⟩, prog_14_method_98_code, 7, (some .int), 2, 1, [1910, 1908, 1909, 120]),
  (12, ⟨"RaftTownModel", "ones", "(I)I"⟩, prog_14_method_35_code, 3, (some .int), 1, 0, [1913, 1912, 0, 120]),
  (12, ⟨"RaftTownModel", "holds", "(II)Z"⟩, prog_14_method_97_code, 3, (some .boolean), 2, 1, [1917, 1916, 103, 120]),
  (12, ⟨"RaftTownModel", "storm", "(IZ)I"⟩, prog_14_method_100_code, 8, (some .int), 2, 1, [1921, 1919, 1920, 120]),
  (12, ⟨"RaftTownModel", "lostBy", "(II)I"⟩, prog_14_method_99_code, 6, (some .int), 2, 1, [1925, 1924, 104, 120])]
def mm_mths_8 : List mm_Mt := [
  (12, ⟨"RaftTownModel", "proves", "(III)I"⟩, prog_14_method_101_code, 8, (some .int), 3, 1, [1929, 1927, 1928, 120]),
  (12, ⟨"RaftTownModel", "patch", "(II)I"⟩, prog_14_method_105_code, 7, (some .int), 2, 1, [1933, 1931, 1932, 120]),
  (12, ⟨"RaftTownModel", "hasSail", "(I)Z"⟩, prog_14_method_102_code, 3, (some .boolean), 1, 1, [1937, 1936, 105, 120]),
  (12, ⟨"RaftTownModel", "areNext", "(II)Z"⟩, prog_14_method_103_code, 4, (some .boolean), 2, 0, [1940, 1939, 0, 120]),
  (12, ⟨"RaftTownModel", "copies", "()V"⟩, prog_14_method_104_code, 2, (none), 0, 1, [1944, 1943, 106, 120]),
  (12, ⟨"RaftTownModel", "tow", "(II)I"⟩, prog_14_method_106_code, 8, (some .int), 2, 1, [1948, 1946, 1947, 120]),
  (12, ⟨"RaftTownModel", "sheet", "(III)I"⟩, prog_14_method_108_code, 5, (some .int), 3, 1, [1952, 1950, 1951, 120]),
  (12, ⟨"RaftTownModel", "put", "(III)I"⟩, prog_14_method_109_code, 4, (some .int), 3, 1, [1956, 1954, 1955, 120]),
  (12, ⟨"RaftTownModel", "copy", "(IIIII)I"⟩, prog_14_method_110_code, 7, (some .int), 5, 1, [1960, 1958, 1959, 120]),
  (12, ⟨"RaftTownModel", "image", "()I"⟩, prog_14_method_111_code, 2, (some .int), 0, 1, [1964, 1962, 1963, 120]),
  (12, ⟨"RaftTownModel", "restore", "()I"⟩, prog_14_method_112_code, 2, (some .int), 0, 1, [1968, 1966, 1967, 120]),
  (12, ⟨"RaftTownModel", "count", "(I)I"⟩, prog_14_method_113_code, 4, (some .int), 1, 1, [1972, 1970, 1971, 120])]
def mm_mths : List mm_Mt := mm_mths_0 ++ (mm_mths_1 ++ (mm_mths_2 ++ (mm_mths_3 ++ (mm_mths_4 ++ (mm_mths_5 ++ (mm_mths_6 ++ (mm_mths_7 ++ (mm_mths_8))))))))
/-- what a class's pool says, as far as it is used: entry, kind, two numbers, a value, the word's place -/
abbrev mm_Pe : Type := Nat × Nat × Nat × Nat × Int × Nat
def mm_pool (o : Nat) : List mm_Pe := match o with
  | 0 => [(3, 8, 0, 0, 0, 482), (9, 0, 0, 0, 0, 483), (15, 0, 0, 1, 0, 484), (18, 2, 31, 0, 0, 778), (24, 2, 72, 0, 0, 779), (27, 1, 2, 4, 0, 460), (33, 2, 73, 0, 0, 783), (37, 2, 32, 0, 0, 795), (43, 1, 5, 5, 0, 307), (46, 1, 5, 0, 0, 294), (49, 1, 5, 1, 0, 299), (52, 2, 76, 0, 0, 796), (56, 2, 36, 0, 0, 819), (60, 2, 81, 0, 0, 820), (64, 2, 55, 0, 0, 1244), (67, 2, 77, 0, 0, 1245), (70, 2, 80, 0, 0, 1246), (75, 2, 30, 0, 0, 1247), (79, 1, 3, 1, 0, 256), (84, 2, 82, 0, 0, 824), (87, 2, 83, 0, 0, 828), (90, 1, 10, 9, 0, 367), (93, 0, 0, 2, 0, 485), (96, 2, 89, 0, 0, 853), (101, 2, 90, 0, 0, 859), (104, 1, 9, 1, 0, 341), (107, 2, 91, 0, 0, 863), (111, 2, 92, 0, 0, 867), (114, 2, 93, 0, 0, 871)]
  | 1 => [(3, 8, 0, 0, 0, 172), (9, 0, 1, 0, 0, 173), (15, 0, 1, 1, 0, 174), (18, 0, 1, 2, 0, 175), (21, 0, 1, 3, 0, 176), (24, 0, 1, 6, 0, 180), (27, 0, 1, 7, 0, 181), (30, 9, 0, 0, 0, 1418), (36, 0, 1, 4, 0, 177), (40, 0, 1, 5, 0, 178), (43, 0, 1, 8, 0, 182), (46, 2, 65, 0, 0, 750), (50, 2, 64, 0, 0, 1214), (54, 3, 14, 0, 0, 841)]
  | 2 => [(3, 8, 0, 0, 0, 454), (9, 0, 2, 0, 0, 455), (15, 0, 2, 1, 0, 456), (18, 0, 2, 2, 0, 457), (21, 0, 2, 3, 0, 458), (24, 0, 2, 5, 0, 463), (28, 2, 20, 0, 0, 589), (34, 2, 28, 0, 0, 590), (40, 2, 23, 0, 0, 600), (44, 1, 4, 6, 0, 228), (48, 2, 30, 0, 0, 601), (52, 1, 3, 6, 0, 269), (57, 1, 3, 0, 0, 252), (60, 3, 14, 0, 0, 605), (64, 0, 2, 4, 0, 459), (67, 2, 31, 0, 0, 606), (71, 1, 5, 0, 0, 293), (76, 1, 5, 1, 0, 298), (79, 2, 32, 0, 0, 610), (81, 2, 34, 0, 0, 617), (85, 2, 35, 0, 0, 621), (91, 1, 5, 7, 0, 313), (94, 2, 37, 0, 0, 630), (97, 2, 36, 0, 0, 667), (100, 3, 46, 0, 0, 668), (104, 2, 75, 0, 0, 791), (107, 2, 74, 0, 0, 787), (110, 2, 73, 0, 0, 913), (114, 2, 102, 0, 0, 909), (117, 2, 185, 0, 0, 1284), (120, 2, 184, 0, 0, 1280), (123, 2, 182, 0, 0, 1272), (126, 2, 183, 0, 0, 1276), (129, 2, 186, 0, 0, 1288), (132, 2, 80, 0, 0, 1292), (137, 2, 187, 0, 0, 1293), (140, 2, 101, 0, 0, 1313), (143, 2, 190, 0, 0, 1305), (146, 2, 191, 0, 0, 1309), (149, 2, 126, 0, 0, 1324)]
  | 3 => [(1, 8, 0, 0, 0, 250), (7, 0, 3, 6, 0, 268), (13, 0, 3, 0, 0, 251), (17, 0, 3, 1, 0, 255), (20, 0, 3, 2, 0, 258), (23, 0, 3, 3, 0, 260), (26, 2, 50, 0, 0, 1408), (30, 0, 3, 4, 0, 262), (33, 0, 3, 5, 0, 265)]
  | 4 => [(3, 8, 0, 0, 0, 209), (9, 0, 4, 0, 0, 210), (15, 0, 4, 1, 0, 213), (18, 0, 4, 2, 0, 216), (21, 0, 4, 3, 0, 219), (24, 2, 21, 0, 0, 1403), (28, 0, 4, 4, 0, 221), (31, 0, 4, 5, 0, 224), (34, 0, 4, 6, 0, 227), (38, 3, 18, 0, 0, 573), (42, 11, 0, 0, 0, 574), (46, 11, 1, 0, 0, 598), (49, 2, 29, 0, 0, 594), (53, 2, 43, 0, 0, 654)]
  | 5 => [(1, 8, 0, 0, 0, 291), (7, 0, 5, 0, 0, 292), (13, 0, 5, 2, 0, 301), (16, 0, 5, 1, 0, 297), (19, 0, 5, 3, 0, 303), (22, 0, 5, 4, 0, 305), (25, 2, 63, 0, 0, 1413), (29, 0, 5, 5, 0, 306), (32, 0, 5, 6, 0, 310), (35, 0, 5, 7, 0, 312), (39, 2, 33, 0, 0, 614)]
  | 6 => [(3, 8, 0, 0, 0, 148), (9, 0, 6, 0, 0, 149), (15, 0, 6, 1, 0, 150), (18, 0, 6, 2, 0, 151), (22, 9, 0, 0, 0, 1398), (28, 3, 13, 0, 0, 538), (32, 3, 14, 0, 0, 1002), (36, 2, 122, 0, 0, 999), (40, 2, 121, 0, 0, 995), (44, 2, 120, 0, 0, 1337), (48, 11, 7, 0, 0, 1338), (51, 11, 8, 0, 0, 1340), (54, 2, 197, 0, 0, 1342), (58, 2, 198, 0, 0, 1346)]
  | 7 => [(3, 8, 0, 0, 0, 404), (9, 0, 7, 2, 0, 409), (15, 0, 7, 0, 0, 405), (19, 0, 7, 1, 0, 407), (22, 3, 14, 0, 0, 1018), (26, 6, 0, 0, 65535, 1376)]
  | 8 => [(3, 8, 0, 0, 0, 423), (9, 0, 8, 0, 0, 426), (15, 4, 9, 333, 115, 424), (17, 3, 7, 0, 0, 425), (18, 0, 8, 2, 0, 428), (22, 0, 8, 1, 0, 427), (26, 7, 0, 0, 255, 1041), (28, 0, 8, 3, 0, 430), (31, 2, 134, 0, 0, 1051), (34, 2, 135, 0, 0, 1055), (37, 2, 155, 0, 0, 1152), (41, 0, 8, 4, 0, 431), (44, 0, 8, 5, 0, 432), (47, 2, 156, 0, 0, 1156), (51, 2, 157, 0, 0, 1160), (54, 2, 165, 0, 0, 1193), (58, 2, 158, 0, 0, 1164), (61, 2, 164, 0, 0, 1188), (64, 2, 159, 0, 0, 1168), (67, 2, 160, 0, 0, 1172), (70, 2, 161, 0, 0, 1176), (73, 2, 162, 0, 0, 1180), (76, 0, 8, 6, 0, 433), (79, 2, 163, 0, 0, 1184), (82, 2, 136, 0, 0, 1059), (86, 2, 137, 0, 0, 1063), (89, 2, 138, 0, 0, 1067), (92, 2, 152, 0, 0, 1142), (95, 2, 153, 0, 0, 1145), (98, 2, 154, 0, 0, 1149), (101, 2, 139, 0, 0, 1071), (105, 2, 140, 0, 0, 1090), (109, 2, 141, 0, 0, 1094), (114, 2, 143, 0, 0, 1104), (118, 3, 14, 0, 0, 1066)]
  | 9 => [(3, 8, 0, 0, 0, 337), (9, 0, 9, 1, 0, 340), (15, 0, 9, 2, 0, 342), (18, 0, 9, 0, 0, 338), (22, 0, 9, 3, 0, 343), (26, 9, 0, 0, 0, 1202), (32, 2, 163, 0, 0, 1192), (36, 3, 14, 0, 0, 857), (40, 2, 35, 0, 0, 858)]
  | 10 => [(3, 8, 0, 0, 0, 142), (9, 4, 6, 144, 110, 143), (11, 3, 2, 0, 0, 145), (12, 0, 10, 0, 0, 353), (18, 4, 4, 205, 112, 161), (20, 0, 10, 1, 0, 355), (24, 4, 3, 246, 113, 163), (26, 0, 10, 3, 0, 358), (30, 4, 5, 287, 114, 165), (32, 0, 10, 5, 0, 361), (36, 4, 1, 168, 111, 167), (38, 3, 3, 0, 0, 169), (39, 0, 10, 7, 0, 363), (43, 4, 9, 333, 115, 203), (45, 0, 10, 8, 0, 365), (49, 3, 4, 0, 0, 206), (50, 3, 5, 0, 0, 247), (51, 3, 6, 0, 0, 288), (52, 3, 7, 0, 0, 334), (53, 2, 209, 0, 0, 1394), (57, 2, 210, 0, 0, 1399), (60, 0, 10, 2, 0, 356), (64, 2, 211, 0, 0, 1404), (67, 0, 10, 4, 0, 359), (70, 2, 212, 0, 0, 1409), (73, 0, 10, 6, 0, 362), (76, 2, 213, 0, 0, 1414), (79, 2, 166, 0, 0, 1419), (82, 0, 10, 9, 0, 366), (85, 0, 10, 10, 0, 369), (88, 0, 10, 11, 0, 371), (91, 3, 14, 0, 0, 555), (95, 3, 87, 0, 0, 846), (99, 2, 85, 0, 0, 837), (103, 2, 86, 0, 0, 842), (107, 2, 20, 0, 0, 551), (111, 2, 21, 0, 0, 556), (115, 2, 30, 0, 0, 686), (119, 2, 50, 0, 0, 687), (122, 2, 61, 0, 0, 732), (126, 1, 4, 0, 0, 212), (129, 1, 5, 7, 0, 315), (133, 2, 33, 0, 0, 740), (139, 2, 57, 0, 0, 717), (142, 1, 3, 2, 0, 259), (145, 1, 3, 3, 0, 261), (148, 1, 3, 4, 0, 264), (151, 2, 56, 0, 0, 713), (154, 2, 78, 0, 0, 804), (157, 2, 77, 0, 0, 800), (160, 2, 80, 0, 0, 813), (165, 2, 79, 0, 0, 808), (168, 2, 55, 0, 0, 812), (171, 3, 46, 0, 0, 832), (174, 1, 4, 4, 0, 223), (177, 1, 4, 6, 0, 230), (180, 1, 3, 6, 0, 271), (183, 1, 4, 5, 0, 226), (186, 2, 27, 0, 0, 929), (192, 2, 107, 0, 0, 930), (196, 2, 109, 0, 0, 942), (200, 2, 110, 0, 0, 950), (203, 2, 111, 0, 0, 954), (207, 2, 115, 0, 0, 971), (211, 2, 116, 0, 0, 975), (214, 2, 119, 0, 0, 987), (217, 1, 2, 4, 0, 462), (220, 2, 102, 0, 0, 934), (223, 2, 31, 0, 0, 935), (227, 1, 5, 0, 0, 296), (228, 2, 36, 0, 0, 936), (231, 2, 64, 0, 0, 937), (234, 2, 108, 0, 0, 938), (237, 2, 29, 0, 0, 946), (241, 2, 41, 0, 0, 947), (244, 2, 35, 0, 0, 948), (247, 2, 42, 0, 0, 949), (251, 1, 3, 0, 0, 254), (254, 2, 112, 0, 0, 958), (258, 2, 113, 0, 0, 962), (261, 1, 3, 5, 0, 267), (264, 2, 114, 0, 0, 967), (267, 3, 38, 0, 0, 966), (270, 1, 5, 5, 0, 309), (273, 1, 5, 6, 0, 311), (276, 1, 4, 2, 0, 218), (279, 2, 117, 0, 0, 979), (283, 2, 118, 0, 0, 983), (286, 1, 4, 1, 0, 215), (289, 2, 120, 0, 0, 991)]
  | 11 => [(1, 8, 0, 0, 0, 134), (7, 4, 10, 138, 109, 137), (9, 2, 1, 0, 0, 139), (10, 0, 11, 0, 0, 493), (16, 0, 11, 1, 0, 494), (19, 0, 11, 2, 0, 495), (23, 4, 7, 400, 116, 398), (25, 0, 11, 3, 0, 496), (29, 3, 8, 0, 0, 401), (30, 4, 8, 419, 117, 418), (32, 3, 9, 0, 0, 420), (33, 0, 11, 4, 0, 497), (37, 4, 2, 450, 118, 449), (39, 3, 10, 0, 0, 451), (40, 0, 11, 5, 0, 498), (44, 4, 0, 478, 119, 477), (46, 3, 11, 0, 0, 479), (47, 0, 11, 6, 0, 499), (51, 0, 11, 7, 0, 500), (55, 2, 13, 0, 0, 522), (59, 2, 14, 0, 0, 525), (63, 6, 0, 0, -100001, 528), (64, 2, 15, 0, 0, 529), (68, 1, 10, 0, 0, 354), (72, 2, 16, 0, 0, 534), (78, 2, 18, 0, 0, 543), (81, 1, 10, 2, 0, 357), (84, 6, 0, 0, -100005, 546), (85, 2, 19, 0, 0, 547), (89, 2, 23, 0, 0, 564), (92, 2, 20, 0, 0, 568), (96, 2, 24, 0, 0, 569), (101, 6, 0, 0, -100004, 576), (102, 1, 4, 0, 0, 211), (105, 1, 4, 1, 0, 214), (108, 1, 4, 2, 0, 217), (111, 1, 4, 3, 0, 220), (114, 1, 4, 4, 0, 222), (117, 1, 4, 5, 0, 225), (120, 2, 26, 0, 0, 581), (124, 2, 34, 0, 0, 624), (127, 2, 29, 0, 0, 625), (131, 2, 36, 0, 0, 626), (134, 2, 38, 0, 0, 634), (137, 1, 4, 6, 0, 229), (140, 6, 0, 0, -100006, 645), (141, 2, 41, 0, 0, 646), (144, 2, 42, 0, 0, 650), (148, 6, 0, 0, -100003, 662), (149, 2, 45, 0, 0, 663), (153, 6, 0, 0, -100008, 671), (154, 2, 43, 0, 0, 672), (158, 6, 0, 0, -100002, 673), (159, 2, 48, 0, 0, 678), (162, 1, 10, 4, 0, 360), (165, 2, 49, 0, 0, 682), (168, 2, 52, 0, 0, 695), (171, 2, 30, 0, 0, 699), (175, 1, 3, 6, 0, 270), (180, 1, 3, 4, 0, 263), (183, 6, 0, 0, -100007, 700), (184, 1, 3, 0, 0, 253), (187, 1, 3, 1, 0, 257), (190, 1, 3, 5, 0, 266), (193, 2, 55, 0, 0, 709), (196, 2, 59, 0, 0, 725), (199, 2, 60, 0, 0, 728), (202, 2, 62, 0, 0, 736), (205, 2, 31, 0, 0, 741), (209, 2, 63, 0, 0, 742), (215, 1, 10, 7, 0, 364), (219, 1, 10, 9, 0, 368), (222, 2, 64, 0, 0, 746), (228, 2, 66, 0, 0, 754), (232, 2, 68, 0, 0, 762), (235, 1, 5, 7, 0, 314), (238, 1, 5, 0, 0, 295), (241, 2, 69, 0, 0, 766), (244, 2, 70, 0, 0, 770), (248, 6, 0, 0, -100009, 874), (249, 2, 94, 0, 0, 875), (252, 1, 5, 1, 0, 300), (255, 2, 32, 0, 0, 883), (258, 1, 5, 5, 0, 308), (261, 1, 2, 4, 0, 461), (264, 2, 74, 0, 0, 884), (268, 1, 5, 2, 0, 302), (271, 1, 5, 3, 0, 304), (274, 2, 97, 0, 0, 889), (277, 2, 73, 0, 0, 892), (280, 2, 101, 0, 0, 905), (283, 2, 103, 0, 0, 914), (286, 2, 105, 0, 0, 922), (289, 2, 106, 0, 0, 925), (293, 2, 124, 0, 0, 1007), (296, 2, 125, 0, 0, 1010), (300, 2, 126, 0, 0, 1014), (303, 2, 82, 0, 0, 1023), (306, 2, 128, 0, 0, 1024), (309, 2, 83, 0, 0, 1028), (312, 2, 130, 0, 0, 1033), (315, 2, 131, 0, 0, 1037), (319, 2, 87, 0, 0, 1046), (322, 2, 133, 0, 0, 1047), (325, 2, 86, 0, 0, 1197), (329, 1, 8, 2, 0, 429), (333, 2, 166, 0, 0, 1198), (339, 1, 9, 0, 0, 339), (342, 1, 1, 8, 0, 183), (345, 2, 168, 0, 0, 1210), (348, 2, 170, 0, 0, 1219), (351, 2, 173, 0, 0, 1231), (355, 2, 84, 0, 0, 833), (358, 2, 88, 0, 0, 849), (362, 2, 78, 0, 0, 1239), (365, 2, 175, 0, 0, 1240), (369, 1, 1, 5, 0, 179), (372, 2, 177, 0, 0, 1252), (375, 2, 179, 0, 0, 1260), (378, 2, 181, 0, 0, 1268), (381, 2, 189, 0, 0, 1301), (384, 2, 191, 0, 0, 1314), (387, 2, 80, 0, 0, 1319), (392, 1, 7, 1, 0, 408), (395, 2, 193, 0, 0, 1320), (399, 2, 195, 0, 0, 1329), (402, 2, 196, 0, 0, 1333), (406, 2, 200, 0, 0, 1356), (409, 2, 202, 0, 0, 1364), (412, 2, 204, 0, 0, 1372), (416, 1, 7, 0, 0, 406), (419, 2, 206, 0, 0, 1381), (422, 1, 7, 2, 0, 410), (426, 9, 0, 0, 0, 1385), (432, 2, 208, 0, 0, 1390), (435, 2, 216, 0, 0, 1428), (438, 2, 217, 0, 0, 1432), (441, 2, 218, 0, 0, 1436), (444, 2, 219, 0, 0, 1440), (447, 1, 10, 10, 0, 370), (450, 1, 10, 11, 0, 372), (453, 6, 0, 0, -99999, 533), (454, 2, 27, 0, 0, 585), (457, 2, 71, 0, 0, 774), (461, 2, 39, 0, 0, 637)]
  | 12 => [(1, 8, 0, 0, 0, 1449), (7, 0, 12, 0, 0, 1450), (13, 0, 12, 1, 0, 1451), (16, 0, 12, 4, 0, 1454), (19, 0, 12, 5, 0, 1455), (23, 0, 12, 7, 0, 1457), (27, 0, 12, 8, 0, 1458), (30, 0, 12, 9, 0, 1459), (33, 0, 12, 10, 0, 1460), (36, 0, 12, 11, 0, 1461), (39, 0, 12, 18, 0, 1468), (42, 0, 12, 19, 0, 1469), (45, 0, 12, 20, 0, 1470), (49, 0, 12, 21, 0, 1471), (52, 0, 12, 22, 0, 1472), (55, 0, 12, 23, 0, 1473), (58, 0, 12, 24, 0, 1474), (61, 0, 12, 25, 0, 1475), (64, 0, 12, 3, 0, 1453), (68, 2, 222, 0, 0, 1535), (72, 2, 228, 0, 0, 1560), (76, 6, 0, 0, -100001, 1538), (77, 2, 223, 0, 0, 1539), (81, 6, 0, 0, -100005, 1547), (82, 2, 225, 0, 0, 1548), (86, 2, 227, 0, 0, 1556), (90, 6, 0, 0, -100004, 1564), (91, 2, 231, 0, 0, 1573), (95, 2, 234, 0, 0, 1585), (98, 2, 230, 0, 0, 1569), (101, 2, 235, 0, 0, 1589), (105, 2, 238, 0, 0, 1601), (108, 2, 239, 0, 0, 1605), (111, 2, 241, 0, 0, 1612), (114, 6, 0, 0, -100006, 1616), (115, 2, 242, 0, 0, 1617), (118, 6, 0, 0, -100003, 1625), (119, 6, 0, 0, -100008, 1626), (120, 6, 0, 0, -100002, 1627), (121, 2, 233, 0, 0, 1581), (124, 2, 232, 0, 0, 1577), (127, 2, 246, 0, 0, 1636), (130, 6, 0, 0, -100007, 1640), (131, 2, 250, 0, 0, 1653), (134, 2, 249, 0, 0, 1649), (137, 2, 237, 0, 0, 1597), (140, 2, 236, 0, 0, 1593), (143, 2, 252, 0, 0, 1661), (146, 2, 255, 0, 0, 1673), (149, 2, 256, 0, 0, 1677), (153, 2, 257, 0, 0, 1681), (156, 2, 263, 0, 0, 1705), (159, 2, 262, 0, 0, 1701), (162, 2, 266, 0, 0, 1716), (166, 2, 260, 0, 0, 1693), (169, 2, 259, 0, 0, 1689), (172, 2, 261, 0, 0, 1697), (175, 2, 265, 0, 0, 1713), (178, 2, 268, 0, 0, 1724), (181, 2, 275, 0, 0, 1752), (184, 2, 277, 0, 0, 1760), (188, 2, 280, 0, 0, 1772), (191, 2, 282, 0, 0, 1780), (194, 2, 273, 0, 0, 1744), (197, 2, 274, 0, 0, 1748), (200, 2, 276, 0, 0, 1756), (203, 2, 278, 0, 0, 1764), (206, 2, 279, 0, 0, 1768), (209, 2, 281, 0, 0, 1776), (212, 2, 272, 0, 0, 1740), (215, 2, 284, 0, 0, 1788), (218, 2, 286, 0, 0, 1795), (221, 2, 287, 0, 0, 1799), (224, 0, 12, 6, 0, 1456), (227, 0, 12, 13, 0, 1463), (230, 0, 12, 12, 0, 1462), (233, 2, 292, 0, 0, 1819), (236, 0, 12, 14, 0, 1464), (239, 2, 293, 0, 0, 1823), (242, 2, 294, 0, 0, 1826), (245, 2, 295, 0, 0, 1830), (248, 0, 12, 15, 0, 1465), (251, 2, 296, 0, 0, 1833), (254, 0, 12, 16, 0, 1466), (257, 0, 12, 17, 0, 1467), (260, 2, 301, 0, 0, 1852), (263, 2, 299, 0, 0, 1844), (266, 2, 291, 0, 0, 1815), (269, 2, 298, 0, 0, 1840), (272, 2, 300, 0, 0, 1848), (275, 2, 302, 0, 0, 1855), (279, 2, 297, 0, 0, 1836), (282, 2, 290, 0, 0, 1811), (285, 2, 311, 0, 0, 1891), (288, 2, 305, 0, 0, 1867), (291, 2, 308, 0, 0, 1879), (294, 2, 309, 0, 0, 1883), (297, 2, 310, 0, 0, 1887), (300, 2, 307, 0, 0, 1875), (304, 6, 0, 0, -100009, 1894), (305, 2, 316, 0, 0, 1911), (308, 2, 317, 0, 0, 1914), (311, 2, 319, 0, 0, 1922), (314, 2, 322, 0, 0, 1934), (317, 2, 323, 0, 0, 1938), (320, 2, 324, 0, 0, 1941), (323, 0, 12, 2, 0, 1452)]
  | 13 => [(7, 4, 11, 130, 108, 129), (9, 2, 0, 0, 0, 131), (10, 4, 12, 1445, 120, 1444), (12, 2, 220, 0, 0, 1446), (13, 2, 12, 0, 0, 518), (17, 2, 221, 0, 0, 1531), (18, 2, 17, 0, 0, 539), (22, 2, 224, 0, 0, 1543), (23, 2, 22, 0, 0, 560), (27, 2, 226, 0, 0, 1552), (28, 2, 25, 0, 0, 577), (31, 2, 229, 0, 0, 1565), (32, 2, 40, 0, 0, 641), (36, 2, 240, 0, 0, 1608), (37, 2, 44, 0, 0, 658), (41, 2, 243, 0, 0, 1621), (42, 2, 47, 0, 0, 674), (45, 2, 244, 0, 0, 1628), (46, 2, 51, 0, 0, 691), (49, 2, 245, 0, 0, 1632), (50, 2, 53, 0, 0, 701), (53, 2, 247, 0, 0, 1641), (54, 2, 54, 0, 0, 705), (57, 2, 248, 0, 0, 1645), (58, 2, 58, 0, 0, 721), (62, 2, 254, 0, 0, 1669), (63, 2, 67, 0, 0, 758), (67, 2, 306, 0, 0, 1871), (68, 2, 95, 0, 0, 879), (71, 2, 258, 0, 0, 1685), (72, 2, 96, 0, 0, 885), (75, 2, 264, 0, 0, 1709), (76, 2, 98, 0, 0, 893), (80, 2, 251, 0, 0, 1657), (81, 2, 99, 0, 0, 897), (84, 2, 253, 0, 0, 1665), (85, 2, 100, 0, 0, 901), (88, 2, 267, 0, 0, 1720), (89, 2, 104, 0, 0, 918), (92, 2, 271, 0, 0, 1736), (93, 2, 123, 0, 0, 1003), (96, 2, 283, 0, 0, 1784), (97, 2, 127, 0, 0, 1019), (100, 2, 285, 0, 0, 1791), (101, 7, 0, 0, 4294967295, 1973), (103, 2, 129, 0, 0, 1029), (107, 2, 288, 0, 0, 1803), (108, 2, 132, 0, 0, 1042), (111, 2, 289, 0, 0, 1807), (112, 2, 167, 0, 0, 1206), (115, 2, 303, 0, 0, 1859), (116, 2, 169, 0, 0, 1215), (119, 2, 304, 0, 0, 1863), (120, 2, 171, 0, 0, 1223), (123, 2, 312, 0, 0, 1895), (124, 2, 172, 0, 0, 1227), (127, 2, 313, 0, 0, 1899), (128, 2, 174, 0, 0, 1235), (131, 2, 314, 0, 0, 1903), (132, 2, 176, 0, 0, 1248), (135, 2, 269, 0, 0, 1728), (136, 2, 178, 0, 0, 1256), (139, 2, 270, 0, 0, 1732), (140, 2, 180, 0, 0, 1264), (143, 2, 315, 0, 0, 1907), (144, 2, 188, 0, 0, 1297), (148, 2, 318, 0, 0, 1918), (149, 2, 192, 0, 0, 1315), (152, 2, 320, 0, 0, 1926), (153, 2, 194, 0, 0, 1325), (156, 2, 321, 0, 0, 1930), (157, 2, 199, 0, 0, 1352), (160, 2, 325, 0, 0, 1945), (161, 2, 201, 0, 0, 1360), (164, 2, 326, 0, 0, 1949), (165, 2, 203, 0, 0, 1368), (168, 2, 327, 0, 0, 1953), (169, 2, 205, 0, 0, 1377), (172, 2, 328, 0, 0, 1957), (173, 2, 207, 0, 0, 1386), (176, 2, 329, 0, 0, 1961), (177, 2, 214, 0, 0, 1420), (180, 2, 330, 0, 0, 1965), (181, 2, 215, 0, 0, 1424), (184, 2, 331, 0, 0, 1969)]
  | 14 => []
  | 15 => [(264, 6, 0, 0, 65536, 640), (265, 6, 0, 0, 1431655765, 816), (266, 6, 0, 0, 858993459, 817), (267, 6, 0, 0, 252645135, 818)]
  | 16 => [(38, 10, 2, 0, 0, 1102), (335, 2, 142, 0, 0, 1098), (492, 2, 144, 0, 0, 1108), (495, 2, 145, 0, 0, 1112), (498, 2, 148, 0, 0, 1123), (1053, 10, 3, 0, 0, 1118), (1059, 2, 147, 0, 0, 1120)]
  | 17 => [(9, 2, 146, 0, 0, 1115)]
  | 18 => []
  | 19 => [(44, 10, 4, 0, 0, 1136), (48, 2, 150, 0, 0, 1129), (59, 10, 5, 0, 0, 1138), (63, 10, 6, 0, 0, 1140), (67, 2, 149, 0, 0, 1126), (71, 2, 151, 0, 0, 1133), (414, 2, 146, 0, 0, 1132)]
  | 20 => [(314, 7, 0, 0, 6148914691236517205, 1349), (316, 7, 0, 0, 3689348814741910323, 1350), (318, 7, 0, 0, 1085102592571150095, 1351)]
  | _ => []
