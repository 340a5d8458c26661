/-! ===== printed by wip/gen_names.py: names, methods, pools ===== -/
def RX0 : String := "RaftTown$Judge"
def TX0 : u_T := fun k => match k with
  | 0 => ("RaftTown$Judge", "names", "[I", true)
  | 1 => ("RaftTown$Judge", "values", "[I", true)
  | _ => ("RaftTown$Judge", "open", "I", false)
def tyX0 : Nat → FieldType := fun k => match k with
  | 0 => .array .int
  | 1 => .array .int
  | _ => .int
theorem nmX0 : ∀ a, a < 3 → ∀ b, b < 3 → a ≠ b → (TX0 a).2.1 ≠ (TX0 b).2.1 := by decide +kernel
theorem tyX0_ok : ∀ k, k < 3 → parseFieldDescriptor (TX0 k).2.2.1 = some (tyX0 k) := by decide +kernel
def RX1 : String := "RaftTown$Log"
def TX1 : u_T := fun k => match k with
  | 0 => ("RaftTown$Log", "whats", "[I", true)
  | 1 => ("RaftTown$Log", "numbers", "[I", true)
  | 2 => ("RaftTown$Log", "days", "[I", true)
  | 3 => ("RaftTown$Log", "knowers", "[I", true)
  | 4 => ("RaftTown$Log", "first", "I", false)
  | 5 => ("RaftTown$Log", "size", "I", false)
  | 6 => ("RaftTown$Log", "lawText", "[I", true)
  | 7 => ("RaftTown$Log", "lawKnown", "[I", true)
  | _ => ("RaftTown$Log", "lawCount", "I", false)
def tyX1 : Nat → FieldType := fun k => match k with
  | 0 => .array .int
  | 1 => .array .int
  | 2 => .array .int
  | 3 => .array .int
  | 4 => .int
  | 5 => .int
  | 6 => .array .int
  | 7 => .array .int
  | _ => .int
theorem nmX1 : ∀ a, a < 9 → ∀ b, b < 9 → a ≠ b → (TX1 a).2.1 ≠ (TX1 b).2.1 := by decide +kernel
theorem tyX1_ok : ∀ k, k < 9 → parseFieldDescriptor (TX1 k).2.2.1 = some (tyX1 k) := by decide +kernel
def RX2 : String := "RaftTown$Net"
def TX2 : u_T := fun k => match k with
  | 0 => ("RaftTown$Net", "ends", "[I", true)
  | 1 => ("RaftTown$Net", "strength", "[I", true)
  | 2 => ("RaftTown$Net", "lighter", "[I", true)
  | 3 => ("RaftTown$Net", "weight", "[I", true)
  | 4 => ("RaftTown$Net", "all", "I", false)
  | _ => ("RaftTown$Net", "afloat", "I", false)
def tyX2 : Nat → FieldType := fun k => match k with
  | 0 => .array .int
  | 1 => .array .int
  | 2 => .array .int
  | 3 => .array .int
  | 4 => .int
  | _ => .int
theorem nmX2 : ∀ a, a < 6 → ∀ b, b < 6 → a ≠ b → (TX2 a).2.1 ≠ (TX2 b).2.1 := by decide +kernel
theorem tyX2_ok : ∀ k, k < 6 → parseFieldDescriptor (TX2 k).2.2.1 = some (tyX2 k) := by decide +kernel
def RX3 : String := "RaftTown$Person"
def TX3 : u_T := fun k => match k with
  | 0 => ("RaftTown$Person", "raft", "I", false)
  | 1 => ("RaftTown$Person", "born", "I", false)
  | 2 => ("RaftTown$Person", "one", "I", false)
  | 3 => ("RaftTown$Person", "two", "I", false)
  | 4 => ("RaftTown$Person", "wedTo", "I", false)
  | 5 => ("RaftTown$Person", "thirst", "I", false)
  | _ => ("RaftTown$Person", "lost", "Z", false)
def tyX3 : Nat → FieldType := fun k => match k with
  | 0 => .int
  | 1 => .int
  | 2 => .int
  | 3 => .int
  | 4 => .int
  | 5 => .int
  | _ => .boolean
theorem nmX3 : ∀ a, a < 7 → ∀ b, b < 7 → a ≠ b → (TX3 a).2.1 ≠ (TX3 b).2.1 := by decide +kernel
theorem tyX3_ok : ∀ k, k < 7 → parseFieldDescriptor (TX3 k).2.2.1 = some (tyX3 k) := by decide +kernel
def RX4 : String := "RaftTown$Raft"
def TX4 : u_T := fun k => match k with
  | 0 => ("RaftTown$Raft", "kind", "I", false)
  | 1 => ("RaftTown$Raft", "cell", "I", false)
  | 2 => ("RaftTown$Raft", "planks", "I", false)
  | 3 => ("RaftTown$Raft", "hold", "I", false)
  | 4 => ("RaftTown$Raft", "water", "I", false)
  | 5 => ("RaftTown$Raft", "goods", "I", false)
  | _ => ("RaftTown$Raft", "sunk", "Z", false)
def tyX4 : Nat → FieldType := fun k => match k with
  | 0 => .int
  | 1 => .int
  | 2 => .int
  | 3 => .int
  | 4 => .int
  | 5 => .int
  | _ => .boolean
theorem nmX4 : ∀ a, a < 7 → ∀ b, b < 7 → a ≠ b → (TX4 a).2.1 ≠ (TX4 b).2.1 := by decide +kernel
theorem tyX4_ok : ∀ k, k < 7 → parseFieldDescriptor (TX4 k).2.2.1 = some (tyX4 k) := by decide +kernel
def RX5 : String := "RaftTown$Rope"
def TX5 : u_T := fun k => match k with
  | 0 => ("RaftTown$Rope", "one", "I", false)
  | 1 => ("RaftTown$Rope", "two", "I", false)
  | 2 => ("RaftTown$Rope", "sideOne", "I", false)
  | 3 => ("RaftTown$Rope", "sideTwo", "I", false)
  | 4 => ("RaftTown$Rope", "toldStrength", "I", false)
  | 5 => ("RaftTown$Rope", "age", "I", false)
  | 6 => ("RaftTown$Rope", "wetDays", "I", false)
  | _ => ("RaftTown$Rope", "live", "Z", false)
def tyX5 : Nat → FieldType := fun k => match k with
  | 0 => .int
  | 1 => .int
  | 2 => .int
  | 3 => .int
  | 4 => .int
  | 5 => .int
  | 6 => .int
  | _ => .boolean
theorem nmX5 : ∀ a, a < 8 → ∀ b, b < 8 → a ≠ b → (TX5 a).2.1 ≠ (TX5 b).2.1 := by decide +kernel
theorem tyX5_ok : ∀ k, k < 8 → parseFieldDescriptor (TX5 k).2.2.1 = some (tyX5 k) := by decide +kernel
def RX6 : String := "RaftTown$Sea"
def TX6 : u_T := fun k => match k with
  | 0 => ("RaftTown$Sea", "streamX", "[I", true)
  | 1 => ("RaftTown$Sea", "streamY", "[I", true)
  | _ => ("RaftTown$Sea", "steps", "[J", true)
def tyX6 : Nat → FieldType := fun k => match k with
  | 0 => .array .int
  | 1 => .array .int
  | _ => .array .long
theorem nmX6 : ∀ a, a < 3 → ∀ b, b < 3 → a ≠ b → (TX6 a).2.1 ≠ (TX6 b).2.1 := by decide +kernel
theorem tyX6_ok : ∀ k, k < 3 → parseFieldDescriptor (TX6 k).2.2.1 = some (tyX6 k) := by decide +kernel
def RX7 : String := "RaftTown$Sheet"
def TX7 : u_T := fun k => match k with
  | 0 => ("RaftTown$Sheet", "bits", "I", false)
  | 1 => ("RaftTown$Sheet", "length", "I", false)
  | _ => ("RaftTown$Sheet", "row", "[I", true)
def tyX7 : Nat → FieldType := fun k => match k with
  | 0 => .int
  | 1 => .int
  | _ => .array .int
theorem nmX7 : ∀ a, a < 3 → ∀ b, b < 3 → a ≠ b → (TX7 a).2.1 ≠ (TX7 b).2.1 := by decide +kernel
theorem tyX7_ok : ∀ k, k < 3 → parseFieldDescriptor (TX7 k).2.2.1 = some (tyX7 k) := by decide +kernel
def RX8 : String := "RaftTown$Tape"
def TX8 : u_T := fun k => match k with
  | 0 => ("RaftTown$Tape", "bytes", "[I", true)
  | 1 => ("RaftTown$Tape", "length", "I", false)
  | 2 => ("RaftTown$Tape", "draft", "LRaftTown$Text;", true)
  | 3 => ("RaftTown$Tape", "at", "I", false)
  | 4 => ("RaftTown$Tape", "token", "I", false)
  | 5 => ("RaftTown$Tape", "start", "I", false)
  | _ => ("RaftTown$Tape", "number", "I", false)
def tyX8 : Nat → FieldType := fun k => match k with
  | 0 => .array .int
  | 1 => .int
  | 2 => .object "RaftTown$Text"
  | 3 => .int
  | 4 => .int
  | 5 => .int
  | _ => .int
theorem nmX8 : ∀ a, a < 7 → ∀ b, b < 7 → a ≠ b → (TX8 a).2.1 ≠ (TX8 b).2.1 := by decide +kernel
theorem tyX8_ok : ∀ k, k < 7 → parseFieldDescriptor (TX8 k).2.2.1 = some (tyX8 k) := by decide +kernel
def RX9 : String := "RaftTown$Text"
def TX9 : u_T := fun k => match k with
  | 0 => ("RaftTown$Text", "told", "Z", false)
  | 1 => ("RaftTown$Text", "code", "[I", true)
  | 2 => ("RaftTown$Text", "ends", "[I", true)
  | _ => ("RaftTown$Text", "length", "I", false)
def tyX9 : Nat → FieldType := fun k => match k with
  | 0 => .boolean
  | 1 => .array .int
  | 2 => .array .int
  | _ => .int
theorem nmX9 : ∀ a, a < 4 → ∀ b, b < 4 → a ≠ b → (TX9 a).2.1 ≠ (TX9 b).2.1 := by decide +kernel
theorem tyX9_ok : ∀ k, k < 4 → parseFieldDescriptor (TX9 k).2.2.1 = some (tyX9 k) := by decide +kernel
def RX10 : String := "RaftTown$Town"
def TX10 : u_T := fun k => match k with
  | 0 => ("RaftTown$Town", "sea", "LRaftTown$Sea;", true)
  | 1 => ("RaftTown$Town", "rafts", "[LRaftTown$Raft;", true)
  | 2 => ("RaftTown$Town", "raftCount", "I", false)
  | 3 => ("RaftTown$Town", "persons", "[LRaftTown$Person;", true)
  | 4 => ("RaftTown$Town", "personCount", "I", false)
  | 5 => ("RaftTown$Town", "ropes", "[LRaftTown$Rope;", true)
  | 6 => ("RaftTown$Town", "ropeCount", "I", false)
  | 7 => ("RaftTown$Town", "log", "LRaftTown$Log;", true)
  | 8 => ("RaftTown$Town", "texts", "[LRaftTown$Text;", true)
  | 9 => ("RaftTown$Town", "today", "I", false)
  | 10 => ("RaftTown$Town", "used", "I", false)
  | _ => ("RaftTown$Town", "spilt", "I", false)
def tyX10 : Nat → FieldType := fun k => match k with
  | 0 => .object "RaftTown$Sea"
  | 1 => .array (.object "RaftTown$Raft")
  | 2 => .int
  | 3 => .array (.object "RaftTown$Person")
  | 4 => .int
  | 5 => .array (.object "RaftTown$Rope")
  | 6 => .int
  | 7 => .object "RaftTown$Log"
  | 8 => .array (.object "RaftTown$Text")
  | 9 => .int
  | 10 => .int
  | _ => .int
theorem nmX10 : ∀ a, a < 12 → ∀ b, b < 12 → a ≠ b → (TX10 a).2.1 ≠ (TX10 b).2.1 := by decide +kernel
theorem tyX10_ok : ∀ k, k < 12 → parseFieldDescriptor (TX10 k).2.2.1 = some (tyX10 k) := by decide +kernel
def RX11 : String := "RaftTown"
def TX11 : u_T := fun k => match k with
  | 0 => ("RaftTown", "town", "LRaftTown$Town;", true)
  | 1 => ("RaftTown", "kept", "LRaftTown$Town;", true)
  | 2 => ("RaftTown", "hasImage", "Z", false)
  | 3 => ("RaftTown", "sheets", "[LRaftTown$Sheet;", true)
  | 4 => ("RaftTown", "tape", "LRaftTown$Tape;", true)
  | 5 => ("RaftTown", "net", "LRaftTown$Net;", true)
  | 6 => ("RaftTown", "judge", "LRaftTown$Judge;", true)
  | _ => ("RaftTown", "findings", "I", false)
def tyX11 : Nat → FieldType := fun k => match k with
  | 0 => .object "RaftTown$Town"
  | 1 => .object "RaftTown$Town"
  | 2 => .boolean
  | 3 => .array (.object "RaftTown$Sheet")
  | 4 => .object "RaftTown$Tape"
  | 5 => .object "RaftTown$Net"
  | 6 => .object "RaftTown$Judge"
  | _ => .int
theorem nmX11 : ∀ a, a < 8 → ∀ b, b < 8 → a ≠ b → (TX11 a).2.1 ≠ (TX11 b).2.1 := by decide +kernel
theorem tyX11_ok : ∀ k, k < 8 → parseFieldDescriptor (TX11 k).2.2.1 = some (tyX11 k) := by decide +kernel
def RX12 : String := "RaftTownModel"
def TX12 : u_T := fun k => match k with
  | 0 => ("RaftTownModel", "now", "[I", true)
  | 1 => ("RaftTownModel", "kept", "[I", true)
  | 2 => ("RaftTownModel", "hasImage", "Z", false)
  | 3 => ("RaftTownModel", "findings", "I", false)
  | 4 => ("RaftTownModel", "weights", "[I", true)
  | 5 => ("RaftTownModel", "tape", "[B", true)
  | 6 => ("RaftTownModel", "taped", "I", false)
  | 7 => ("RaftTownModel", "letters", "[C", true)
  | 8 => ("RaftTownModel", "begins", "[I", true)
  | 9 => ("RaftTownModel", "code", "[I", true)
  | 10 => ("RaftTownModel", "waits", "[I", true)
  | 11 => ("RaftTownModel", "names", "[I", true)
  | 12 => ("RaftTownModel", "begin", "I", false)
  | 13 => ("RaftTownModel", "end", "I", false)
  | 14 => ("RaftTownModel", "next", "I", false)
  | 15 => ("RaftTownModel", "number", "I", false)
  | 16 => ("RaftTownModel", "size", "I", false)
  | 17 => ("RaftTownModel", "waitMany", "I", false)
  | 18 => ("RaftTownModel", "heap", "[I", true)
  | 19 => ("RaftTownModel", "lostOf", "[I", true)
  | 20 => ("RaftTownModel", "may0", "[Z", true)
  | 21 => ("RaftTownModel", "then", "[Z", true)
  | 22 => ("RaftTownModel", "sheetBits", "[I", true)
  | 23 => ("RaftTownModel", "sheetSize", "[I", true)
  | 24 => ("RaftTownModel", "sheets", "[I", true)
  | _ => ("RaftTownModel", "carried", "[I", true)
def tyX12 : Nat → FieldType := fun k => match k with
  | 0 => .array .int
  | 1 => .array .int
  | 2 => .boolean
  | 3 => .int
  | 4 => .array .int
  | 5 => .array .byte
  | 6 => .int
  | 7 => .array .char
  | 8 => .array .int
  | 9 => .array .int
  | 10 => .array .int
  | 11 => .array .int
  | 12 => .int
  | 13 => .int
  | 14 => .int
  | 15 => .int
  | 16 => .int
  | 17 => .int
  | 18 => .array .int
  | 19 => .array .int
  | 20 => .array .boolean
  | 21 => .array .boolean
  | 22 => .array .int
  | 23 => .array .int
  | 24 => .array .int
  | _ => .array .int
theorem nmX12 : ∀ a, a < 26 → ∀ b, b < 26 → a ≠ b → (TX12 a).2.1 ≠ (TX12 b).2.1 := by decide +kernel
theorem tyX12_ok : ∀ k, k < 26 → parseFieldDescriptor (TX12 k).2.2.1 = some (tyX12 k) := by decide +kernel
abbrev vwCl : List vw_C := [(RX0, TX0, 3), (RX1, TX1, 9), (RX2, TX2, 6), (RX3, TX3, 7), (RX4, TX4, 7), (RX5, TX5, 8), (RX6, TX6, 3), (RX7, TX7, 3), (RX8, TX8, 7), (RX9, TX9, 4), (RX10, TX10, 12), (RX11, TX11, 8), (RX12, TX12, 26)]
def mm_ty (ci : Nat) : Nat → FieldType := match ci with
  | 0 => tyX0
  | 1 => tyX1
  | 2 => tyX2
  | 3 => tyX3
  | 4 => tyX4
  | 5 => tyX5
  | 6 => tyX6
  | 7 => tyX7
  | 8 => tyX8
  | 9 => tyX9
  | 10 => tyX10
  | 11 => tyX11
  | _ => tyX12
def mm_cns : List String := [RX0, RX1, RX2, RX3, RX4, RX5, RX6, RX7, RX8, RX9, RX10, RX11, RX12, "RaftTownLaw", "java/lang/Integer", "java/lang/String", "java/lang/StringLatin1", "jdk/internal/util/Preconditions", "java/lang/StringUTF16", "java/lang/Long"]
abbrev mm_Mt : Type := Nat × MethodName × ByteArray × Nat × Option FieldType × Nat × Nat × List Nat
def mm_mths_0 : List mm_Mt := [
  (11, ⟨"RaftTown", "<init>", "()V"⟩, prog_1_method_1_code, 2, (none), 0, 2, [1026, 1025, 0, 1001]),
  (10, ⟨"RaftTown$Town", "<init>", "()V"⟩, prog_12_method_1_code, 2, (none), 0, 2, [1034, 1033, 0, 1002]),
  (6, ⟨"RaftTown$Sea", "<init>", "()V"⟩, prog_8_method_1_code, 1, (none), 0, 2, [1040, 1039, 0, 1003]),
  (1, ⟨"RaftTown$Log", "<init>", "()V"⟩, prog_3_method_1_code, 1, (none), 0, 2, [1064, 1063, 0, 1004]),
  (4, ⟨"RaftTown$Raft", "<init>", "()V"⟩, prog_6_method_1_code, 1, (none), 0, 2, [1101, 1100, 0, 1005]),
  (3, ⟨"RaftTown$Person", "<init>", "()V"⟩, prog_5_method_1_code, 1, (none), 0, 2, [1142, 1141, 0, 1006]),
  (5, ⟨"RaftTown$Rope", "<init>", "()V"⟩, prog_7_method_1_code, 1, (none), 0, 2, [1183, 1182, 0, 1007]),
  (9, ⟨"RaftTown$Text", "<init>", "()V"⟩, prog_11_method_1_code, 1, (none), 0, 2, [1229, 1228, 0, 1008]),
  (7, ⟨"RaftTown$Sheet", "<init>", "()V"⟩, prog_9_method_1_code, 1, (none), 0, 2, [2056, 2055, 0, 1009]),
  (8, ⟨"RaftTown$Tape", "<init>", "()V"⟩, prog_10_method_1_code, 1, (none), 0, 2, [2075, 2074, 0, 1010]),
  (2, ⟨"RaftTown$Net", "<init>", "()V"⟩, prog_4_method_1_code, 1, (none), 0, 2, [2106, 2105, 0, 1011]),
  (0, ⟨"RaftTown$Judge", "<init>", "()V"⟩, prog_2_method_1_code, 1, (none), 0, 2, [2134, 2133, 0, 1012]),
  (11, ⟨"RaftTown", "stream", "(III)I"⟩, prog_1_method_2_code, 4, (some .int), 3, 1, [2174, 2172, 2173, 1001]),
  (11, ⟨"RaftTown", "isCell", "(I)Z"⟩, prog_1_method_49_code, 1, (some .boolean), 1, 0, [2177, 2176, 0, 1001]),
  (11, ⟨"RaftTown", "within", "(III)Z"⟩, prog_1_method_48_code, 3, (some .boolean), 3, 0, [2180, 2179, 0, 1001]),
  (11, ⟨"RaftTown", "noted", "(I)I"⟩, prog_1_method_42_code, 2, (some .int), 1, 1, [2185, 2184, 0, 1001]),
  (6, ⟨"RaftTown$Sea", "lead", "(III)V"⟩, prog_8_method_3_code, 4, (none), 3, 1, [2190, 2188, 2189, 1003]),
  (11, ⟨"RaftTown", "raft", "(IIII)I"⟩, prog_1_method_3_code, 5, (some .int), 4, 1, [2195, 2193, 2194, 1001]),
  (11, ⟨"RaftTown", "isKind", "(I)Z"⟩, prog_1_method_50_code, 1, (some .boolean), 1, 0, [2198, 2197, 0, 1001]),
  (10, ⟨"RaftTown$Town", "addRaft", "(IIII)I"⟩, prog_12_method_11_code, 6, (some .int), 4, 1, [2203, 2201, 2202, 1002]),
  (10, ⟨"RaftTown$Town", "raftAt", "(I)LRaftTown$Raft;"⟩, prog_12_method_6_code, 2, (some (.object "RaftTown$Raft")), 1, 1, [2207, 2205, 2206, 1002]),
  (4, ⟨"RaftTown$Raft", "launch", "(IIII)V"⟩, prog_6_method_3_code, 5, (none), 4, 1, [2212, 2210, 2211, 1005]),
  (11, ⟨"RaftTown", "as", "(II)I"⟩, prog_1_method_4_code, 3, (some .int), 2, 1, [2216, 2214, 2215, 1001]),
  (10, ⟨"RaftTown$Town", "hasRaft", "(I)Z"⟩, prog_12_method_3_code, 2, (some .boolean), 1, 1, [2220, 2218, 2219, 1002]),
  (4, ⟨"RaftTown$Raft", "isOf", "(I)Z"⟩, prog_6_method_4_code, 4, (some .boolean), 1, 1, [2225, 2223, 2224, 1005]),
  (11, ⟨"RaftTown", "raftIs", "(II)I"⟩, prog_1_method_5_code, 4, (some .int), 2, 1, [2233, 2231, 2232, 1001]),
  (11, ⟨"RaftTown", "surveyed", "()LRaftTown$Net;"⟩, prog_1_method_43_code, 1, (some (.object "RaftTown$Net")), 0, 1, [2237, 2236, 1, 1001]),
  (2, ⟨"RaftTown$Net", "survey", "(LRaftTown$Town;)V"⟩, prog_4_method_2_code, 4, (none), 1, 1, [3001, 2239, 3000, 1011]),
  (4, ⟨"RaftTown$Raft", "ownWeight", "()I"⟩, prog_6_method_6_code, 1, (some .int), 0, 1, [3006, 3004, 3005, 1005]),
  (4, ⟨"RaftTown$Raft", "area", "()I"⟩, prog_6_method_5_code, 1, (some .int), 0, 1, [3010, 3008, 3009, 1005]),
  (10, ⟨"RaftTown$Town", "personAt", "(I)LRaftTown$Person;"⟩, prog_12_method_7_code, 2, (some (.object "RaftTown$Person")), 1, 1, [3017, 3015, 3016, 1002]),
  (10, ⟨"RaftTown$Town", "ropeAt", "(I)LRaftTown$Rope;"⟩, prog_12_method_8_code, 2, (some (.object "RaftTown$Rope")), 1, 1, [3022, 3020, 3021, 1002]),
  (5, ⟨"RaftTown$Rope", "strength", "()I"⟩, prog_7_method_4_code, 1, (some .int), 0, 1, [3026, 3024, 3025, 1007]),
  (2, ⟨"RaftTown$Net", "weightAt", "(I)I"⟩, prog_4_method_3_code, 2, (some .int), 1, 1, [3033, 3031, 3032, 1011]),
  (2, ⟨"RaftTown$Net", "partOf", "(I)I"⟩, prog_4_method_6_code, 2, (some .int), 1, 1, [3042, 3040, 3041, 1011]),
  (2, ⟨"RaftTown$Net", "reach", "(II)I"⟩, prog_4_method_5_code, 7, (some .int), 2, 1, [3046, 3045, 2, 1011]),
  (11, ⟨"RaftTown", "leastOf", "(I)I"⟩, prog_1_method_57_code, 1, (some .int), 1, 0, [3049, 3048, 0, 1001]),
  (14, ⟨"java/lang/Integer", "numberOfTrailingZeros", "(I)I"⟩, prog_15_method_48_code, 2, (some .int), 1, 0, [3052, 3051, 0, 1015]),
  (11, ⟨"RaftTown", "load", "(IIZ)I"⟩, prog_1_method_6_code, 5, (some .int), 3, 1, [3057, 3055, 3056, 1001]),
  (4, ⟨"RaftTown$Raft", "room", "()I"⟩, prog_6_method_7_code, 1, (some .int), 0, 1, [3062, 3060, 3061, 1005])]
def mm_mths_1 : List mm_Mt := [
  (4, ⟨"RaftTown$Raft", "stow", "(IZ)I"⟩, prog_6_method_9_code, 3, (some .int), 2, 1, [3066, 3064, 3065, 1005]),
  (4, ⟨"RaftTown$Raft", "casks", "(Z)I"⟩, prog_6_method_8_code, 2, (some .int), 1, 1, [3070, 3068, 3069, 1005]),
  (11, ⟨"RaftTown", "trade", "(IIIZ)I"⟩, prog_1_method_7_code, 7, (some .int), 4, 1, [3074, 3072, 3073, 1001]),
  (2, ⟨"RaftTown$Net", "inOnePart", "(II)Z"⟩, prog_4_method_7_code, 3, (some .boolean), 2, 1, [3079, 3077, 3078, 1011]),
  (11, ⟨"RaftTown", "has", "(II)Z"⟩, prog_1_method_56_code, 2, (some .boolean), 2, 0, [3083, 3082, 0, 1001]),
  (11, ⟨"RaftTown", "person", "(IIII)I"⟩, prog_1_method_8_code, 5, (some .int), 4, 1, [3090, 3088, 3089, 1001]),
  (11, ⟨"RaftTown", "areParents", "(II)Z"⟩, prog_1_method_47_code, 3, (some .boolean), 2, 1, [3094, 3093, 3, 1001]),
  (10, ⟨"RaftTown$Town", "addPerson", "(IIII)I"⟩, prog_12_method_12_code, 6, (some .int), 4, 1, [3098, 3096, 3097, 1002]),
  (3, ⟨"RaftTown$Person", "arrive", "(IIII)V"⟩, prog_5_method_3_code, 5, (none), 4, 1, [3103, 3101, 3102, 1006]),
  (11, ⟨"RaftTown", "wed", "(II)I"⟩, prog_1_method_9_code, 5, (some .int), 2, 1, [3107, 3105, 3106, 1001]),
  (10, ⟨"RaftTown$Town", "hasPerson", "(I)Z"⟩, prog_12_method_4_code, 2, (some .boolean), 1, 1, [3111, 3109, 3110, 1002]),
  (11, ⟨"RaftTown", "move", "(II)I"⟩, prog_1_method_10_code, 5, (some .int), 2, 1, [3117, 3115, 3116, 1001]),
  (11, ⟨"RaftTown", "personIs", "(II)I"⟩, prog_1_method_11_code, 4, (some .int), 2, 1, [3121, 3119, 3120, 1001]),
  (10, ⟨"RaftTown$Town", "kinOf", "(I)I"⟩, prog_12_method_16_code, 4, (some .int), 1, 1, [3125, 3123, 3124, 1002]),
  (10, ⟨"RaftTown$Town", "areKin", "(II)Z"⟩, prog_12_method_15_code, 5, (some .boolean), 2, 1, [3129, 3128, 4, 1002]),
  (3, ⟨"RaftTown$Person", "hasParent", "(I)Z"⟩, prog_5_method_4_code, 2, (some .boolean), 1, 1, [3133, 3131, 3132, 1006]),
  (11, ⟨"RaftTown", "tie", "(IIIII)I"⟩, prog_1_method_12_code, 10, (some .int), 5, 1, [3137, 3135, 3136, 1001]),
  (11, ⟨"RaftTown", "isSide", "(I)Z"⟩, prog_1_method_51_code, 1, (some .boolean), 1, 0, [3140, 3139, 0, 1001]),
  (10, ⟨"RaftTown$Town", "hasRoomAt", "(II)Z"⟩, prog_12_method_13_code, 5, (some .boolean), 2, 1, [3144, 3142, 3143, 1002]),
  (5, ⟨"RaftTown$Rope", "isAtSide", "(II)Z"⟩, prog_7_method_6_code, 3, (some .boolean), 2, 1, [3148, 3146, 3147, 1007]),
  (10, ⟨"RaftTown$Town", "freeRope", "()I"⟩, prog_12_method_14_code, 2, (some .int), 0, 1, [3152, 3150, 3151, 1002]),
  (5, ⟨"RaftTown$Rope", "lay", "(IIIII)V"⟩, prog_7_method_3_code, 6, (none), 5, 1, [3158, 3156, 3157, 1007]),
  (1, ⟨"RaftTown$Log", "add", "(IIII)V"⟩, prog_3_method_5_code, 6, (none), 4, 1, [3162, 3160, 3161, 1004]),
  (1, ⟨"RaftTown$Log", "placeOf", "(I)I"⟩, prog_3_method_3_code, 3, (some .int), 1, 1, [3166, 3165, 5, 1004]),
  (1, ⟨"RaftTown$Log", "tellOn", "(I)V"⟩, prog_3_method_7_code, 3, (none), 1, 1, [3170, 3168, 3169, 1004]),
  (11, ⟨"RaftTown", "cut", "(I)I"⟩, prog_1_method_13_code, 4, (some .int), 1, 1, [3174, 3172, 3173, 1001]),
  (10, ⟨"RaftTown$Town", "hasRope", "(I)Z"⟩, prog_12_method_5_code, 2, (some .boolean), 1, 1, [3178, 3176, 3177, 1002]),
  (1, ⟨"RaftTown$Log", "lawOf", "(I)I"⟩, prog_3_method_9_code, 4, (some .int), 1, 1, [3182, 3180, 3181, 1004]),
  (11, ⟨"RaftTown", "ropeRuling", "(III)I"⟩, prog_1_method_45_code, 4, (some .int), 3, 1, [3186, 3185, 6, 1001]),
  (0, ⟨"RaftTown$Judge", "nameRope", "(LRaftTown$Town;LRaftTown$Net;II)V"⟩, prog_2_method_3_code, 6, (none), 4, 1, [3190, 3188, 3189, 1012]),
  (0, ⟨"RaftTown$Judge", "nameNothing", "()V"⟩, prog_2_method_2_code, 2, (none), 0, 1, [3195, 3194, 7, 1012]),
  (2, ⟨"RaftTown$Net", "loadOf", "(III)I"⟩, prog_4_method_11_code, 4, (some .int), 3, 1, [3199, 3197, 3198, 1011]),
  (2, ⟨"RaftTown$Net", "hang", "(II)I"⟩, prog_4_method_10_code, 7, (some .int), 2, 1, [3203, 3201, 3202, 1011]),
  (2, ⟨"RaftTown$Net", "weigh", "(I)I"⟩, prog_4_method_9_code, 4, (some .int), 1, 1, [3207, 3206, 8, 1011]),
  (10, ⟨"RaftTown$Town", "kinBetween", "(II)I"⟩, prog_12_method_19_code, 6, (some .int), 2, 1, [3212, 3210, 3211, 1002]),
  (10, ⟨"RaftTown$Town", "personsOf", "(I)I"⟩, prog_12_method_17_code, 4, (some .int), 1, 1, [3216, 3214, 3215, 1002]),
  (3, ⟨"RaftTown$Person", "isAmong", "(I)Z"⟩, prog_5_method_6_code, 2, (some .boolean), 1, 1, [3220, 3218, 3219, 1006]),
  (3, ⟨"RaftTown$Person", "isOn", "(I)Z"⟩, prog_5_method_5_code, 2, (some .boolean), 1, 1, [3224, 3222, 3223, 1006]),
  (14, ⟨"java/lang/Integer", "bitCount", "(I)I"⟩, prog_15_method_49_code, 1, (some .int), 1, 0, [3228, 3227, 0, 1015]),
  (0, ⟨"RaftTown$Judge", "namePart", "(LRaftTown$Town;I)V"⟩, prog_2_method_6_code, 3, (none), 2, 1, [3236, 3235, 9, 1012])]
def mm_mths_2 : List mm_Mt := [
  (10, ⟨"RaftTown$Town", "headsOf", "(I)I"⟩, prog_12_method_18_code, 2, (some .int), 1, 1, [4000, 3238, 3239, 1002]),
  (10, ⟨"RaftTown$Town", "waterOf", "(I)I"⟩, prog_12_method_20_code, 4, (some .int), 1, 1, [4004, 4002, 4003, 1002]),
  (10, ⟨"RaftTown$Town", "textOfLaw", "(I)LRaftTown$Text;"⟩, prog_12_method_10_code, 2, (some (.object "RaftTown$Text")), 1, 1, [4009, 4007, 4008, 1002]),
  (1, ⟨"RaftTown$Log", "textOf", "(I)I"⟩, prog_3_method_10_code, 2, (some .int), 1, 1, [4013, 4011, 4012, 1004]),
  (10, ⟨"RaftTown$Town", "textAt", "(I)LRaftTown$Text;"⟩, prog_12_method_9_code, 2, (some (.object "RaftTown$Text")), 1, 1, [4018, 4016, 4017, 1002]),
  (11, ⟨"RaftTown", "isText", "(I)Z"⟩, prog_1_method_52_code, 1, (some .boolean), 1, 0, [4021, 4020, 0, 1001]),
  (0, ⟨"RaftTown$Judge", "comesTo", "(LRaftTown$Text;I)I"⟩, prog_2_method_7_code, 8, (some .int), 2, 1, [4025, 4023, 4024, 1012]),
  (9, ⟨"RaftTown$Text", "endOf", "(I)I"⟩, prog_11_method_8_code, 2, (some .int), 1, 1, [4029, 4027, 4028, 1008]),
  (9, ⟨"RaftTown$Text", "startOf", "(I)I"⟩, prog_11_method_7_code, 2, (some .int), 1, 1, [4035, 4033, 4034, 1008]),
  (0, ⟨"RaftTown$Judge", "push", "(I)V"⟩, prog_2_method_8_code, 2, (none), 1, 1, [4039, 4038, 10, 1012]),
  (0, ⟨"RaftTown$Judge", "pop", "()I"⟩, prog_2_method_9_code, 1, (some .int), 0, 1, [4043, 4042, 11, 1012]),
  (0, ⟨"RaftTown$Judge", "joined", "(III)I"⟩, prog_2_method_10_code, 3, (some .int), 3, 0, [4046, 4045, 0, 1012]),
  (2, ⟨"RaftTown$Net", "countParts", "()I"⟩, prog_4_method_8_code, 4, (some .int), 0, 1, [4051, 4049, 4050, 1011]),
  (11, ⟨"RaftTown", "rope", "(II)I"⟩, prog_1_method_14_code, 4, (some .int), 2, 1, [4055, 4053, 4054, 1001]),
  (11, ⟨"RaftTown", "bears", "(II)I"⟩, prog_1_method_15_code, 3, (some .int), 2, 1, [4061, 4059, 4060, 1001]),
  (11, ⟨"RaftTown", "areWaves", "(I)Z"⟩, prog_1_method_54_code, 1, (some .boolean), 1, 0, [4064, 4063, 0, 1001]),
  (11, ⟨"RaftTown", "parts", "()I"⟩, prog_1_method_16_code, 1, (some .int), 0, 1, [4069, 4067, 4068, 1001]),
  (11, ⟨"RaftTown", "part", "(I)I"⟩, prog_1_method_17_code, 2, (some .int), 1, 1, [4073, 4071, 4072, 1001]),
  (11, ⟨"RaftTown", "worst", "(II)I"⟩, prog_1_method_18_code, 4, (some .int), 2, 1, [4077, 4075, 4076, 1001]),
  (2, ⟨"RaftTown$Net", "countParting", "(III)I"⟩, prog_4_method_13_code, 8, (some .int), 3, 1, [4081, 4079, 4080, 1011]),
  (2, ⟨"RaftTown$Net", "worstOf", "(II)I"⟩, prog_4_method_12_code, 7, (some .int), 2, 1, [4085, 4083, 4084, 1011]),
  (2, ⟨"RaftTown$Net", "partingAt", "(II)I"⟩, prog_4_method_14_code, 6, (some .int), 2, 1, [4090, 4088, 4089, 1011]),
  (11, ⟨"RaftTown", "day", "(II)I"⟩, prog_1_method_19_code, 3, (some .int), 2, 1, [4094, 4092, 4093, 1001]),
  (11, ⟨"RaftTown", "isRain", "(I)Z"⟩, prog_1_method_55_code, 1, (some .boolean), 1, 0, [4097, 4096, 0, 1001]),
  (10, ⟨"RaftTown$Town", "passDay", "(IILRaftTown$Net;)I"⟩, prog_12_method_26_code, 5, (some .int), 3, 1, [4101, 4099, 4100, 1002]),
  (10, ⟨"RaftTown$Town", "partUnder", "(ILRaftTown$Net;)I"⟩, prog_12_method_27_code, 6, (some .int), 2, 1, [4106, 4105, 12, 1002]),
  (2, ⟨"RaftTown$Net", "drop", "(I)V"⟩, prog_4_method_4_code, 2, (none), 1, 1, [4114, 4112, 4113, 1011]),
  (10, ⟨"RaftTown$Town", "catchRain", "(I)V"⟩, prog_12_method_28_code, 4, (none), 1, 1, [4118, 4117, 13, 1002]),
  (10, ⟨"RaftTown$Town", "waterGardens", "()V"⟩, prog_12_method_29_code, 3, (none), 0, 1, [4126, 4125, 14, 1002]),
  (10, ⟨"RaftTown$Town", "drinkAll", "(LRaftTown$Net;)V"⟩, prog_12_method_30_code, 4, (none), 1, 1, [4130, 4129, 15, 1002]),
  (10, ⟨"RaftTown$Town", "drink", "(II)V"⟩, prog_12_method_31_code, 5, (none), 2, 1, [4134, 4133, 16, 1002]),
  (10, ⟨"RaftTown$Town", "fullestOf", "(I)LRaftTown$Raft;"⟩, prog_12_method_32_code, 4, (some (.object "RaftTown$Raft")), 1, 1, [4138, 4137, 17, 1002]),
  (10, ⟨"RaftTown$Town", "lose", "(II)V"⟩, prog_12_method_33_code, 3, (none), 2, 1, [4143, 4142, 18, 1002]),
  (10, ⟨"RaftTown$Town", "ageRopes", "(Z)V"⟩, prog_12_method_34_code, 3, (none), 1, 1, [4147, 4146, 19, 1002]),
  (10, ⟨"RaftTown$Town", "rot", "(LRaftTown$Net;)V"⟩, prog_12_method_35_code, 5, (none), 1, 1, [4151, 4150, 20, 1002]),
  (10, ⟨"RaftTown$Town", "sink", "(ILRaftTown$Net;)V"⟩, prog_12_method_36_code, 7, (none), 2, 1, [4155, 4154, 21, 1002]),
  (5, ⟨"RaftTown$Rope", "isAt", "(I)Z"⟩, prog_7_method_5_code, 2, (some .boolean), 1, 1, [4159, 4157, 4158, 1007]),
  (10, ⟨"RaftTown$Town", "drift", "()V"⟩, prog_12_method_37_code, 3, (none), 0, 1, [4163, 4162, 22, 1002]),
  (6, ⟨"RaftTown$Sea", "drifted", "(I)I"⟩, prog_8_method_6_code, 2, (some .int), 1, 1, [4167, 4165, 4166, 1003]),
  (6, ⟨"RaftTown$Sea", "ledBy", "(II)I"⟩, prog_8_method_5_code, 3, (some .int), 2, 1, [4171, 4170, 23, 1003])]
def mm_mths_3 : List mm_Mt := [
  (6, ⟨"RaftTown$Sea", "stepped", "(III)I"⟩, prog_8_method_4_code, 6, (some .int), 3, 0, [4174, 4173, 0, 1003]),
  (11, ⟨"RaftTown", "days", "(II)I"⟩, prog_1_method_20_code, 10, (some .int), 2, 1, [4179, 4177, 4178, 1001]),
  (11, ⟨"RaftTown", "isSheet", "(I)Z"⟩, prog_1_method_53_code, 1, (some .boolean), 1, 0, [4182, 4181, 0, 1001]),
  (7, ⟨"RaftTown$Sheet", "isMissing", "()Z"⟩, prog_9_method_2_code, 1, (some .boolean), 0, 1, [4186, 4184, 4185, 1009]),
  (7, ⟨"RaftTown$Sheet", "numberOr", "(II)I"⟩, prog_9_method_5_code, 3, (some .int), 2, 1, [4190, 4188, 4189, 1009]),
  (11, ⟨"RaftTown", "lasts", "(I)I"⟩, prog_1_method_21_code, 4, (some .int), 1, 1, [4195, 4193, 4194, 1001]),
  (10, ⟨"RaftTown$Town", "countKind", "(II)I"⟩, prog_12_method_21_code, 5, (some .int), 2, 1, [4200, 4198, 4199, 1002]),
  (11, ⟨"RaftTown", "feed", "(IJ)I"⟩, prog_1_method_22_code, 4, (some .int), 2, 1, [4205, 4203, 4204, 1001]),
  (8, ⟨"RaftTown$Tape", "hasRoom", "(I)Z"⟩, prog_10_method_2_code, 2, (some .boolean), 1, 1, [4209, 4207, 4208, 1010]),
  (8, ⟨"RaftTown$Tape", "append", "(IJ)I"⟩, prog_10_method_3_code, 5, (some .int), 2, 1, [4213, 4211, 4212, 1010]),
  (11, ⟨"RaftTown", "text", "(I)I"⟩, prog_1_method_23_code, 3, (some .int), 1, 1, [4218, 4216, 4217, 1001]),
  (8, ⟨"RaftTown$Tape", "read", "()I"⟩, prog_10_method_4_code, 2, (some .int), 0, 1, [4223, 4221, 4222, 1010]),
  (9, ⟨"RaftTown$Text", "clear", "()V"⟩, prog_11_method_3_code, 1, (none), 0, 1, [4227, 4225, 4226, 1008]),
  (8, ⟨"RaftTown$Tape", "next", "()V"⟩, prog_10_method_13_code, 2, (none), 0, 1, [4231, 4230, 24, 1010]),
  (8, ⟨"RaftTown$Tape", "byteAt", "(I)I"⟩, prog_10_method_14_code, 2, (some .int), 1, 1, [4235, 4234, 25, 1010]),
  (8, ⟨"RaftTown$Tape", "isLetter", "(I)Z"⟩, prog_10_method_18_code, 1, (some .boolean), 1, 0, [4238, 4237, 0, 1010]),
  (8, ⟨"RaftTown$Tape", "nextWord", "()V"⟩, prog_10_method_15_code, 2, (none), 0, 1, [5003, 5002, 26, 1010]),
  (8, ⟨"RaftTown$Tape", "word", "(I)Ljava/lang/String;"⟩, prog_10_method_21_code, 1, (some (.object "java/lang/String")), 1, 0, [5006, 5005, 0, 1010]),
  (8, ⟨"RaftTown$Tape", "standsHere", "(Ljava/lang/String;)Z"⟩, prog_10_method_16_code, 3, (some .boolean), 1, 1, [5026, 5025, 27, 1010]),
  (15, ⟨"java/lang/String", "length", "()I"⟩, prog_18_method_54_code, 1, (some .int), 0, 1, [5030, 5028, 5029, 1016]),
  (15, ⟨"java/lang/String", "coder", "()B"⟩, prog_18_method_152_code, 1, (some .byte), 0, 1, [5034, 5032, 5033, 1016]),
  (15, ⟨"java/lang/String", "charAt", "(I)C"⟩, prog_18_method_56_code, 2, (some .char), 1, 1, [5040, 5038, 5039, 1016]),
  (15, ⟨"java/lang/String", "isLatin1", "()Z"⟩, prog_18_method_154_code, 1, (some .boolean), 0, 1, [5044, 5042, 5043, 1016]),
  (16, ⟨"java/lang/StringLatin1", "charAt", "([BI)C"⟩, prog_19_method_2_code, 2, (some .char), 2, 0, [5047, 5046, 0, 1017]),
  (15, ⟨"java/lang/String", "checkIndex", "(II)V"⟩, prog_18_method_155_code, 2, (none), 2, 0, [5050, 5049, 0, 1016]),
  (17, ⟨"jdk/internal/util/Preconditions", "checkIndex", "(IILjava/util/function/BiFunction;)I"⟩, prog_22_method_11_code, 3, (some .int), 3, 0, [5055, 5054, 0, 1018]),
  (18, ⟨"java/lang/StringUTF16", "charAt", "([BI)C"⟩, prog_20_method_83_code, 2, (some .char), 2, 0, [5058, 5057, 0, 1019]),
  (18, ⟨"java/lang/StringUTF16", "checkIndex", "(I[B)V"⟩, prog_20_method_91_code, 2, (none), 2, 0, [5061, 5060, 0, 1019]),
  (18, ⟨"java/lang/StringUTF16", "length", "([B)I"⟩, prog_20_method_6_code, 1, (some .int), 1, 0, [5064, 5063, 0, 1019]),
  (18, ⟨"java/lang/StringUTF16", "getChar", "([BI)C"⟩, prog_20_method_5_code, 2, (some .char), 2, 0, [5068, 5067, 0, 1019]),
  (8, ⟨"RaftTown$Tape", "isDigit", "(I)Z"⟩, prog_10_method_19_code, 1, (some .boolean), 1, 0, [5077, 5076, 0, 1010]),
  (8, ⟨"RaftTown$Tape", "nextNumber", "()V"⟩, prog_10_method_17_code, 1, (none), 0, 1, [5081, 5080, 28, 1010]),
  (8, ⟨"RaftTown$Tape", "signOf", "(I)I"⟩, prog_10_method_20_code, 1, (some .int), 1, 0, [5084, 5083, 0, 1010]),
  (8, ⟨"RaftTown$Tape", "readClause", "(II)Z"⟩, prog_10_method_5_code, 4, (some .boolean), 2, 1, [5088, 5087, 29, 1010]),
  (8, ⟨"RaftTown$Tape", "pass", "(I)Z"⟩, prog_10_method_6_code, 2, (some .boolean), 1, 1, [5092, 5091, 30, 1010]),
  (8, ⟨"RaftTown$Tape", "readOr", "(I)Z"⟩, prog_10_method_7_code, 4, (some .boolean), 1, 1, [5096, 5095, 31, 1010]),
  (8, ⟨"RaftTown$Tape", "readAnd", "(I)Z"⟩, prog_10_method_8_code, 4, (some .boolean), 1, 1, [5100, 5099, 32, 1010]),
  (8, ⟨"RaftTown$Tape", "readNot", "(I)Z"⟩, prog_10_method_9_code, 3, (some .boolean), 1, 1, [5104, 5103, 33, 1010]),
  (8, ⟨"RaftTown$Tape", "readComparison", "(I)Z"⟩, prog_10_method_10_code, 4, (some .boolean), 1, 1, [5108, 5107, 34, 1010]),
  (8, ⟨"RaftTown$Tape", "readSum", "(I)Z"⟩, prog_10_method_11_code, 5, (some .boolean), 1, 1, [5112, 5111, 35, 1010])]
def mm_mths_4 : List mm_Mt := [
  (8, ⟨"RaftTown$Tape", "readOne", "(I)Z"⟩, prog_10_method_12_code, 2, (some .boolean), 1, 1, [5116, 5115, 36, 1010]),
  (9, ⟨"RaftTown$Text", "addNumber", "(I)V"⟩, prog_11_method_4_code, 2, (none), 1, 1, [5120, 5118, 5119, 1008]),
  (9, ⟨"RaftTown$Text", "addToken", "(I)V"⟩, prog_11_method_5_code, 2, (none), 1, 1, [5124, 5122, 5123, 1008]),
  (9, ⟨"RaftTown$Text", "endClause", "(I)V"⟩, prog_11_method_6_code, 2, (none), 1, 1, [5129, 5127, 5128, 1008]),
  (9, ⟨"RaftTown$Text", "take", "(LRaftTown$Text;)V"⟩, prog_11_method_2_code, 2, (none), 1, 1, [5134, 5132, 5133, 1008]),
  (11, ⟨"RaftTown", "force", "(II)I"⟩, prog_1_method_24_code, 3, (some .int), 2, 1, [5142, 5140, 5141, 1001]),
  (1, ⟨"RaftTown$Log", "addLaw", "(III)I"⟩, prog_3_method_6_code, 5, (some .int), 3, 1, [5146, 5144, 5145, 1004]),
  (11, ⟨"RaftTown", "law", "(I)I"⟩, prog_1_method_25_code, 3, (some .int), 1, 1, [5151, 5149, 5150, 1001]),
  (11, ⟨"RaftTown", "lawAt", "(I)I"⟩, prog_1_method_44_code, 3, (some .int), 1, 1, [5155, 5154, 37, 1001]),
  (11, ⟨"RaftTown", "may", "(II)I"⟩, prog_1_method_26_code, 5, (some .int), 2, 1, [5159, 5157, 5158, 1001]),
  (11, ⟨"RaftTown", "must", "(II)I"⟩, prog_1_method_27_code, 4, (some .int), 2, 1, [5163, 5161, 5162, 1001]),
  (0, ⟨"RaftTown$Judge", "nameRafts", "(LRaftTown$Town;III)V"⟩, prog_2_method_4_code, 5, (none), 4, 1, [5167, 5165, 5166, 1012]),
  (11, ⟨"RaftTown", "speaks", "(I)I"⟩, prog_1_method_28_code, 8, (some .int), 1, 1, [5171, 5169, 5170, 1001]),
  (0, ⟨"RaftTown$Judge", "namePerson", "(LRaftTown$Town;II)V"⟩, prog_2_method_5_code, 4, (none), 3, 1, [5176, 5174, 5175, 1012]),
  (11, ⟨"RaftTown", "events", "(I)I"⟩, prog_1_method_29_code, 2, (some .int), 1, 1, [5184, 5182, 5183, 1001]),
  (1, ⟨"RaftTown$Log", "countKnown", "(I)I"⟩, prog_3_method_8_code, 4, (some .int), 1, 1, [5188, 5186, 5187, 1004]),
  (11, ⟨"RaftTown", "event", "(II)I"⟩, prog_1_method_30_code, 3, (some .int), 2, 1, [5192, 5190, 5191, 1001]),
  (1, ⟨"RaftTown$Log", "detail", "(II)I"⟩, prog_3_method_4_code, 4, (some .int), 2, 1, [5196, 5194, 5195, 1004]),
  (11, ⟨"RaftTown", "lash", "(II)I"⟩, prog_1_method_31_code, 4, (some .int), 2, 1, [5200, 5198, 5199, 1001]),
  (2, ⟨"RaftTown$Net", "fewestLashings", "(II)I"⟩, prog_4_method_21_code, 11, (some .int), 2, 1, [5204, 5202, 5203, 1011]),
  (2, ⟨"RaftTown$Net", "ropesOf", "(I)I"⟩, prog_4_method_20_code, 4, (some .int), 1, 1, [5208, 5207, 38, 1011]),
  (2, ⟨"RaftTown$Net", "doomed", "(I)I"⟩, prog_4_method_18_code, 5, (some .int), 1, 1, [5212, 5211, 39, 1011]),
  (2, ⟨"RaftTown$Net", "doomedOf", "(II)I"⟩, prog_4_method_19_code, 6, (some .int), 2, 1, [5216, 5215, 40, 1011]),
  (2, ⟨"RaftTown$Net", "isBridge", "(II)Z"⟩, prog_4_method_16_code, 4, (some .boolean), 2, 1, [5220, 5219, 41, 1011]),
  (2, ⟨"RaftTown$Net", "bridgesOf", "(I)I"⟩, prog_4_method_17_code, 4, (some .int), 1, 1, [5224, 5223, 42, 1011]),
  (2, ⟨"RaftTown$Net", "holds", "(II)Z"⟩, prog_4_method_15_code, 4, (some .boolean), 2, 1, [5229, 5228, 43, 1011]),
  (11, ⟨"RaftTown", "storm", "(IZ)I"⟩, prog_1_method_32_code, 4, (some .int), 2, 1, [5233, 5231, 5232, 1001]),
  (2, ⟨"RaftTown$Net", "bestCuts", "(I)I"⟩, prog_4_method_24_code, 5, (some .int), 1, 1, [5237, 5235, 5236, 1011]),
  (2, ⟨"RaftTown$Net", "mostKept", "(II)I"⟩, prog_4_method_22_code, 6, (some .int), 2, 1, [6001, 6000, 44, 1011]),
  (2, ⟨"RaftTown$Net", "lostBy", "(III)I"⟩, prog_4_method_23_code, 5, (some .int), 3, 1, [6005, 6003, 6004, 1011]),
  (11, ⟨"RaftTown", "proves", "(III)I"⟩, prog_1_method_33_code, 6, (some .int), 3, 1, [6011, 6009, 6010, 1001]),
  (2, ⟨"RaftTown$Net", "firstUnproved", "(IILRaftTown$Sheet;)I"⟩, prog_4_method_25_code, 7, (some .int), 3, 1, [6016, 6014, 6015, 1011]),
  (11, ⟨"RaftTown", "patch", "(II)I"⟩, prog_1_method_34_code, 4, (some .int), 2, 1, [6021, 6019, 6020, 1001]),
  (11, ⟨"RaftTown", "hasSail", "(I)Z"⟩, prog_1_method_46_code, 2, (some .boolean), 1, 1, [6025, 6024, 45, 1001]),
  (6, ⟨"RaftTown$Sea", "patchSize", "(IIZ)I"⟩, prog_8_method_7_code, 8, (some .int), 3, 1, [6029, 6027, 6028, 1003]),
  (6, ⟨"RaftTown$Sea", "aDayOn", "(J)J"⟩, prog_8_method_9_code, 6, (some .long), 1, 1, [6038, 6037, 46, 1003]),
  (19, ⟨"java/lang/Long", "bitCount", "(J)I"⟩, prog_16_method_50_code, 2, (some .int), 1, 0, [6041, 6040, 0, 1021]),
  (11, ⟨"RaftTown", "tow", "(II)I"⟩, prog_1_method_35_code, 6, (some .int), 2, 1, [6048, 6046, 6047, 1001]),
  (6, ⟨"RaftTown$Sea", "soonest", "(IIZ)I"⟩, prog_8_method_8_code, 9, (some .int), 3, 1, [6052, 6050, 6051, 1003]),
  (11, ⟨"RaftTown", "sheet", "(III)I"⟩, prog_1_method_36_code, 4, (some .int), 3, 1, [6056, 6054, 6055, 1001])]
def mm_mths_5 : List mm_Mt := [
  (7, ⟨"RaftTown$Sheet", "rule", "(II)I"⟩, prog_9_method_3_code, 4, (some .int), 2, 1, [6060, 6058, 6059, 1009]),
  (11, ⟨"RaftTown", "put", "(III)I"⟩, prog_1_method_37_code, 5, (some .int), 3, 1, [6064, 6062, 6063, 1001]),
  (7, ⟨"RaftTown$Sheet", "write", "(II)V"⟩, prog_9_method_4_code, 3, (none), 2, 1, [6068, 6066, 6067, 1009]),
  (11, ⟨"RaftTown", "copy", "(IIIII)I"⟩, prog_1_method_38_code, 8, (some .int), 5, 1, [6073, 6071, 6072, 1001]),
  (7, ⟨"RaftTown$Sheet", "hasRun", "(II)Z"⟩, prog_9_method_6_code, 3, (some .boolean), 2, 1, [6077, 6075, 6076, 1009]),
  (11, ⟨"RaftTown", "image", "()I"⟩, prog_1_method_39_code, 1, (some .int), 0, 1, [6082, 6080, 6081, 1001]),
  (10, ⟨"RaftTown$Town", "take", "(LRaftTown$Town;)V"⟩, prog_12_method_2_code, 3, (none), 1, 1, [6086, 6084, 6085, 1002]),
  (6, ⟨"RaftTown$Sea", "take", "(LRaftTown$Sea;)V"⟩, prog_8_method_2_code, 2, (none), 1, 1, [6090, 6088, 6089, 1003]),
  (4, ⟨"RaftTown$Raft", "take", "(LRaftTown$Raft;)V"⟩, prog_6_method_2_code, 2, (none), 1, 1, [6095, 6093, 6094, 1005]),
  (3, ⟨"RaftTown$Person", "take", "(LRaftTown$Person;)V"⟩, prog_5_method_2_code, 2, (none), 1, 1, [6100, 6098, 6099, 1006]),
  (5, ⟨"RaftTown$Rope", "take", "(LRaftTown$Rope;)V"⟩, prog_7_method_2_code, 2, (none), 1, 1, [6105, 6103, 6104, 1007]),
  (1, ⟨"RaftTown$Log", "take", "(LRaftTown$Log;)V"⟩, prog_3_method_2_code, 2, (none), 1, 1, [6110, 6108, 6109, 1004]),
  (11, ⟨"RaftTown", "restore", "()I"⟩, prog_1_method_40_code, 1, (some .int), 0, 1, [6116, 6114, 6115, 1001]),
  (11, ⟨"RaftTown", "count", "(I)I"⟩, prog_1_method_41_code, 2, (some .int), 1, 1, [6120, 6118, 6119, 1001]),
  (10, ⟨"RaftTown$Town", "countAfloat", "()I"⟩, prog_12_method_22_code, 3, (some .int), 0, 1, [6124, 6122, 6123, 1002]),
  (10, ⟨"RaftTown$Town", "countAlive", "()I"⟩, prog_12_method_23_code, 3, (some .int), 0, 1, [6128, 6126, 6127, 1002]),
  (10, ⟨"RaftTown$Town", "countRopes", "()I"⟩, prog_12_method_24_code, 3, (some .int), 0, 1, [6132, 6130, 6131, 1002]),
  (10, ⟨"RaftTown$Town", "countCasks", "()I"⟩, prog_12_method_25_code, 3, (some .int), 0, 1, [6136, 6134, 6135, 1002]),
  (12, ⟨"RaftTownModel", "<init>", "()V"⟩, prog_14_method_1_code, 1, (none), 0, 2, [6141, 6140, 0, 1013]),
  (12, ⟨"RaftTownModel", "stream", "(III)I"⟩, prog_14_method_12_code, 4, (some .int), 3, 1, [6227, 6225, 6226, 1013]),
  (12, ⟨"RaftTownModel", "in", "(III)Z"⟩, prog_14_method_3_code, 3, (some .boolean), 3, 0, [6230, 6229, 0, 1013]),
  (12, ⟨"RaftTownModel", "finds", "(I)I"⟩, prog_14_method_4_code, 2, (some .int), 1, 1, [6235, 6234, 47, 1013]),
  (12, ⟨"RaftTownModel", "raft", "(IIII)I"⟩, prog_14_method_13_code, 6, (some .int), 4, 1, [6239, 6237, 6238, 1013]),
  (12, ⟨"RaftTownModel", "makes", "(III)V"⟩, prog_14_method_10_code, 4, (none), 3, 1, [7004, 7003, 48, 1013]),
  (12, ⟨"RaftTownModel", "as", "(II)I"⟩, prog_14_method_14_code, 4, (some .int), 2, 1, [7008, 7006, 7007, 1013]),
  (12, ⟨"RaftTownModel", "isFloat", "(I)Z"⟩, prog_14_method_5_code, 2, (some .boolean), 1, 1, [7012, 7011, 49, 1013]),
  (12, ⟨"RaftTownModel", "own", "(II)I"⟩, prog_14_method_9_code, 3, (some .int), 2, 1, [7016, 7015, 50, 1013]),
  (12, ⟨"RaftTownModel", "raftIs", "(II)I"⟩, prog_14_method_17_code, 3, (some .int), 2, 1, [7021, 7019, 7020, 1013]),
  (12, ⟨"RaftTownModel", "weightOf", "(I)I"⟩, prog_14_method_16_code, 4, (some .int), 1, 1, [7025, 7024, 51, 1013]),
  (12, ⟨"RaftTownModel", "isOn", "(II)Z"⟩, prog_14_method_23_code, 3, (some .boolean), 2, 1, [7029, 7028, 52, 1013]),
  (12, ⟨"RaftTownModel", "isLost", "(I)Z"⟩, prog_14_method_22_code, 2, (some .boolean), 1, 1, [7033, 7032, 53, 1013]),
  (12, ⟨"RaftTownModel", "ofPerson", "(II)I"⟩, prog_14_method_21_code, 3, (some .int), 2, 1, [7037, 7036, 54, 1013]),
  (12, ⟨"RaftTownModel", "areaOf", "(I)I"⟩, prog_14_method_15_code, 3, (some .int), 1, 1, [7041, 7040, 55, 1013]),
  (12, ⟨"RaftTownModel", "allRopes", "()I"⟩, prog_14_method_32_code, 3, (some .int), 0, 1, [7045, 7044, 56, 1013]),
  (12, ⟨"RaftTownModel", "isLaid", "(I)Z"⟩, prog_14_method_31_code, 2, (some .boolean), 1, 1, [7049, 7048, 57, 1013]),
  (12, ⟨"RaftTownModel", "ofRope", "(II)I"⟩, prog_14_method_30_code, 3, (some .int), 2, 1, [7053, 7052, 58, 1013]),
  (12, ⟨"RaftTownModel", "partOf", "(II)I"⟩, prog_14_method_33_code, 8, (some .int), 2, 1, [7057, 7056, 59, 1013]),
  (12, ⟨"RaftTownModel", "leastOf", "(I)I"⟩, prog_14_method_34_code, 2, (some .int), 1, 0, [7060, 7059, 0, 1013]),
  (12, ⟨"RaftTownModel", "load", "(IIZ)I"⟩, prog_14_method_19_code, 5, (some .int), 3, 1, [7064, 7062, 7063, 1013]),
  (12, ⟨"RaftTownModel", "isSunk", "(I)Z"⟩, prog_14_method_11_code, 2, (some .boolean), 1, 1, [7068, 7067, 60, 1013])]
def mm_mths_6 : List mm_Mt := [
  (12, ⟨"RaftTownModel", "roomOf", "(I)I"⟩, prog_14_method_18_code, 2, (some .int), 1, 1, [7073, 7072, 61, 1013]),
  (12, ⟨"RaftTownModel", "trade", "(IIIZ)I"⟩, prog_14_method_20_code, 6, (some .int), 4, 1, [7077, 7075, 7076, 1013]),
  (12, ⟨"RaftTownModel", "person", "(IIII)I"⟩, prog_14_method_24_code, 7, (some .int), 4, 1, [7084, 7082, 7083, 1013]),
  (12, ⟨"RaftTownModel", "wed", "(II)I"⟩, prog_14_method_25_code, 3, (some .int), 2, 1, [7088, 7086, 7087, 1013]),
  (12, ⟨"RaftTownModel", "isPerson", "(I)Z"⟩, prog_14_method_6_code, 2, (some .boolean), 1, 1, [7092, 7091, 62, 1013]),
  (12, ⟨"RaftTownModel", "move", "(II)I"⟩, prog_14_method_26_code, 4, (some .int), 2, 1, [7097, 7095, 7096, 1013]),
  (12, ⟨"RaftTownModel", "personIs", "(II)I"⟩, prog_14_method_29_code, 5, (some .int), 2, 1, [7101, 7099, 7100, 1013]),
  (12, ⟨"RaftTownModel", "areKin", "(II)Z"⟩, prog_14_method_28_code, 3, (some .boolean), 2, 1, [7105, 7104, 63, 1013]),
  (12, ⟨"RaftTownModel", "isParent", "(II)Z"⟩, prog_14_method_27_code, 3, (some .boolean), 2, 1, [7109, 7108, 64, 1013]),
  (12, ⟨"RaftTownModel", "parts", "()I"⟩, prog_14_method_37_code, 1, (some .int), 0, 1, [7113, 7111, 7112, 1013]),
  (12, ⟨"RaftTownModel", "partMany", "()I"⟩, prog_14_method_36_code, 4, (some .int), 0, 1, [7117, 7116, 65, 1013]),
  (12, ⟨"RaftTownModel", "part", "(I)I"⟩, prog_14_method_38_code, 2, (some .int), 1, 1, [7121, 7119, 7120, 1013]),
  (12, ⟨"RaftTownModel", "tie", "(IIIII)I"⟩, prog_14_method_40_code, 9, (some .int), 5, 1, [7125, 7123, 7124, 1013]),
  (12, ⟨"RaftTownModel", "hasRoom", "(II)Z"⟩, prog_14_method_39_code, 5, (some .boolean), 2, 1, [7129, 7128, 66, 1013]),
  (12, ⟨"RaftTownModel", "tellsOn", "(I)V"⟩, prog_14_method_51_code, 3, (none), 1, 1, [7133, 7132, 67, 1013]),
  (12, ⟨"RaftTownModel", "happens", "(III)V"⟩, prog_14_method_50_code, 5, (none), 3, 1, [7137, 7136, 68, 1013]),
  (12, ⟨"RaftTownModel", "rope", "(II)I"⟩, prog_14_method_47_code, 3, (some .int), 2, 1, [7141, 7139, 7140, 1013]),
  (12, ⟨"RaftTownModel", "isRope", "(I)Z"⟩, prog_14_method_7_code, 2, (some .boolean), 1, 1, [7145, 7144, 69, 1013]),
  (12, ⟨"RaftTownModel", "strengthOf", "(I)I"⟩, prog_14_method_41_code, 3, (some .int), 1, 1, [7149, 7148, 70, 1013]),
  (12, ⟨"RaftTownModel", "weighs", "()V"⟩, prog_14_method_43_code, 2, (none), 0, 1, [7153, 7152, 71, 1013]),
  (12, ⟨"RaftTownModel", "hangOf", "(II)I"⟩, prog_14_method_44_code, 8, (some .int), 2, 1, [7157, 7156, 72, 1013]),
  (12, ⟨"RaftTownModel", "weightOfAll", "(I)I"⟩, prog_14_method_42_code, 4, (some .int), 1, 1, [7161, 7160, 73, 1013]),
  (12, ⟨"RaftTownModel", "bears", "(II)I"⟩, prog_14_method_48_code, 3, (some .int), 2, 1, [7165, 7163, 7164, 1013]),
  (12, ⟨"RaftTownModel", "isWaves", "(I)Z"⟩, prog_14_method_8_code, 1, (some .boolean), 1, 0, [7168, 7167, 0, 1013]),
  (12, ⟨"RaftTownModel", "loadOf", "(III)I"⟩, prog_14_method_45_code, 4, (some .int), 3, 1, [7172, 7171, 74, 1013]),
  (12, ⟨"RaftTownModel", "worst", "(II)I"⟩, prog_14_method_49_code, 6, (some .int), 2, 1, [7176, 7174, 7175, 1013]),
  (12, ⟨"RaftTownModel", "partsFirst", "(II)I"⟩, prog_14_method_46_code, 7, (some .int), 2, 1, [7180, 7179, 75, 1013]),
  (12, ⟨"RaftTownModel", "events", "(I)I"⟩, prog_14_method_52_code, 4, (some .int), 1, 1, [7184, 7182, 7183, 1013]),
  (12, ⟨"RaftTownModel", "event", "(II)I"⟩, prog_14_method_53_code, 3, (some .int), 2, 1, [7188, 7186, 7187, 1013]),
  (12, ⟨"RaftTownModel", "day", "(II)I"⟩, prog_14_method_65_code, 3, (some .int), 2, 1, [7192, 7190, 7191, 1013]),
  (12, ⟨"RaftTownModel", "passes", "(II)I"⟩, prog_14_method_64_code, 4, (some .int), 2, 1, [7196, 7195, 76, 1013]),
  (12, ⟨"RaftTownModel", "partsAll", "(I)I"⟩, prog_14_method_55_code, 5, (some .int), 1, 1, [7200, 7199, 77, 1013]),
  (12, ⟨"RaftTownModel", "rains", "(I)V"⟩, prog_14_method_56_code, 4, (none), 1, 1, [7204, 7203, 78, 1013]),
  (12, ⟨"RaftTownModel", "drinks", "(I)Z"⟩, prog_14_method_57_code, 2, (some .boolean), 1, 1, [7208, 7207, 79, 1013]),
  (12, ⟨"RaftTownModel", "allDrink", "()V"⟩, prog_14_method_58_code, 6, (none), 0, 1, [7212, 7211, 80, 1013]),
  (12, ⟨"RaftTownModel", "loses", "(II)V"⟩, prog_14_method_54_code, 3, (none), 2, 1, [7216, 7215, 81, 1013]),
  (12, ⟨"RaftTownModel", "ropesAge", "(I)V"⟩, prog_14_method_59_code, 3, (none), 1, 1, [7220, 7219, 82, 1013]),
  (12, ⟨"RaftTownModel", "rots", "()V"⟩, prog_14_method_61_code, 2, (none), 0, 1, [7224, 7223, 83, 1013]),
  (12, ⟨"RaftTownModel", "sinks", "(I)V"⟩, prog_14_method_60_code, 5, (none), 1, 1, [7228, 7227, 84, 1013]),
  (12, ⟨"RaftTownModel", "drifts", "()V"⟩, prog_14_method_63_code, 2, (none), 0, 1, [7232, 7231, 85, 1013])]
def mm_mths_7 : List mm_Mt := [
  (12, ⟨"RaftTownModel", "leads", "(II)I"⟩, prog_14_method_62_code, 5, (some .int), 2, 1, [7236, 7235, 86, 1013]),
  (12, ⟨"RaftTownModel", "days", "(II)I"⟩, prog_14_method_66_code, 8, (some .int), 2, 1, [8000, 7238, 7239, 1013]),
  (12, ⟨"RaftTownModel", "isSheet", "(I)Z"⟩, prog_14_method_107_code, 1, (some .boolean), 1, 0, [8003, 8002, 0, 1013]),
  (12, ⟨"RaftTownModel", "lasts", "(I)I"⟩, prog_14_method_69_code, 5, (some .int), 1, 1, [8007, 8005, 8006, 1013]),
  (12, ⟨"RaftTownModel", "headsOf", "(I)I"⟩, prog_14_method_67_code, 4, (some .int), 1, 1, [8011, 8010, 87, 1013]),
  (12, ⟨"RaftTownModel", "waterOf", "(I)I"⟩, prog_14_method_68_code, 4, (some .int), 1, 1, [8015, 8014, 88, 1013]),
  (12, ⟨"RaftTownModel", "feed", "(IJ)I"⟩, prog_14_method_70_code, 5, (some .int), 2, 1, [8019, 8017, 8018, 1013]),
  (12, ⟨"RaftTownModel", "text", "(I)I"⟩, prog_14_method_84_code, 4, (some .int), 1, 1, [8023, 8021, 8022, 1013]),
  (12, ⟨"RaftTownModel", "reads", "()Z"⟩, prog_14_method_83_code, 2, (some .boolean), 0, 1, [8027, 8026, 89, 1013]),
  (12, ⟨"RaftTownModel", "looks", "()V"⟩, prog_14_method_76_code, 2, (none), 0, 1, [8031, 8030, 90, 1013]),
  (12, ⟨"RaftTownModel", "byteAt", "(I)I"⟩, prog_14_method_71_code, 2, (some .int), 1, 1, [8035, 8034, 91, 1013]),
  (12, ⟨"RaftTownModel", "isLetter", "(I)Z"⟩, prog_14_method_72_code, 1, (some .boolean), 1, 0, [8038, 8037, 0, 1013]),
  (12, ⟨"RaftTownModel", "wordOf", "()I"⟩, prog_14_method_75_code, 4, (some .int), 0, 1, [8042, 8041, 92, 1013]),
  (12, ⟨"RaftTownModel", "isDigit", "(I)Z"⟩, prog_14_method_73_code, 1, (some .boolean), 1, 0, [8045, 8044, 0, 1013]),
  (12, ⟨"RaftTownModel", "isSign", "(I)Z"⟩, prog_14_method_74_code, 1, (some .boolean), 1, 0, [8048, 8047, 0, 1013]),
  (12, ⟨"RaftTownModel", "readsE", "(I)Z"⟩, prog_14_method_82_code, 5, (some .boolean), 1, 1, [8052, 8051, 93, 1013]),
  (12, ⟨"RaftTownModel", "waitsOf", "(I)I"⟩, prog_14_method_80_code, 4, (some .int), 1, 1, [8056, 8055, 94, 1013]),
  (12, ⟨"RaftTownModel", "lays", "(I)V"⟩, prog_14_method_78_code, 2, (none), 1, 1, [8060, 8059, 95, 1013]),
  (12, ⟨"RaftTownModel", "settles", "(I)V"⟩, prog_14_method_79_code, 2, (none), 1, 1, [8064, 8063, 96, 1013]),
  (12, ⟨"RaftTownModel", "rankOf", "(I)I"⟩, prog_14_method_77_code, 1, (some .int), 1, 0, [8067, 8066, 0, 1013]),
  (12, ⟨"RaftTownModel", "isTested", "()Z"⟩, prog_14_method_81_code, 2, (some .boolean), 0, 1, [8071, 8070, 97, 1013]),
  (12, ⟨"RaftTownModel", "force", "(II)I"⟩, prog_14_method_87_code, 5, (some .int), 2, 1, [8075, 8073, 8074, 1013]),
  (12, ⟨"RaftTownModel", "law", "(I)I"⟩, prog_14_method_89_code, 3, (some .int), 1, 1, [8079, 8077, 8078, 1013]),
  (12, ⟨"RaftTownModel", "lawOf", "(I)I"⟩, prog_14_method_88_code, 4, (some .int), 1, 1, [8083, 8082, 98, 1013]),
  (12, ⟨"RaftTownModel", "cut", "(I)I"⟩, prog_14_method_93_code, 4, (some .int), 1, 1, [8087, 8085, 8086, 1013]),
  (12, ⟨"RaftTownModel", "cutOf", "(IIII)I"⟩, prog_14_method_92_code, 5, (some .int), 4, 1, [8091, 8090, 99, 1013]),
  (12, ⟨"RaftTownModel", "namesOf", "(I)V"⟩, prog_14_method_90_code, 3, (none), 1, 1, [8095, 8094, 100, 1013]),
  (12, ⟨"RaftTownModel", "kinOn", "(II)I"⟩, prog_14_method_91_code, 6, (some .int), 2, 1, [8099, 8098, 101, 1013]),
  (12, ⟨"RaftTownModel", "worth", "(II)I"⟩, prog_14_method_86_code, 7, (some .int), 2, 1, [8103, 8102, 102, 1013]),
  (12, ⟨"RaftTownModel", "done", "(III)I"⟩, prog_14_method_85_code, 3, (some .int), 3, 0, [8106, 8105, 0, 1013]),
  (12, ⟨"RaftTownModel", "may", "(II)I"⟩, prog_14_method_94_code, 5, (some .int), 2, 1, [8111, 8109, 8110, 1013]),
  (12, ⟨"RaftTownModel", "must", "(II)I"⟩, prog_14_method_95_code, 4, (some .int), 2, 1, [8115, 8113, 8114, 1013]),
  (12, ⟨"RaftTownModel", "speaks", "(I)I"⟩, prog_14_method_96_code, 8, (some .int), 1, 1, [8119, 8117, 8118, 1013]),
  (12, ⟨"RaftTownModel", "lash", "(II)I"⟩, prog_14_method_98_code, 7, (some .int), 2, 1, [8123, 8121, 8122, 1013]),
  (12, ⟨"RaftTownModel", "ones", "(I)I"⟩, prog_14_method_35_code, 3, (some .int), 1, 0, [8126, 8125, 0, 1013]),
  (12, ⟨"RaftTownModel", "holds", "(II)Z"⟩, prog_14_method_97_code, 3, (some .boolean), 2, 1, [8130, 8129, 103, 1013]),
  (12, ⟨"RaftTownModel", "storm", "(IZ)I"⟩, prog_14_method_100_code, 8, (some .int), 2, 1, [8134, 8132, 8133, 1013]),
  (12, ⟨"RaftTownModel", "lostBy", "(II)I"⟩, prog_14_method_99_code, 6, (some .int), 2, 1, [8138, 8137, 104, 1013]),
  (12, ⟨"RaftTownModel", "proves", "(III)I"⟩, prog_14_method_101_code, 8, (some .int), 3, 1, [8142, 8140, 8141, 1013]),
  (12, ⟨"RaftTownModel", "patch", "(II)I"⟩, prog_14_method_105_code, 7, (some .int), 2, 1, [8146, 8144, 8145, 1013])]
def mm_mths_8 : List mm_Mt := [
  (12, ⟨"RaftTownModel", "hasSail", "(I)Z"⟩, prog_14_method_102_code, 3, (some .boolean), 1, 1, [8150, 8149, 105, 1013]),
  (12, ⟨"RaftTownModel", "areNext", "(II)Z"⟩, prog_14_method_103_code, 4, (some .boolean), 2, 0, [8153, 8152, 0, 1013]),
  (12, ⟨"RaftTownModel", "copies", "()V"⟩, prog_14_method_104_code, 2, (none), 0, 1, [8157, 8156, 106, 1013]),
  (12, ⟨"RaftTownModel", "tow", "(II)I"⟩, prog_14_method_106_code, 8, (some .int), 2, 1, [8161, 8159, 8160, 1013]),
  (12, ⟨"RaftTownModel", "sheet", "(III)I"⟩, prog_14_method_108_code, 5, (some .int), 3, 1, [8165, 8163, 8164, 1013]),
  (12, ⟨"RaftTownModel", "put", "(III)I"⟩, prog_14_method_109_code, 4, (some .int), 3, 1, [8169, 8167, 8168, 1013]),
  (12, ⟨"RaftTownModel", "copy", "(IIIII)I"⟩, prog_14_method_110_code, 7, (some .int), 5, 1, [8173, 8171, 8172, 1013]),
  (12, ⟨"RaftTownModel", "image", "()I"⟩, prog_14_method_111_code, 2, (some .int), 0, 1, [8177, 8175, 8176, 1013]),
  (12, ⟨"RaftTownModel", "restore", "()I"⟩, prog_14_method_112_code, 2, (some .int), 0, 1, [8181, 8179, 8180, 1013]),
  (12, ⟨"RaftTownModel", "count", "(I)I"⟩, prog_14_method_113_code, 4, (some .int), 1, 1, [8185, 8183, 8184, 1013])]
def mm_mths : List mm_Mt := mm_mths_0 ++ (mm_mths_1 ++ (mm_mths_2 ++ (mm_mths_3 ++ (mm_mths_4 ++ (mm_mths_5 ++ (mm_mths_6 ++ (mm_mths_7 ++ (mm_mths_8))))))))
/-- what a class's pool says, as far as it is used: entry, kind, two numbers, a value, the word's place -/
abbrev mm_Pe : Type := Nat × Nat × Nat × Nat × Int × Nat
def mm_pool (o : Nat) : List mm_Pe := match o with
  | 0 => [(3, 8, 0, 0, 0, 2135), (9, 0, 0, 0, 0, 2136), (15, 0, 0, 1, 0, 2137), (18, 2, 31, 0, 0, 3191), (24, 2, 70, 0, 0, 3192), (27, 1, 2, 4, 0, 2113), (33, 2, 71, 0, 0, 3196), (37, 2, 32, 0, 0, 3208), (43, 1, 5, 5, 0, 1200), (46, 1, 5, 0, 0, 1187), (49, 1, 5, 1, 0, 1192), (52, 2, 74, 0, 0, 3209), (56, 2, 34, 0, 0, 3232), (60, 2, 79, 0, 0, 3233), (64, 2, 53, 0, 0, 5177), (67, 2, 75, 0, 0, 5178), (70, 2, 78, 0, 0, 5179), (75, 2, 30, 0, 0, 5180), (79, 1, 3, 1, 0, 1149), (84, 2, 80, 0, 0, 3237), (87, 2, 81, 0, 0, 4001), (90, 1, 10, 9, 0, 2020), (93, 0, 0, 2, 0, 2138), (96, 2, 87, 0, 0, 4026), (101, 2, 88, 0, 0, 4032), (104, 1, 9, 1, 0, 1234), (107, 2, 89, 0, 0, 4036), (111, 2, 90, 0, 0, 4040), (114, 2, 91, 0, 0, 4044)]
  | 1 => [(3, 8, 0, 0, 0, 1065), (9, 0, 1, 0, 0, 1066), (15, 0, 1, 1, 0, 1067), (18, 0, 1, 2, 0, 1068), (21, 0, 1, 3, 0, 1069), (24, 0, 1, 6, 0, 1073), (27, 0, 1, 7, 0, 1074), (30, 9, 0, 0, 0, 6111), (36, 0, 1, 4, 0, 1070), (40, 0, 1, 5, 0, 1071), (43, 0, 1, 8, 0, 1075), (46, 2, 63, 0, 0, 3163), (50, 2, 62, 0, 0, 5147), (54, 3, 14, 0, 0, 4014)]
  | 2 => [(3, 8, 0, 0, 0, 2107), (9, 0, 2, 0, 0, 2108), (15, 0, 2, 1, 0, 2109), (18, 0, 2, 2, 0, 2110), (21, 0, 2, 3, 0, 2111), (24, 0, 2, 5, 0, 2116), (28, 2, 20, 0, 0, 3002), (34, 2, 28, 0, 0, 3003), (40, 2, 23, 0, 0, 3013), (44, 1, 4, 6, 0, 1121), (48, 2, 30, 0, 0, 3014), (52, 1, 3, 6, 0, 1162), (57, 1, 3, 0, 0, 1145), (60, 3, 14, 0, 0, 3018), (64, 0, 2, 4, 0, 2112), (67, 2, 31, 0, 0, 3019), (71, 1, 5, 0, 0, 1186), (76, 1, 5, 1, 0, 1191), (79, 2, 32, 0, 0, 3023), (81, 2, 33, 0, 0, 3030), (85, 14, 0, 0, 0, 3034), (91, 1, 5, 7, 0, 1206), (94, 2, 35, 0, 0, 3043), (97, 2, 34, 0, 0, 3080), (100, 3, 44, 0, 0, 3081), (104, 2, 73, 0, 0, 3204), (107, 2, 72, 0, 0, 3200), (110, 2, 71, 0, 0, 4086), (114, 2, 100, 0, 0, 4082), (117, 2, 183, 0, 0, 5217), (120, 2, 182, 0, 0, 5213), (123, 2, 180, 0, 0, 5205), (126, 2, 181, 0, 0, 5209), (129, 2, 184, 0, 0, 5221), (132, 2, 78, 0, 0, 5225), (137, 2, 185, 0, 0, 5226), (140, 2, 99, 0, 0, 6006), (143, 2, 188, 0, 0, 5238), (146, 2, 189, 0, 0, 6002), (149, 2, 124, 0, 0, 6017)]
  | 3 => [(1, 8, 0, 0, 0, 1143), (7, 0, 3, 6, 0, 1161), (13, 0, 3, 0, 0, 1144), (17, 0, 3, 1, 0, 1148), (20, 0, 3, 2, 0, 1151), (23, 0, 3, 3, 0, 1153), (26, 2, 48, 0, 0, 6101), (30, 0, 3, 4, 0, 1155), (33, 0, 3, 5, 0, 1158)]
  | 4 => [(3, 8, 0, 0, 0, 1102), (9, 0, 4, 0, 0, 1103), (15, 0, 4, 1, 0, 1106), (18, 0, 4, 2, 0, 1109), (21, 0, 4, 3, 0, 1112), (24, 2, 21, 0, 0, 6096), (28, 0, 4, 4, 0, 1114), (31, 0, 4, 5, 0, 1117), (34, 0, 4, 6, 0, 1120), (38, 3, 18, 0, 0, 2226), (42, 11, 0, 0, 0, 2227), (46, 11, 1, 0, 0, 3011), (49, 2, 29, 0, 0, 3007), (53, 2, 41, 0, 0, 3067)]
  | 5 => [(1, 8, 0, 0, 0, 1184), (7, 0, 5, 0, 0, 1185), (13, 0, 5, 2, 0, 1194), (16, 0, 5, 1, 0, 1190), (19, 0, 5, 3, 0, 1196), (22, 0, 5, 4, 0, 1198), (25, 2, 61, 0, 0, 6106), (29, 0, 5, 5, 0, 1199), (32, 0, 5, 6, 0, 1203), (35, 0, 5, 7, 0, 1205), (39, 13, 0, 0, 0, 3027)]
  | 6 => [(3, 8, 0, 0, 0, 1041), (9, 0, 6, 0, 0, 1042), (15, 0, 6, 1, 0, 1043), (18, 0, 6, 2, 0, 1044), (22, 9, 0, 0, 0, 6091), (28, 3, 13, 0, 0, 2191), (32, 3, 14, 0, 0, 4175), (36, 2, 120, 0, 0, 4172), (40, 2, 119, 0, 0, 4168), (44, 2, 118, 0, 0, 6030), (48, 11, 7, 0, 0, 6031), (51, 11, 8, 0, 0, 6033), (54, 2, 195, 0, 0, 6035), (58, 2, 196, 0, 0, 6039)]
  | 7 => [(3, 8, 0, 0, 0, 2057), (9, 0, 7, 2, 0, 2062), (15, 0, 7, 0, 0, 2058), (19, 0, 7, 1, 0, 2060), (22, 3, 14, 0, 0, 4191), (26, 6, 0, 0, 65535, 6069)]
  | 8 => [(3, 8, 0, 0, 0, 2076), (9, 0, 8, 0, 0, 2079), (15, 4, 9, 1226, 1008, 2077), (17, 3, 7, 0, 0, 2078), (18, 0, 8, 2, 0, 2081), (22, 0, 8, 1, 0, 2080), (26, 7, 0, 0, 255, 4214), (28, 0, 8, 3, 0, 2083), (31, 2, 132, 0, 0, 4224), (34, 2, 133, 0, 0, 4228), (37, 2, 153, 0, 0, 5085), (41, 0, 8, 4, 0, 2084), (44, 0, 8, 5, 0, 2085), (47, 2, 154, 0, 0, 5089), (51, 2, 155, 0, 0, 5093), (54, 2, 163, 0, 0, 5126), (58, 2, 156, 0, 0, 5097), (61, 2, 162, 0, 0, 5121), (64, 2, 157, 0, 0, 5101), (67, 2, 158, 0, 0, 5105), (70, 2, 159, 0, 0, 5109), (73, 2, 160, 0, 0, 5113), (76, 0, 8, 6, 0, 2086), (79, 2, 161, 0, 0, 5117), (82, 2, 134, 0, 0, 4232), (86, 2, 135, 0, 0, 4236), (89, 2, 136, 0, 0, 5000), (92, 2, 150, 0, 0, 5075), (95, 2, 151, 0, 0, 5078), (98, 2, 152, 0, 0, 5082), (101, 2, 137, 0, 0, 5004), (105, 2, 138, 0, 0, 5023), (109, 2, 139, 0, 0, 5027), (114, 2, 141, 0, 0, 5037), (118, 3, 14, 0, 0, 4239), (122, 12, 5, 0, 0, 5007), (124, 12, 6, 0, 0, 5008), (126, 12, 7, 0, 0, 5009), (128, 12, 8, 0, 0, 5010), (130, 12, 9, 0, 0, 5011), (132, 12, 10, 0, 0, 5012), (134, 12, 11, 0, 0, 5013), (136, 12, 12, 0, 0, 5014), (138, 12, 13, 0, 0, 5015), (140, 12, 14, 0, 0, 5016), (142, 12, 15, 0, 0, 5017), (144, 12, 16, 0, 0, 5018), (146, 12, 17, 0, 0, 5019), (148, 12, 18, 0, 0, 5020), (150, 12, 19, 0, 0, 5021), (152, 12, 20, 0, 0, 5022)]
  | 9 => [(3, 8, 0, 0, 0, 1230), (9, 0, 9, 1, 0, 1233), (15, 0, 9, 2, 0, 1235), (18, 0, 9, 0, 0, 1231), (22, 0, 9, 3, 0, 1236), (26, 9, 0, 0, 0, 5135), (32, 2, 161, 0, 0, 5125), (36, 3, 14, 0, 0, 4030), (40, 14, 0, 0, 0, 4031)]
  | 10 => [(3, 8, 0, 0, 0, 1035), (9, 4, 6, 1037, 1003, 1036), (11, 3, 2, 0, 0, 1038), (12, 0, 10, 0, 0, 2006), (18, 4, 4, 1098, 1005, 1054), (20, 0, 10, 1, 0, 2008), (24, 4, 3, 1139, 1006, 1056), (26, 0, 10, 3, 0, 2011), (30, 4, 5, 1180, 1007, 1058), (32, 0, 10, 5, 0, 2014), (36, 4, 1, 1061, 1004, 1060), (38, 3, 3, 0, 0, 1062), (39, 0, 10, 7, 0, 2016), (43, 4, 9, 1226, 1008, 1096), (45, 0, 10, 8, 0, 2018), (49, 3, 4, 0, 0, 1099), (50, 3, 5, 0, 0, 1140), (51, 3, 6, 0, 0, 1181), (52, 3, 7, 0, 0, 1227), (53, 2, 207, 0, 0, 6087), (57, 2, 208, 0, 0, 6092), (60, 0, 10, 2, 0, 2009), (64, 2, 209, 0, 0, 6097), (67, 0, 10, 4, 0, 2012), (70, 2, 210, 0, 0, 6102), (73, 0, 10, 6, 0, 2015), (76, 2, 211, 0, 0, 6107), (79, 2, 164, 0, 0, 6112), (82, 0, 10, 9, 0, 2019), (85, 0, 10, 10, 0, 2022), (88, 0, 10, 11, 0, 2024), (91, 3, 14, 0, 0, 2208), (95, 3, 85, 0, 0, 4019), (99, 2, 83, 0, 0, 4010), (103, 2, 84, 0, 0, 4015), (107, 2, 20, 0, 0, 2204), (111, 2, 21, 0, 0, 2209), (115, 2, 30, 0, 0, 3099), (119, 2, 48, 0, 0, 3100), (122, 2, 59, 0, 0, 3145), (126, 1, 4, 0, 0, 1105), (129, 1, 5, 7, 0, 1208), (133, 13, 0, 0, 0, 3153), (139, 2, 55, 0, 0, 3130), (142, 1, 3, 2, 0, 1152), (145, 1, 3, 3, 0, 1154), (148, 1, 3, 4, 0, 1157), (151, 2, 54, 0, 0, 3126), (154, 2, 76, 0, 0, 3217), (157, 2, 75, 0, 0, 3213), (160, 2, 78, 0, 0, 3226), (165, 2, 77, 0, 0, 3221), (168, 2, 53, 0, 0, 3225), (171, 3, 44, 0, 0, 4005), (174, 1, 4, 4, 0, 1116), (177, 1, 4, 6, 0, 1123), (180, 1, 3, 6, 0, 1164), (183, 1, 4, 5, 0, 1119), (186, 2, 27, 0, 0, 4102), (192, 2, 105, 0, 0, 4103), (196, 2, 107, 0, 0, 4115), (200, 2, 108, 0, 0, 4123), (203, 2, 109, 0, 0, 4127), (207, 2, 113, 0, 0, 4144), (211, 2, 114, 0, 0, 4148), (214, 2, 117, 0, 0, 4160), (217, 1, 2, 4, 0, 2115), (220, 2, 100, 0, 0, 4107), (223, 2, 31, 0, 0, 4108), (227, 1, 5, 0, 0, 1189), (228, 2, 34, 0, 0, 4109), (231, 2, 62, 0, 0, 4110), (234, 2, 106, 0, 0, 4111), (237, 2, 29, 0, 0, 4119), (241, 2, 39, 0, 0, 4120), (244, 14, 0, 0, 0, 4121), (247, 2, 40, 0, 0, 4122), (251, 1, 3, 0, 0, 1147), (254, 2, 110, 0, 0, 4131), (258, 2, 111, 0, 0, 4135), (261, 1, 3, 5, 0, 1160), (264, 2, 112, 0, 0, 4140), (267, 3, 36, 0, 0, 4139), (270, 1, 5, 5, 0, 1202), (273, 1, 5, 6, 0, 1204), (276, 1, 4, 2, 0, 1111), (279, 2, 115, 0, 0, 4152), (283, 2, 116, 0, 0, 4156), (286, 1, 4, 1, 0, 1108), (289, 2, 118, 0, 0, 4164)]
  | 11 => [(1, 8, 0, 0, 0, 1027), (7, 4, 10, 1031, 1002, 1030), (9, 2, 1, 0, 0, 1032), (10, 0, 11, 0, 0, 2146), (16, 0, 11, 1, 0, 2147), (19, 0, 11, 2, 0, 2148), (23, 4, 7, 2053, 1009, 2051), (25, 0, 11, 3, 0, 2149), (29, 3, 8, 0, 0, 2054), (30, 4, 8, 2072, 1010, 2071), (32, 3, 9, 0, 0, 2073), (33, 0, 11, 4, 0, 2150), (37, 4, 2, 2103, 1011, 2102), (39, 3, 10, 0, 0, 2104), (40, 0, 11, 5, 0, 2151), (44, 4, 0, 2131, 1012, 2130), (46, 3, 11, 0, 0, 2132), (47, 0, 11, 6, 0, 2152), (51, 0, 11, 7, 0, 2153), (55, 2, 13, 0, 0, 2175), (59, 2, 14, 0, 0, 2178), (63, 6, 0, 0, -100001, 2181), (64, 2, 15, 0, 0, 2182), (68, 1, 10, 0, 0, 2007), (72, 2, 16, 0, 0, 2187), (78, 2, 18, 0, 0, 2196), (81, 1, 10, 2, 0, 2010), (84, 6, 0, 0, -100005, 2199), (85, 2, 19, 0, 0, 2200), (89, 2, 23, 0, 0, 2217), (92, 2, 20, 0, 0, 2221), (96, 2, 24, 0, 0, 2222), (101, 6, 0, 0, -100004, 2229), (102, 1, 4, 0, 0, 1104), (105, 1, 4, 1, 0, 1107), (108, 1, 4, 2, 0, 1110), (111, 1, 4, 3, 0, 1113), (114, 1, 4, 4, 0, 1115), (117, 1, 4, 5, 0, 1118), (120, 2, 26, 0, 0, 2234), (124, 2, 33, 0, 0, 3037), (127, 2, 29, 0, 0, 3038), (131, 2, 34, 0, 0, 3039), (134, 2, 36, 0, 0, 3047), (137, 1, 4, 6, 0, 1122), (140, 6, 0, 0, -100006, 3058), (141, 2, 39, 0, 0, 3059), (144, 2, 40, 0, 0, 3063), (148, 6, 0, 0, -100003, 3075), (149, 2, 43, 0, 0, 3076), (153, 6, 0, 0, -100008, 3084), (154, 2, 41, 0, 0, 3085), (158, 6, 0, 0, -100002, 3086), (159, 2, 46, 0, 0, 3091), (162, 1, 10, 4, 0, 2013), (165, 2, 47, 0, 0, 3095), (168, 2, 50, 0, 0, 3108), (171, 2, 30, 0, 0, 3112), (175, 1, 3, 6, 0, 1163), (180, 1, 3, 4, 0, 1156), (183, 6, 0, 0, -100007, 3113), (184, 1, 3, 0, 0, 1146), (187, 1, 3, 1, 0, 1150), (190, 1, 3, 5, 0, 1159), (193, 2, 53, 0, 0, 3122), (196, 2, 57, 0, 0, 3138), (199, 2, 58, 0, 0, 3141), (202, 2, 60, 0, 0, 3149), (205, 2, 31, 0, 0, 3154), (209, 2, 61, 0, 0, 3155), (215, 1, 10, 7, 0, 2017), (219, 1, 10, 9, 0, 2021), (222, 2, 62, 0, 0, 3159), (228, 2, 64, 0, 0, 3167), (232, 2, 66, 0, 0, 3175), (235, 1, 5, 7, 0, 1207), (238, 1, 5, 0, 0, 1188), (241, 2, 67, 0, 0, 3179), (244, 2, 68, 0, 0, 3183), (248, 6, 0, 0, -100009, 4047), (249, 2, 92, 0, 0, 4048), (252, 1, 5, 1, 0, 1193), (255, 2, 32, 0, 0, 4056), (258, 1, 5, 5, 0, 1201), (261, 1, 2, 4, 0, 2114), (264, 2, 72, 0, 0, 4057), (268, 1, 5, 2, 0, 1195), (271, 1, 5, 3, 0, 1197), (274, 2, 95, 0, 0, 4062), (277, 2, 71, 0, 0, 4065), (280, 2, 99, 0, 0, 4078), (283, 2, 101, 0, 0, 4087), (286, 2, 103, 0, 0, 4095), (289, 2, 104, 0, 0, 4098), (293, 2, 122, 0, 0, 4180), (296, 2, 123, 0, 0, 4183), (300, 2, 124, 0, 0, 4187), (303, 2, 80, 0, 0, 4196), (306, 2, 126, 0, 0, 4197), (309, 2, 81, 0, 0, 4201), (312, 2, 128, 0, 0, 4206), (315, 2, 129, 0, 0, 4210), (319, 2, 85, 0, 0, 4219), (322, 2, 131, 0, 0, 4220), (325, 2, 84, 0, 0, 5130), (329, 1, 8, 2, 0, 2082), (333, 2, 164, 0, 0, 5131), (339, 1, 9, 0, 0, 1232), (342, 1, 1, 8, 0, 1076), (345, 2, 166, 0, 0, 5143), (348, 2, 168, 0, 0, 5152), (351, 2, 171, 0, 0, 5164), (355, 2, 82, 0, 0, 4006), (358, 2, 86, 0, 0, 4022), (362, 2, 76, 0, 0, 5172), (365, 2, 173, 0, 0, 5173), (369, 1, 1, 5, 0, 1072), (372, 2, 175, 0, 0, 5185), (375, 2, 177, 0, 0, 5193), (378, 2, 179, 0, 0, 5201), (381, 2, 187, 0, 0, 5234), (384, 2, 189, 0, 0, 6007), (387, 2, 78, 0, 0, 6012), (392, 1, 7, 1, 0, 2061), (395, 2, 191, 0, 0, 6013), (399, 2, 193, 0, 0, 6022), (402, 2, 194, 0, 0, 6026), (406, 2, 198, 0, 0, 6049), (409, 2, 200, 0, 0, 6057), (412, 2, 202, 0, 0, 6065), (416, 1, 7, 0, 0, 2059), (419, 2, 204, 0, 0, 6074), (422, 1, 7, 2, 0, 2063), (426, 9, 0, 0, 0, 6078), (432, 2, 206, 0, 0, 6083), (435, 2, 214, 0, 0, 6121), (438, 2, 215, 0, 0, 6125), (441, 2, 216, 0, 0, 6129), (444, 2, 217, 0, 0, 6133), (447, 1, 10, 10, 0, 2023), (450, 1, 10, 11, 0, 2025), (453, 6, 0, 0, -99999, 2186), (454, 2, 27, 0, 0, 2238), (457, 2, 69, 0, 0, 3187), (461, 2, 37, 0, 0, 3050)]
  | 12 => [(1, 8, 0, 0, 0, 6142), (7, 0, 12, 0, 0, 6143), (13, 0, 12, 1, 0, 6144), (16, 0, 12, 4, 0, 6147), (19, 0, 12, 5, 0, 6148), (23, 0, 12, 7, 0, 6150), (27, 0, 12, 8, 0, 6151), (30, 0, 12, 9, 0, 6152), (33, 0, 12, 10, 0, 6153), (36, 0, 12, 11, 0, 6154), (39, 0, 12, 18, 0, 6161), (42, 0, 12, 19, 0, 6162), (45, 0, 12, 20, 0, 6163), (49, 0, 12, 21, 0, 6164), (52, 0, 12, 22, 0, 6165), (55, 0, 12, 23, 0, 6166), (58, 0, 12, 24, 0, 6167), (61, 0, 12, 25, 0, 6168), (64, 0, 12, 3, 0, 6146), (68, 2, 220, 0, 0, 6228), (72, 2, 226, 0, 0, 7013), (76, 6, 0, 0, -100001, 6231), (77, 2, 221, 0, 0, 6232), (81, 6, 0, 0, -100005, 7000), (82, 2, 223, 0, 0, 7001), (86, 2, 225, 0, 0, 7009), (90, 6, 0, 0, -100004, 7017), (91, 2, 229, 0, 0, 7026), (95, 2, 232, 0, 0, 7038), (98, 2, 228, 0, 0, 7022), (101, 2, 233, 0, 0, 7042), (105, 2, 236, 0, 0, 7054), (108, 2, 237, 0, 0, 7058), (111, 2, 239, 0, 0, 7065), (114, 6, 0, 0, -100006, 7069), (115, 2, 240, 0, 0, 7070), (118, 6, 0, 0, -100003, 7078), (119, 6, 0, 0, -100008, 7079), (120, 6, 0, 0, -100002, 7080), (121, 2, 231, 0, 0, 7034), (124, 2, 230, 0, 0, 7030), (127, 2, 244, 0, 0, 7089), (130, 6, 0, 0, -100007, 7093), (131, 2, 248, 0, 0, 7106), (134, 2, 247, 0, 0, 7102), (137, 2, 235, 0, 0, 7050), (140, 2, 234, 0, 0, 7046), (143, 2, 250, 0, 0, 7114), (146, 2, 253, 0, 0, 7126), (149, 2, 254, 0, 0, 7130), (153, 2, 255, 0, 0, 7134), (156, 2, 261, 0, 0, 7158), (159, 2, 260, 0, 0, 7154), (162, 2, 264, 0, 0, 7169), (166, 2, 258, 0, 0, 7146), (169, 2, 257, 0, 0, 7142), (172, 2, 259, 0, 0, 7150), (175, 2, 263, 0, 0, 7166), (178, 2, 266, 0, 0, 7177), (181, 2, 273, 0, 0, 7205), (184, 2, 275, 0, 0, 7213), (188, 2, 278, 0, 0, 7225), (191, 2, 280, 0, 0, 7233), (194, 2, 271, 0, 0, 7197), (197, 2, 272, 0, 0, 7201), (200, 2, 274, 0, 0, 7209), (203, 2, 276, 0, 0, 7217), (206, 2, 277, 0, 0, 7221), (209, 2, 279, 0, 0, 7229), (212, 2, 270, 0, 0, 7193), (215, 2, 282, 0, 0, 8001), (218, 2, 284, 0, 0, 8008), (221, 2, 285, 0, 0, 8012), (224, 0, 12, 6, 0, 6149), (227, 0, 12, 13, 0, 6156), (230, 0, 12, 12, 0, 6155), (233, 2, 290, 0, 0, 8032), (236, 0, 12, 14, 0, 6157), (239, 2, 291, 0, 0, 8036), (242, 2, 292, 0, 0, 8039), (245, 2, 293, 0, 0, 8043), (248, 0, 12, 15, 0, 6158), (251, 2, 294, 0, 0, 8046), (254, 0, 12, 16, 0, 6159), (257, 0, 12, 17, 0, 6160), (260, 2, 299, 0, 0, 8065), (263, 2, 297, 0, 0, 8057), (266, 2, 289, 0, 0, 8028), (269, 2, 296, 0, 0, 8053), (272, 2, 298, 0, 0, 8061), (275, 2, 300, 0, 0, 8068), (279, 2, 295, 0, 0, 8049), (282, 2, 288, 0, 0, 8024), (285, 2, 309, 0, 0, 8104), (288, 2, 303, 0, 0, 8080), (291, 2, 306, 0, 0, 8092), (294, 2, 307, 0, 0, 8096), (297, 2, 308, 0, 0, 8100), (300, 2, 305, 0, 0, 8088), (304, 6, 0, 0, -100009, 8107), (305, 2, 314, 0, 0, 8124), (308, 2, 315, 0, 0, 8127), (311, 2, 317, 0, 0, 8135), (314, 2, 320, 0, 0, 8147), (317, 2, 321, 0, 0, 8151), (320, 2, 322, 0, 0, 8154), (323, 0, 12, 2, 0, 6145)]
  | 13 => [(7, 4, 11, 1023, 1001, 1022), (9, 2, 0, 0, 0, 1024), (10, 4, 12, 6138, 1013, 6137), (12, 2, 218, 0, 0, 6139), (13, 2, 12, 0, 0, 2171), (17, 2, 219, 0, 0, 6224), (18, 2, 17, 0, 0, 2192), (22, 2, 222, 0, 0, 6236), (23, 2, 22, 0, 0, 2213), (27, 2, 224, 0, 0, 7005), (28, 2, 25, 0, 0, 2230), (31, 2, 227, 0, 0, 7018), (32, 2, 38, 0, 0, 3054), (36, 2, 238, 0, 0, 7061), (37, 2, 42, 0, 0, 3071), (41, 2, 241, 0, 0, 7074), (42, 2, 45, 0, 0, 3087), (45, 2, 242, 0, 0, 7081), (46, 2, 49, 0, 0, 3104), (49, 2, 243, 0, 0, 7085), (50, 2, 51, 0, 0, 3114), (53, 2, 245, 0, 0, 7094), (54, 2, 52, 0, 0, 3118), (57, 2, 246, 0, 0, 7098), (58, 2, 56, 0, 0, 3134), (62, 2, 252, 0, 0, 7122), (63, 2, 65, 0, 0, 3171), (67, 2, 304, 0, 0, 8084), (68, 2, 93, 0, 0, 4052), (71, 2, 256, 0, 0, 7138), (72, 2, 94, 0, 0, 4058), (75, 2, 262, 0, 0, 7162), (76, 2, 96, 0, 0, 4066), (80, 2, 249, 0, 0, 7110), (81, 2, 97, 0, 0, 4070), (84, 2, 251, 0, 0, 7118), (85, 2, 98, 0, 0, 4074), (88, 2, 265, 0, 0, 7173), (89, 2, 102, 0, 0, 4091), (92, 2, 269, 0, 0, 7189), (93, 2, 121, 0, 0, 4176), (96, 2, 281, 0, 0, 7237), (97, 2, 125, 0, 0, 4192), (100, 2, 283, 0, 0, 8004), (101, 7, 0, 0, 4294967295, 8186), (103, 2, 127, 0, 0, 4202), (107, 2, 286, 0, 0, 8016), (108, 2, 130, 0, 0, 4215), (111, 2, 287, 0, 0, 8020), (112, 2, 165, 0, 0, 5139), (115, 2, 301, 0, 0, 8072), (116, 2, 167, 0, 0, 5148), (119, 2, 302, 0, 0, 8076), (120, 2, 169, 0, 0, 5156), (123, 2, 310, 0, 0, 8108), (124, 2, 170, 0, 0, 5160), (127, 2, 311, 0, 0, 8112), (128, 2, 172, 0, 0, 5168), (131, 2, 312, 0, 0, 8116), (132, 2, 174, 0, 0, 5181), (135, 2, 267, 0, 0, 7181), (136, 2, 176, 0, 0, 5189), (139, 2, 268, 0, 0, 7185), (140, 2, 178, 0, 0, 5197), (143, 2, 313, 0, 0, 8120), (144, 2, 186, 0, 0, 5230), (148, 2, 316, 0, 0, 8131), (149, 2, 190, 0, 0, 6008), (152, 2, 318, 0, 0, 8139), (153, 2, 192, 0, 0, 6018), (156, 2, 319, 0, 0, 8143), (157, 2, 197, 0, 0, 6045), (160, 2, 323, 0, 0, 8158), (161, 2, 199, 0, 0, 6053), (164, 2, 324, 0, 0, 8162), (165, 2, 201, 0, 0, 6061), (168, 2, 325, 0, 0, 8166), (169, 2, 203, 0, 0, 6070), (172, 2, 326, 0, 0, 8170), (173, 2, 205, 0, 0, 6079), (176, 2, 327, 0, 0, 8174), (177, 2, 212, 0, 0, 6113), (180, 2, 328, 0, 0, 8178), (181, 2, 213, 0, 0, 6117), (184, 2, 329, 0, 0, 8182)]
  | 14 => [(264, 6, 0, 0, 65536, 3053), (265, 6, 0, 0, 1431655765, 3229), (266, 6, 0, 0, 858993459, 3230), (267, 6, 0, 0, 252645135, 3231)]
  | 15 => [(9, 0, 15, 0, 0, 8187), (15, 0, 15, 1, 0, 8188), (38, 10, 2, 0, 0, 5035), (335, 2, 140, 0, 0, 5031), (492, 2, 142, 0, 0, 5041), (495, 2, 143, 0, 0, 5045), (498, 2, 146, 0, 0, 5056), (1053, 10, 3, 0, 0, 5051), (1059, 2, 145, 0, 0, 5053)]
  | 16 => [(9, 2, 144, 0, 0, 5048)]
  | 17 => []
  | 18 => [(44, 10, 4, 0, 0, 5069), (48, 2, 148, 0, 0, 5062), (59, 10, 5, 0, 0, 5071), (63, 10, 6, 0, 0, 5073), (67, 2, 147, 0, 0, 5059), (71, 2, 149, 0, 0, 5066), (414, 2, 144, 0, 0, 5065)]
  | 19 => [(314, 7, 0, 0, 6148914691236517205, 6042), (316, 7, 0, 0, 3689348814741910323, 6043), (318, 7, 0, 0, 1085102592571150095, 6044)]
  | _ => []
def mm_tab (t : Nat) : List Cond := match t with
  | 0 => k2_sels lw_privs
  | 1 => tables_1_1
  | 2 => tables_1_2
  | 3 => tables_1_3
  | 4 => tables_1_4
  | 5 => tables_1_5
  | 6 => tables_1_6
  | 7 => tables_1_7
  | 8 => tables_1_8
  | _ => []
def mm_sts : List (String × String × String) := [("RaftTown", "KIND_ABOVE", "[I"), ("RaftTown", "AREA", "[I"), ("java/lang/String", "COMPACT_STRINGS", "Z"), ("jdk/internal/util/Preconditions", "SIOOBE_FORMATTER", "Ljava/util/function/BiFunction;"), ("java/lang/StringUTF16", "$assertionsDisabled", "Z"), ("java/lang/StringUTF16", "HI_BYTE_SHIFT", "I"), ("java/lang/StringUTF16", "LO_BYTE_SHIFT", "I"), ("RaftTown", "BESIDE_X", "[I"), ("RaftTown", "BESIDE_Y", "[I")]
