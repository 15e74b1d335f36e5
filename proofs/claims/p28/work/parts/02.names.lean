def RX0 : String := "FairBooks$Bench"
def TX0 : u_T := fun k => match k with
  | 0 => ("FairBooks$Bench", "spareOne", "LFairBooks$Book;", true)
  | 1 => ("FairBooks$Bench", "spareOther", "LFairBooks$Book;", true)
  | 2 => ("FairBooks$Bench", "one", "LFairBooks$Book;", false)
  | 3 => ("FairBooks$Bench", "other", "LFairBooks$Book;", false)
  | _ => ("FairBooks$Bench", "traded", "I", false)
def tyX0 : Nat → FieldType := fun k => match k with
  | 0 => .object "FairBooks$Book"
  | 1 => .object "FairBooks$Book"
  | 2 => .object "FairBooks$Book"
  | 3 => .object "FairBooks$Book"
  | _ => .int
theorem nmX0 : ∀ a, a < 5 → ∀ b, b < 5 → a ≠ b → (TX0 a).2.1 ≠ (TX0 b).2.1 := by decide +kernel
theorem tyX0_ok : ∀ k, k < 5 → parseFieldDescriptor (TX0 k).2.2.1 = some (tyX0 k) := by decide +kernel
def RX1 : String := "FairBooks$BestTrade"
def TX1 : u_T := fun k => match k with
  | 0 => ("FairBooks$BestTrade", "ownLeaf", "I", false)
  | 1 => ("FairBooks$BestTrade", "otherLeaf", "I", false)
  | _ => ("FairBooks$BestTrade", "gained", "I", false)
def tyX1 : Nat → FieldType := fun k => match k with
  | 0 => .int
  | 1 => .int
  | _ => .int
theorem nmX1 : ∀ a, a < 3 → ∀ b, b < 3 → a ≠ b → (TX1 a).2.1 ≠ (TX1 b).2.1 := by decide +kernel
theorem tyX1_ok : ∀ k, k < 3 → parseFieldDescriptor (TX1 k).2.2.1 = some (tyX1 k) := by decide +kernel
def RX2 : String := "FairBooks$Book"
def TX2 : u_T := fun k => match k with
  | 0 => ("FairBooks$Book", "numbers", "[I", true)
  | 1 => ("FairBooks$Book", "kinds", "[I", true)
  | 2 => ("FairBooks$Book", "signers", "[I", true)
  | 3 => ("FairBooks$Book", "friends", "[I", true)
  | 4 => ("FairBooks$Book", "owner", "I", false)
  | _ => ("FairBooks$Book", "size", "I", false)
def tyX2 : Nat → FieldType := fun k => match k with
  | 0 => .array .int
  | 1 => .array .int
  | 2 => .array .int
  | 3 => .array .int
  | 4 => .int
  | _ => .int
theorem nmX2 : ∀ a, a < 6 → ∀ b, b < 6 → a ≠ b → (TX2 a).2.1 ≠ (TX2 b).2.1 := by decide +kernel
theorem tyX2_ok : ∀ k, k < 6 → parseFieldDescriptor (TX2 k).2.2.1 = some (tyX2 k) := by decide +kernel
def RX3 : String := "FairBooks$History"
def TX3 : u_T := fun k => match k with
  | 0 => ("FairBooks$History", "spare", "LFairBooks$State;", false)
  | 1 => ("FairBooks$History", "first", "LFairBooks$State;", false)
  | 2 => ("FairBooks$History", "second", "LFairBooks$State;", false)
  | 3 => ("FairBooks$History", "third", "LFairBooks$State;", false)
  | 4 => ("FairBooks$History", "fourth", "LFairBooks$State;", false)
  | _ => ("FairBooks$History", "size", "I", false)
def tyX3 : Nat → FieldType := fun k => match k with
  | 0 => .object "FairBooks$State"
  | 1 => .object "FairBooks$State"
  | 2 => .object "FairBooks$State"
  | 3 => .object "FairBooks$State"
  | 4 => .object "FairBooks$State"
  | _ => .int
theorem nmX3 : ∀ a, a < 6 → ∀ b, b < 6 → a ≠ b → (TX3 a).2.1 ≠ (TX3 b).2.1 := by decide +kernel
theorem tyX3_ok : ∀ k, k < 6 → parseFieldDescriptor (TX3 k).2.2.1 = some (tyX3 k) := by decide +kernel
def RX4 : String := "FairBooks$Names"
def TX4 : u_T := fun k => match k with
  | 0 => ("FairBooks$Names", "fames", "[I", true)
  | 1 => ("FairBooks$Names", "themes", "[I", true)
  | _ => ("FairBooks$Names", "size", "I", false)
def tyX4 : Nat → FieldType := fun k => match k with
  | 0 => .array .int
  | 1 => .array .int
  | _ => .int
theorem nmX4 : ∀ a, a < 3 → ∀ b, b < 3 → a ≠ b → (TX4 a).2.1 ≠ (TX4 b).2.1 := by decide +kernel
theorem tyX4_ok : ∀ k, k < 3 → parseFieldDescriptor (TX4 k).2.2.1 = some (tyX4 k) := by decide +kernel
def RX5 : String := "FairBooks$Orders"
def TX5 : u_T := fun k => match k with
  | 0 => ("FairBooks$Orders", "characters", "[I", true)
  | 1 => ("FairBooks$Orders", "numbers", "[I", true)
  | 2 => ("FairBooks$Orders", "length", "I", false)
  | 3 => ("FairBooks$Orders", "start", "I", false)
  | 4 => ("FairBooks$Orders", "next", "I", false)
  | 5 => ("FairBooks$Orders", "done", "I", false)
  | 6 => ("FairBooks$Orders", "reason", "I", false)
  | _ => ("FairBooks$Orders", "cause", "I", false)
def tyX5 : Nat → FieldType := fun k => match k with
  | 0 => .array .int
  | 1 => .array .int
  | 2 => .int
  | 3 => .int
  | 4 => .int
  | 5 => .int
  | 6 => .int
  | _ => .int
theorem nmX5 : ∀ a, a < 8 → ∀ b, b < 8 → a ≠ b → (TX5 a).2.1 ≠ (TX5 b).2.1 := by decide +kernel
theorem tyX5_ok : ∀ k, k < 8 → parseFieldDescriptor (TX5 k).2.2.1 = some (tyX5 k) := by decide +kernel
def RX6 : String := "FairBooks$State"
def TX6 : u_T := fun k => match k with
  | 0 => ("FairBooks$State", "names", "LFairBooks$Names;", true)
  | 1 => ("FairBooks$State", "book0", "LFairBooks$Book;", true)
  | 2 => ("FairBooks$State", "book1", "LFairBooks$Book;", true)
  | 3 => ("FairBooks$State", "book2", "LFairBooks$Book;", true)
  | 4 => ("FairBooks$State", "book3", "LFairBooks$Book;", true)
  | 5 => ("FairBooks$State", "purses", "[I", true)
  | 6 => ("FairBooks$State", "tradesSoFar", "I", false)
  | _ => ("FairBooks$State", "leavesSoFar", "I", false)
def tyX6 : Nat → FieldType := fun k => match k with
  | 0 => .object "FairBooks$Names"
  | 1 => .object "FairBooks$Book"
  | 2 => .object "FairBooks$Book"
  | 3 => .object "FairBooks$Book"
  | 4 => .object "FairBooks$Book"
  | 5 => .array .int
  | 6 => .int
  | _ => .int
theorem nmX6 : ∀ a, a < 8 → ∀ b, b < 8 → a ≠ b → (TX6 a).2.1 ≠ (TX6 b).2.1 := by decide +kernel
theorem tyX6_ok : ∀ k, k < 8 → parseFieldDescriptor (TX6 k).2.2.1 = some (tyX6 k) := by decide +kernel
def RX7 : String := "FairBooks"
def TX7 : u_T := fun k => match k with
  | 0 => ("FairBooks", "now", "LFairBooks$State;", true)
  | 1 => ("FairBooks", "trial", "LFairBooks$State;", true)
  | 2 => ("FairBooks", "history", "LFairBooks$History;", true)
  | 3 => ("FairBooks", "orders", "LFairBooks$Orders;", true)
  | 4 => ("FairBooks", "bench", "LFairBooks$Bench;", true)
  | _ => ("FairBooks", "bestTrade", "LFairBooks$BestTrade;", true)
def tyX7 : Nat → FieldType := fun k => match k with
  | 0 => .object "FairBooks$State"
  | 1 => .object "FairBooks$State"
  | 2 => .object "FairBooks$History"
  | 3 => .object "FairBooks$Orders"
  | 4 => .object "FairBooks$Bench"
  | _ => .object "FairBooks$BestTrade"
theorem nmX7 : ∀ a, a < 6 → ∀ b, b < 6 → a ≠ b → (TX7 a).2.1 ≠ (TX7 b).2.1 := by decide +kernel
theorem tyX7_ok : ∀ k, k < 6 → parseFieldDescriptor (TX7 k).2.2.1 = some (tyX7 k) := by decide +kernel
abbrev vwCl : List vw_C := [(RX0, TX0, 5), (RX1, TX1, 3), (RX2, TX2, 6), (RX3, TX3, 6), (RX4, TX4, 3), (RX5, TX5, 8), (RX6, TX6, 8), (RX7, TX7, 6)]
def ab_tx : Nat → u_T := fun ci => match ci with
  | 0 => TX0
  | 1 => TX1
  | 2 => TX2
  | 3 => TX3
  | 4 => TX4
  | 5 => TX5
  | 6 => TX6
  | 7 => TX7
  | _ => TX0
def ab_ty : Nat → Nat → FieldType := fun ci => match ci with
  | 0 => tyX0
  | 1 => tyX1
  | 2 => tyX2
  | 3 => tyX3
  | 4 => tyX4
  | 5 => tyX5
  | 6 => tyX6
  | 7 => tyX7
  | _ => tyX0
def ab_nf : Nat → Nat := fun ci => match ci with
  | 0 => 5
  | 1 => 3
  | 2 => 6
  | 3 => 6
  | 4 => 3
  | 5 => 8
  | 6 => 8
  | 7 => 6
  | _ => 0
def ab_cn : Nat → String := fun ci => match ci with
  | 0 => RX0
  | 1 => RX1
  | 2 => RX2
  | 3 => RX3
  | 4 => RX4
  | 5 => RX5
  | 6 => RX6
  | 7 => RX7
  | _ => ""
/-- a field: 0 an int, 1 a reference, 2 a boolean -/
def ab_fk : Nat → Nat → Nat := fun ci f => match ab_ty ci f with
  | .int => 0
  | .boolean => 2
  | _ => 1
/-- the cells in the order in which they are made: a class, or 100 and an array's length -/
def ab_shl : List Nat := [7, 6, 4, 116, 116, 2, 116, 132, 132, 132, 2, 116, 132, 132, 132, 2, 116, 132, 132, 132, 2, 116, 132, 132, 132, 104, 6, 4, 116, 116, 2, 116, 132, 132, 132, 2, 116, 132, 132, 132, 2, 116, 132, 132, 132, 2, 116, 132, 132, 132, 104, 3, 6, 4, 116, 116, 2, 116, 132, 132, 132, 2, 116, 132, 132, 132, 2, 116, 132, 132, 132, 2, 116, 132, 132, 132, 104, 6, 4, 116, 116, 2, 116, 132, 132, 132, 2, 116, 132, 132, 132, 2, 116, 132, 132, 132, 2, 116, 132, 132, 132, 104, 6, 4, 116, 116, 2, 116, 132, 132, 132, 2, 116, 132, 132, 132, 2, 116, 132, 132, 132, 2, 116, 132, 132, 132, 104, 6, 4, 116, 116, 2, 116, 132, 132, 132, 2, 116, 132, 132, 132, 2, 116, 132, 132, 132, 2, 116, 132, 132, 132, 104, 6, 4, 116, 116, 2, 116, 132, 132, 132, 2, 116, 132, 132, 132, 2, 116, 132, 132, 132, 2, 116, 132, 132, 132, 104, 5, 160, 104, 0, 2, 116, 132, 132, 132, 2, 116, 132, 132, 132, 1]
def ab_sh (k : Nat) : Nat := ab_shl.getD k 9999
abbrev ab_Y : Type := MethodName × ByteArray × Nat × Option FieldType × Nat × Nat × Nat
def ab_yl0 : List ab_Y := [(⟨"java/lang/Math", "max", "(II)I"⟩, prog_12_method_65_code, 2, (some (.int)), 0, 0, 678),
  (⟨"java/lang/Math", "min", "(II)I"⟩, prog_12_method_69_code, 2, (some (.int)), 0, 0, 328),
  (⟨"java/lang/Integer", "bitCount", "(I)I"⟩, prog_11_method_49_code, 1, (some (.int)), 0, 0, 401),
  (⟨"FairBooks$Names", "<init>", "()V"⟩, prog_6_method_1_code, 1, none, 2, 32, 37),
  (⟨"FairBooks$Names", "has", "(I)Z"⟩, prog_6_method_2_code, 2, (some (.boolean)), 0, 0, 366),
  (⟨"FairBooks$Names", "fameOf", "(I)I"⟩, prog_6_method_3_code, 2, (some (.int)), 0, 0, 259),
  (⟨"FairBooks$Names", "themeOf", "(I)I"⟩, prog_6_method_4_code, 2, (some (.int)), 0, 0, 263),
  (⟨"FairBooks$Names", "setOf", "(I)I"⟩, prog_6_method_5_code, 4, (some (.int)), 0, 0, 398),
  (⟨"FairBooks$Names", "add", "(II)V"⟩, prog_6_method_6_code, 3, none, 0, 0, 267),
  (⟨"FairBooks$Names", "copyFrom", "(LFairBooks$Names;)V"⟩, prog_6_method_7_code, 3, none, 0, 0, 255),
  (⟨"FairBooks$Book", "<init>", "(I)V"⟩, prog_4_method_1_code, 2, none, 4, 112, 56),
  (⟨"FairBooks$Book", "numberAt", "(I)I"⟩, prog_4_method_2_code, 2, (some (.int)), 0, 0, 287),
  (⟨"FairBooks$Book", "kindOf", "(I)I"⟩, prog_4_method_3_code, 2, (some (.int)), 0, 0, 291),
  (⟨"FairBooks$Book", "nameOn", "(I)I"⟩, prog_4_method_4_code, 2, (some (.int)), 0, 0, 295),
  (⟨"FairBooks$Book", "friendOn", "(I)I"⟩, prog_4_method_5_code, 2, (some (.int)), 0, 0, 299),
  (⟨"FairBooks$Book", "find", "(I)I"⟩, prog_4_method_6_code, 3, (some (.int)), 0, 0, 359),
  (⟨"FairBooks$Book", "startsEntry", "(I)Z"⟩, prog_4_method_7_code, 2, (some (.boolean)), 0, 0, 381),
  (⟨"FairBooks$Book", "countEntries", "()I"⟩, prog_4_method_8_code, 3, (some (.int)), 0, 0, 538),
  (⟨"FairBooks$Book", "countEntriesOf", "(I)I"⟩, prog_4_method_9_code, 4, (some (.int)), 0, 0, 624),
  (⟨"FairBooks$Book", "countDedicatedTo", "(I)I"⟩, prog_4_method_10_code, 4, (some (.int)), 0, 0, 563),
  (⟨"FairBooks$Book", "countDedicated", "()I"⟩, prog_4_method_11_code, 1, (some (.int)), 0, 0, 558),
  (⟨"FairBooks$Book", "nameSet", "()I"⟩, prog_4_method_12_code, 1, (some (.int)), 0, 0, 599),
  (⟨"FairBooks$Book", "namesAhead", "(I)I"⟩, prog_4_method_13_code, 4, (some (.int)), 0, 0, 394),
  (⟨"FairBooks$Book", "valueOn", "(ILFairBooks$Names;)I"⟩, prog_4_method_14_code, 4, (some (.int)), 0, 0, 646),
  (⟨"FairBooks$Book", "valueBehind", "(IILFairBooks$Names;)I"⟩, prog_4_method_15_code, 7, (some (.int)), 0, 0, 385),
  (⟨"FairBooks$Book", "sumOfValues", "(LFairBooks$Names;)I"⟩, prog_4_method_16_code, 5, (some (.int)), 0, 0, 377),
  (⟨"FairBooks$Book", "wholeThemes", "(LFairBooks$Names;)I"⟩, prog_4_method_17_code, 6, (some (.int)), 0, 0, 390),
  (⟨"FairBooks$Book", "worth", "(LFairBooks$Names;)I"⟩, prog_4_method_18_code, 5, (some (.int)), 0, 0, 373),
  (⟨"FairBooks$Book", "isJoined", "(I)Z"⟩, prog_4_method_19_code, 3, (some (.boolean)), 0, 0, 424),
  (⟨"FairBooks$Book", "startsBundle", "(I)Z"⟩, prog_4_method_20_code, 2, (some (.boolean)), 0, 0, 608),
  (⟨"FairBooks$Book", "bundleFirst", "(I)I"⟩, prog_4_method_21_code, 3, (some (.int)), 0, 0, 428),
  (⟨"FairBooks$Book", "bundleEnd", "(I)I"⟩, prog_4_method_22_code, 3, (some (.int)), 0, 0, 420),
  (⟨"FairBooks$Book", "bundleSize", "(I)I"⟩, prog_4_method_23_code, 2, (some (.int)), 0, 0, 416),
  (⟨"FairBooks$Book", "countBundles", "()I"⟩, prog_4_method_24_code, 3, (some (.int)), 0, 0, 604),
  (⟨"FairBooks$Book", "canShift", "(II)Z"⟩, prog_4_method_25_code, 5, (some (.boolean)), 0, 0, 453),
  (⟨"FairBooks$Book", "setEntry", "(IIII)V"⟩, prog_4_method_26_code, 5, none, 0, 0, 303),
  (⟨"FairBooks$Book", "setFriend", "(II)V"⟩, prog_4_method_27_code, 3, none, 0, 0, 441),
  (⟨"FairBooks$Book", "addLeaf", "(I)V"⟩, prog_4_method_28_code, 2, none, 0, 0, 343),
  (⟨"FairBooks$Book", "addLeaves", "(LFairBooks$Book;II)V"⟩, prog_4_method_29_code, 7, none, 0, 0, 283),
  (⟨"FairBooks$Book", "clearFor", "(I)V"⟩, prog_4_method_30_code, 2, none, 0, 0, 279),
  (⟨"FairBooks$Book", "copyFrom", "(LFairBooks$Book;)V"⟩, prog_4_method_31_code, 2, none, 0, 0, 275)]
def ab_yl1 : List ab_Y := [(⟨"FairBooks$Bench", "<init>", "()V"⟩, prog_2_method_1_code, 1, none, 10, 236, 181),
  (⟨"FairBooks$Bench", "takeOut", "(LFairBooks$Book;I)V"⟩, prog_2_method_2_code, 3, none, 0, 0, 467),
  (⟨"FairBooks$Bench", "shift", "(LFairBooks$Book;II)V"⟩, prog_2_method_3_code, 4, none, 0, 0, 459),
  (⟨"FairBooks$Bench", "layOut", "(LFairBooks$Book;ILFairBooks$Book;I)V"⟩, prog_2_method_4_code, 5, none, 0, 0, 483),
  (⟨"FairBooks$Bench", "layOutFor", "(LFairBooks$Book;LFairBooks$Book;ILFairBooks$Book;I)V"⟩, prog_2_method_5_code, 6, none, 0, 0, 487),
  (⟨"FairBooks$Bench", "fits", "()Z"⟩, prog_2_method_6_code, 1, (some (.boolean)), 0, 0, 492),
  (⟨"FairBooks$Bench", "gainOfOne", "(LFairBooks$Names;)I"⟩, prog_2_method_7_code, 2, (some (.int)), 0, 0, 665),
  (⟨"FairBooks$Bench", "gainOfOther", "(LFairBooks$Names;)I"⟩, prog_2_method_8_code, 2, (some (.int)), 0, 0, 670),
  (⟨"FairBooks$Bench", "settle", "()V"⟩, prog_2_method_9_code, 1, none, 0, 0, 496),
  (⟨"FairBooks$State", "<init>", "()V"⟩, prog_8_method_1_code, 1, none, 24, 511, 31),
  (⟨"FairBooks$State", "copyFrom", "(LFairBooks$State;)V"⟩, prog_8_method_2_code, 3, none, 0, 0, 251),
  (⟨"FairBooks$State", "bookOf", "(I)LFairBooks$Book;"⟩, prog_8_method_3_code, 2, (some (.object "FairBooks$Book")), 0, 0, 271),
  (⟨"FairBooks$State", "bookWith", "(I)LFairBooks$Book;"⟩, prog_8_method_4_code, 3, (some (.object "FairBooks$Book")), 0, 0, 355),
  (⟨"FairBooks$State", "purseOf", "(I)I"⟩, prog_8_method_5_code, 2, (some (.int)), 0, 0, 307),
  (⟨"FairBooks$State", "setPurse", "(II)V"⟩, prog_8_method_6_code, 3, none, 0, 0, 311),
  (⟨"FairBooks$State", "addName", "(II)I"⟩, prog_8_method_7_code, 3, (some (.int)), 0, 0, 315),
  (⟨"FairBooks$State", "addLeaf", "(I)I"⟩, prog_8_method_8_code, 3, (some (.int)), 0, 0, 336),
  (⟨"FairBooks$State", "addEntry", "(IIII)I"⟩, prog_8_method_9_code, 7, (some (.int)), 0, 0, 351),
  (⟨"FairBooks$State", "addWideEntry", "(II)I"⟩, prog_8_method_10_code, 6, (some (.int)), 0, 0, 412),
  (⟨"FairBooks$State", "setFriend", "(III)I"⟩, prog_8_method_11_code, 7, (some (.int)), 0, 0, 436),
  (⟨"FairBooks$State", "shiftBundle", "(IILFairBooks$Bench;)I"⟩, prog_8_method_12_code, 7, (some (.int)), 0, 0, 449),
  (⟨"FairBooks$State", "exchange", "(IIILFairBooks$Bench;)I"⟩, prog_8_method_13_code, 9, (some (.int)), 0, 0, 476),
  (⟨"FairBooks$State", "takeOut", "(ILFairBooks$Bench;)I"⟩, prog_8_method_14_code, 5, (some (.int)), 0, 0, 504),
  (⟨"FairBooks$State", "fillPurse", "(II)I"⟩, prog_8_method_15_code, 4, (some (.int)), 0, 0, 513),
  (⟨"FairBooks$State", "wealth", "(I)I"⟩, prog_8_method_16_code, 2, (some (.int)), 0, 0, 546),
  (⟨"FairBooks$State", "richest", "()I"⟩, prog_8_method_17_code, 3, (some (.int)), 0, 0, 542),
  (⟨"FairBooks$State", "sumOfWorths", "()I"⟩, prog_8_method_18_code, 3, (some (.int)), 0, 0, 550),
  (⟨"FairBooks$State", "countLeaves", "()I"⟩, prog_8_method_19_code, 1, (some (.int)), 0, 0, 530),
  (⟨"FairBooks$State", "countEntries", "()I"⟩, prog_8_method_20_code, 3, (some (.int)), 0, 0, 534),
  (⟨"FairBooks$State", "countDedicated", "()I"⟩, prog_8_method_21_code, 3, (some (.int)), 0, 0, 554),
  (⟨"FairBooks$State", "countEntriesOf", "(I)I"⟩, prog_8_method_22_code, 4, (some (.int)), 0, 0, 620),
  (⟨"FairBooks$State", "ownersOf", "(I)I"⟩, prog_8_method_23_code, 4, (some (.int)), 0, 0, 628),
  (⟨"FairBooks$BestTrade", "<init>", "()V"⟩, prog_3_method_1_code, 1, none, 0, 0, 206),
  (⟨"FairBooks$BestTrade", "search", "(LFairBooks$State;ILFairBooks$Bench;)V"⟩, prog_3_method_2_code, 7, none, 0, 0, 687),
  (⟨"FairBooks$BestTrade", "searchBook", "(LFairBooks$Names;LFairBooks$Book;ILFairBooks$Book;LFairBooks$Bench;)V"⟩, prog_3_method_3_code, 8, none, 0, 0, 693),
  (⟨"FairBooks$History", "<init>", "()V"⟩, prog_5_method_1_code, 1, none, 125, 2595, 117),
  (⟨"FairBooks$History", "prepare", "(LFairBooks$State;)V"⟩, prog_5_method_2_code, 2, none, 0, 0, 247),
  (⟨"FairBooks$History", "keep", "(I)I"⟩, prog_5_method_3_code, 3, (some (.int)), 0, 0, 325),
  (⟨"FairBooks$History", "restore", "(LFairBooks$State;)V"⟩, prog_5_method_4_code, 3, none, 0, 0, 572),
  (⟨"FairBooks$Orders", "<init>", "()V"⟩, prog_7_method_1_code, 1, none, 2, 64, 145),
  (⟨"FairBooks$Orders", "append", "(I)V"⟩, prog_7_method_2_code, 2, none, 0, 0, 723)]
def ab_yl2 : List ab_Y := [(⟨"FairBooks$Orders", "run", "(LFairBooks$State;LFairBooks$State;LFairBooks$Bench;)V"⟩, prog_7_method_3_code, 6, none, 0, 0, 731),
  (⟨"FairBooks$Orders", "characterAt", "(I)I"⟩, prog_7_method_4_code, 2, (some (.int)), 0, 0, 740),
  (⟨"FairBooks$Orders", "readOrder", "()Z"⟩, prog_7_method_5_code, 3, (some (.boolean)), 0, 0, 736),
  (⟨"FairBooks$Orders", "skip", "(C)Z"⟩, prog_7_method_6_code, 2, (some (.boolean)), 0, 0, 747),
  (⟨"FairBooks$Orders", "readNumber", "(I)V"⟩, prog_7_method_7_code, 3, none, 0, 0, 754),
  (⟨"FairBooks$Orders", "number", "(I)I"⟩, prog_7_method_8_code, 2, (some (.int)), 0, 0, 762),
  (⟨"FairBooks$Orders", "doOrder", "(LFairBooks$State;LFairBooks$Bench;)I"⟩, prog_7_method_9_code, 3, (some (.int)), 0, 0, 758),
  (⟨"FairBooks$Orders", "howManyNumbers", "(I)I"⟩, prog_7_method_10_code, 1, (some (.int)), 0, 0, 743),
  (⟨"FairBooks$Orders", "isDigit", "(I)Z"⟩, prog_7_method_11_code, 1, (some (.boolean)), 0, 0, 750),
  (⟨"FairBooks", "<init>", "()V"⟩, prog_1_method_1_code, 1, none, 191, 3955, 23),
  (⟨"FairBooks", "name", "(II)I"⟩, prog_1_method_2_code, 3, (some (.int)), 0, 0, 243),
  (⟨"FairBooks", "leaf", "(I)I"⟩, prog_1_method_3_code, 2, (some (.int)), 0, 0, 332),
  (⟨"FairBooks", "sign", "(III)I"⟩, prog_1_method_4_code, 4, (some (.int)), 0, 0, 347),
  (⟨"FairBooks", "over", "(II)I"⟩, prog_1_method_5_code, 3, (some (.int)), 0, 0, 408),
  (⟨"FairBooks", "dedicate", "(III)I"⟩, prog_1_method_6_code, 4, (some (.int)), 0, 0, 432),
  (⟨"FairBooks", "move", "(II)I"⟩, prog_1_method_7_code, 3, (some (.int)), 0, 0, 445),
  (⟨"FairBooks", "trade", "(III)I"⟩, prog_1_method_8_code, 4, (some (.int)), 0, 0, 472),
  (⟨"FairBooks", "tear", "(I)I"⟩, prog_1_method_9_code, 2, (some (.int)), 0, 0, 500),
  (⟨"FairBooks", "coins", "(II)I"⟩, prog_1_method_10_code, 3, (some (.int)), 0, 0, 509),
  (⟨"FairBooks", "pageOf", "(III)I"⟩, prog_1_method_11_code, 6, (some (.int)), 0, 0, 638),
  (⟨"FairBooks", "leafOf", "(II)I"⟩, prog_1_method_12_code, 5, (some (.int)), 0, 0, 517),
  (⟨"FairBooks", "at", "(II)I"⟩, prog_1_method_13_code, 4, (some (.int)), 0, 0, 632),
  (⟨"FairBooks", "collectorOf", "(II)I"⟩, prog_1_method_14_code, 4, (some (.int)), 0, 0, 589),
  (⟨"FairBooks", "nameOf", "(II)I"⟩, prog_1_method_15_code, 3, (some (.int)), 0, 0, 613),
  (⟨"FairBooks", "gain", "(IIII)I"⟩, prog_1_method_16_code, 8, (some (.int)), 0, 0, 659),
  (⟨"FairBooks", "fair", "(II)I"⟩, prog_1_method_17_code, 7, (some (.int)), 0, 0, 675),
  (⟨"FairBooks", "best", "(II)I"⟩, prog_1_method_18_code, 3, (some (.int)), 0, 0, 683),
  (⟨"FairBooks", "missing", "(II)I"⟩, prog_1_method_19_code, 3, (some (.int)), 0, 0, 702),
  (⟨"FairBooks", "mean", "(I)I"⟩, prog_1_method_20_code, 4, (some (.int)), 0, 0, 708),
  (⟨"FairBooks", "count", "(I)I"⟩, prog_1_method_21_code, 2, (some (.int)), 0, 0, 526),
  (⟨"FairBooks", "undo", "()I"⟩, prog_1_method_22_code, 1, (some (.int)), 0, 0, 567),
  (⟨"FairBooks", "type", "(I)I"⟩, prog_1_method_23_code, 2, (some (.int)), 0, 0, 718),
  (⟨"FairBooks", "clearText", "()I"⟩, prog_1_method_24_code, 2, (some (.int)), 0, 0, 815),
  (⟨"FairBooks", "fault", "(I)I"⟩, prog_1_method_25_code, 2, (some (.int)), 0, 0, 727),
  (⟨"FairBooks", "play", "()I"⟩, prog_1_method_26_code, 1, (some (.int)), 0, 0, 793),
  (⟨"FairBooks", "isCollector", "(I)Z"⟩, prog_1_method_27_code, 1, (some (.boolean)), 0, 0, 339),
  (⟨"FairBooks", "isTheme", "(I)Z"⟩, prog_1_method_28_code, 1, (some (.boolean)), 0, 0, 318),
  (⟨"FairBooks", "isSide", "(I)Z"⟩, prog_1_method_29_code, 1, (some (.boolean)), 0, 0, 362),
  (⟨"FairBooks", "arePaid", "(I)Z"⟩, prog_1_method_30_code, 1, (some (.boolean)), 0, 0, 479),
  (⟨"FairBooks", "bitsOf", "(F)I"⟩, prog_1_method_31_code, 4, (some (.int)), 0, 0, 712),
  (⟨"FairBooksLaw", "part", "(II)I"⟩, method_2_code, 2, (some (.int)), 0, 0, 575)]
def ab_yl3 : List ab_Y := [(⟨"FairBooksLaw", "drawn", "([II)I"⟩, method_3_code, 2, (some (.int)), 0, 0, 579),
  (⟨"FairBooksLaw", "seen", "(LFairBooks;)J"⟩, method_4_code, 6, (some (.long)), 0, 0, 583),
  (⟨"FairBooksLaw", "refusesAny", "(LFairBooks;I)Z"⟩, method_5_code, 7, (some (.boolean)), 0, 0, 652),
  (⟨"FairBooksLaw", "refused", "(LFairBooks;)Z"⟩, method_6_code, 4, (some (.boolean)), 0, 0, 649),
  (⟨"FairBooksLaw", "books", "()Z"⟩, method_7_code, 2, (some (.boolean)), 192, 3961, 771),
  (⟨"FairBooksLaw", "types", "(LFairBooks;J)Z"⟩, method_8_code, 6, (some (.boolean)), 0, 0, 788),
  (⟨"FairBooksLaw", "isFault", "(JJIII)Z"⟩, method_9_code, 8, (some (.boolean)), 192, 3961, 785),
  (⟨"FairBooksLaw", "texts", "()Z"⟩, method_10_code, 2, (some (.boolean)), 2880, 59415, 781)]
def ab_yl : List ab_Y := ab_yl0 ++ ab_yl1 ++ ab_yl2 ++ ab_yl3
def ab_y (y : Nat) : ab_Y := ab_yl.getD y (⟨"", "", ""⟩, ⟨#[]⟩, 0, none, 0, 0, 0)
def ab_yn (y : Nat) : MethodName := (ab_y y).1
def ab_cod (y : Nat) : ByteArray := (ab_y y).2.1
def ab_ml (y : Nat) : Nat := (ab_y y).2.2.1
def ab_rt (y : Nat) : Option FieldType := (ab_y y).2.2.2.1
def ab_mc (y : Nat) : Nat := (ab_y y).2.2.2.2.1
def ab_ms (y : Nat) : Nat := (ab_y y).2.2.2.2.2.1
def ab_cp (y : Nat) : Nat := (ab_y y).2.2.2.2.2.2
theorem ab_t1 {w : Jvm.Cond} (h : w ∈ tables_1_1) : w ∈ lw_tbl := List.mem_append_right _ (show w ∈ tables_1 from (List.mem_append_left _ h))
theorem ab_t2 {w : Jvm.Cond} (h : w ∈ tables_1_2) : w ∈ lw_tbl := List.mem_append_right _ (show w ∈ tables_1 from (List.mem_append_right _ (List.mem_append_left _ h)))
theorem ab_t3 {w : Jvm.Cond} (h : w ∈ tables_1_3) : w ∈ lw_tbl := List.mem_append_right _ (show w ∈ tables_1 from (List.mem_append_right _ (List.mem_append_right _ (List.mem_append_left _ h))))
theorem ab_t4 {w : Jvm.Cond} (h : w ∈ tables_1_4) : w ∈ lw_tbl := List.mem_append_right _ (show w ∈ tables_1 from (List.mem_append_right _ (List.mem_append_right _ (List.mem_append_right _ h))))
def ab_Tg : List Jvm.Cond := lw_tbl.filter goodWord
def ab_yP (q : ab_Y) : Prop := Jvm.Cond.code q.1 q.2.1 q.2.2.1 q.2.2.2.1 ∈ ab_Tg
theorem ab_cw0 : ab_yP (⟨"java/lang/Math", "max", "(II)I"⟩, prog_12_method_65_code, 2, (some (.int)), 0, 0, 678) := List.mem_filter.mpr ⟨ab_t3 (List.mem_of_getElem? (i := 190) rfl), rfl⟩
theorem ab_cw1 : ab_yP (⟨"java/lang/Math", "min", "(II)I"⟩, prog_12_method_69_code, 2, (some (.int)), 0, 0, 328) := List.mem_filter.mpr ⟨ab_t2 (List.mem_of_getElem? (i := 80) rfl), rfl⟩
theorem ab_cw2 : ab_yP (⟨"java/lang/Integer", "bitCount", "(I)I"⟩, prog_11_method_49_code, 1, (some (.int)), 0, 0, 401) := List.mem_filter.mpr ⟨ab_t2 (List.mem_of_getElem? (i := 153) rfl), rfl⟩
theorem ab_cw3 : ab_yP (⟨"FairBooks$Names", "<init>", "()V"⟩, prog_6_method_1_code, 1, none, 2, 32, 37) := List.mem_filter.mpr ⟨ab_t1 (List.mem_of_getElem? (i := 29) rfl), rfl⟩
theorem ab_cw4 : ab_yP (⟨"FairBooks$Names", "has", "(I)Z"⟩, prog_6_method_2_code, 2, (some (.boolean)), 0, 0, 366) := List.mem_filter.mpr ⟨ab_t2 (List.mem_of_getElem? (i := 118) rfl), rfl⟩
theorem ab_cw5 : ab_yP (⟨"FairBooks$Names", "fameOf", "(I)I"⟩, prog_6_method_3_code, 2, (some (.int)), 0, 0, 259) := List.mem_filter.mpr ⟨ab_t2 (List.mem_of_getElem? (i := 11) rfl), rfl⟩
theorem ab_cw6 : ab_yP (⟨"FairBooks$Names", "themeOf", "(I)I"⟩, prog_6_method_4_code, 2, (some (.int)), 0, 0, 263) := List.mem_filter.mpr ⟨ab_t2 (List.mem_of_getElem? (i := 15) rfl), rfl⟩
theorem ab_cw7 : ab_yP (⟨"FairBooks$Names", "setOf", "(I)I"⟩, prog_6_method_5_code, 4, (some (.int)), 0, 0, 398) := List.mem_filter.mpr ⟨ab_t2 (List.mem_of_getElem? (i := 150) rfl), rfl⟩
theorem ab_cw8 : ab_yP (⟨"FairBooks$Names", "add", "(II)V"⟩, prog_6_method_6_code, 3, none, 0, 0, 267) := List.mem_filter.mpr ⟨ab_t2 (List.mem_of_getElem? (i := 19) rfl), rfl⟩
theorem ab_cw9 : ab_yP (⟨"FairBooks$Names", "copyFrom", "(LFairBooks$Names;)V"⟩, prog_6_method_7_code, 3, none, 0, 0, 255) := List.mem_filter.mpr ⟨ab_t2 (List.mem_of_getElem? (i := 7) rfl), rfl⟩
theorem ab_cw10 : ab_yP (⟨"FairBooks$Book", "<init>", "(I)V"⟩, prog_4_method_1_code, 2, none, 4, 112, 56) := List.mem_filter.mpr ⟨ab_t1 (List.mem_of_getElem? (i := 48) rfl), rfl⟩
theorem ab_cw11 : ab_yP (⟨"FairBooks$Book", "numberAt", "(I)I"⟩, prog_4_method_2_code, 2, (some (.int)), 0, 0, 287) := List.mem_filter.mpr ⟨ab_t2 (List.mem_of_getElem? (i := 39) rfl), rfl⟩
theorem ab_cw12 : ab_yP (⟨"FairBooks$Book", "kindOf", "(I)I"⟩, prog_4_method_3_code, 2, (some (.int)), 0, 0, 291) := List.mem_filter.mpr ⟨ab_t2 (List.mem_of_getElem? (i := 43) rfl), rfl⟩
theorem ab_cw13 : ab_yP (⟨"FairBooks$Book", "nameOn", "(I)I"⟩, prog_4_method_4_code, 2, (some (.int)), 0, 0, 295) := List.mem_filter.mpr ⟨ab_t2 (List.mem_of_getElem? (i := 47) rfl), rfl⟩
theorem ab_cw14 : ab_yP (⟨"FairBooks$Book", "friendOn", "(I)I"⟩, prog_4_method_5_code, 2, (some (.int)), 0, 0, 299) := List.mem_filter.mpr ⟨ab_t2 (List.mem_of_getElem? (i := 51) rfl), rfl⟩
theorem ab_cw15 : ab_yP (⟨"FairBooks$Book", "find", "(I)I"⟩, prog_4_method_6_code, 3, (some (.int)), 0, 0, 359) := List.mem_filter.mpr ⟨ab_t2 (List.mem_of_getElem? (i := 111) rfl), rfl⟩
theorem ab_cw16 : ab_yP (⟨"FairBooks$Book", "startsEntry", "(I)Z"⟩, prog_4_method_7_code, 2, (some (.boolean)), 0, 0, 381) := List.mem_filter.mpr ⟨ab_t2 (List.mem_of_getElem? (i := 133) rfl), rfl⟩
theorem ab_cw17 : ab_yP (⟨"FairBooks$Book", "countEntries", "()I"⟩, prog_4_method_8_code, 3, (some (.int)), 0, 0, 538) := List.mem_filter.mpr ⟨ab_t3 (List.mem_of_getElem? (i := 50) rfl), rfl⟩
theorem ab_cw18 : ab_yP (⟨"FairBooks$Book", "countEntriesOf", "(I)I"⟩, prog_4_method_9_code, 4, (some (.int)), 0, 0, 624) := List.mem_filter.mpr ⟨ab_t3 (List.mem_of_getElem? (i := 136) rfl), rfl⟩
theorem ab_cw19 : ab_yP (⟨"FairBooks$Book", "countDedicatedTo", "(I)I"⟩, prog_4_method_10_code, 4, (some (.int)), 0, 0, 563) := List.mem_filter.mpr ⟨ab_t3 (List.mem_of_getElem? (i := 75) rfl), rfl⟩
theorem ab_cw20 : ab_yP (⟨"FairBooks$Book", "countDedicated", "()I"⟩, prog_4_method_11_code, 1, (some (.int)), 0, 0, 558) := List.mem_filter.mpr ⟨ab_t3 (List.mem_of_getElem? (i := 70) rfl), rfl⟩
theorem ab_cw21 : ab_yP (⟨"FairBooks$Book", "nameSet", "()I"⟩, prog_4_method_12_code, 1, (some (.int)), 0, 0, 599) := List.mem_filter.mpr ⟨ab_t3 (List.mem_of_getElem? (i := 111) rfl), rfl⟩
theorem ab_cw22 : ab_yP (⟨"FairBooks$Book", "namesAhead", "(I)I"⟩, prog_4_method_13_code, 4, (some (.int)), 0, 0, 394) := List.mem_filter.mpr ⟨ab_t2 (List.mem_of_getElem? (i := 146) rfl), rfl⟩
theorem ab_cw23 : ab_yP (⟨"FairBooks$Book", "valueOn", "(ILFairBooks$Names;)I"⟩, prog_4_method_14_code, 4, (some (.int)), 0, 0, 646) := List.mem_filter.mpr ⟨ab_t3 (List.mem_of_getElem? (i := 158) rfl), rfl⟩
theorem ab_cw24 : ab_yP (⟨"FairBooks$Book", "valueBehind", "(IILFairBooks$Names;)I"⟩, prog_4_method_15_code, 7, (some (.int)), 0, 0, 385) := List.mem_filter.mpr ⟨ab_t2 (List.mem_of_getElem? (i := 137) rfl), rfl⟩
theorem ab_cw25 : ab_yP (⟨"FairBooks$Book", "sumOfValues", "(LFairBooks$Names;)I"⟩, prog_4_method_16_code, 5, (some (.int)), 0, 0, 377) := List.mem_filter.mpr ⟨ab_t2 (List.mem_of_getElem? (i := 129) rfl), rfl⟩
theorem ab_cw26 : ab_yP (⟨"FairBooks$Book", "wholeThemes", "(LFairBooks$Names;)I"⟩, prog_4_method_17_code, 6, (some (.int)), 0, 0, 390) := List.mem_filter.mpr ⟨ab_t2 (List.mem_of_getElem? (i := 142) rfl), rfl⟩
theorem ab_cw27 : ab_yP (⟨"FairBooks$Book", "worth", "(LFairBooks$Names;)I"⟩, prog_4_method_18_code, 5, (some (.int)), 0, 0, 373) := List.mem_filter.mpr ⟨ab_t2 (List.mem_of_getElem? (i := 125) rfl), rfl⟩
theorem ab_cw28 : ab_yP (⟨"FairBooks$Book", "isJoined", "(I)Z"⟩, prog_4_method_19_code, 3, (some (.boolean)), 0, 0, 424) := List.mem_filter.mpr ⟨ab_t2 (List.mem_of_getElem? (i := 176) rfl), rfl⟩
theorem ab_cw29 : ab_yP (⟨"FairBooks$Book", "startsBundle", "(I)Z"⟩, prog_4_method_20_code, 2, (some (.boolean)), 0, 0, 608) := List.mem_filter.mpr ⟨ab_t3 (List.mem_of_getElem? (i := 120) rfl), rfl⟩
theorem ab_cw30 : ab_yP (⟨"FairBooks$Book", "bundleFirst", "(I)I"⟩, prog_4_method_21_code, 3, (some (.int)), 0, 0, 428) := List.mem_filter.mpr ⟨ab_t2 (List.mem_of_getElem? (i := 180) rfl), rfl⟩
theorem ab_cw31 : ab_yP (⟨"FairBooks$Book", "bundleEnd", "(I)I"⟩, prog_4_method_22_code, 3, (some (.int)), 0, 0, 420) := List.mem_filter.mpr ⟨ab_t2 (List.mem_of_getElem? (i := 172) rfl), rfl⟩
theorem ab_cw32 : ab_yP (⟨"FairBooks$Book", "bundleSize", "(I)I"⟩, prog_4_method_23_code, 2, (some (.int)), 0, 0, 416) := List.mem_filter.mpr ⟨ab_t2 (List.mem_of_getElem? (i := 168) rfl), rfl⟩
theorem ab_cw33 : ab_yP (⟨"FairBooks$Book", "countBundles", "()I"⟩, prog_4_method_24_code, 3, (some (.int)), 0, 0, 604) := List.mem_filter.mpr ⟨ab_t3 (List.mem_of_getElem? (i := 116) rfl), rfl⟩
theorem ab_cw34 : ab_yP (⟨"FairBooks$Book", "canShift", "(II)Z"⟩, prog_4_method_25_code, 5, (some (.boolean)), 0, 0, 453) := List.mem_filter.mpr ⟨ab_t2 (List.mem_of_getElem? (i := 205) rfl), rfl⟩
theorem ab_cw35 : ab_yP (⟨"FairBooks$Book", "setEntry", "(IIII)V"⟩, prog_4_method_26_code, 5, none, 0, 0, 303) := List.mem_filter.mpr ⟨ab_t2 (List.mem_of_getElem? (i := 55) rfl), rfl⟩
theorem ab_cw36 : ab_yP (⟨"FairBooks$Book", "setFriend", "(II)V"⟩, prog_4_method_27_code, 3, none, 0, 0, 441) := List.mem_filter.mpr ⟨ab_t2 (List.mem_of_getElem? (i := 193) rfl), rfl⟩
theorem ab_cw37 : ab_yP (⟨"FairBooks$Book", "addLeaf", "(I)V"⟩, prog_4_method_28_code, 2, none, 0, 0, 343) := List.mem_filter.mpr ⟨ab_t2 (List.mem_of_getElem? (i := 95) rfl), rfl⟩
theorem ab_cw38 : ab_yP (⟨"FairBooks$Book", "addLeaves", "(LFairBooks$Book;II)V"⟩, prog_4_method_29_code, 7, none, 0, 0, 283) := List.mem_filter.mpr ⟨ab_t2 (List.mem_of_getElem? (i := 35) rfl), rfl⟩
theorem ab_cw39 : ab_yP (⟨"FairBooks$Book", "clearFor", "(I)V"⟩, prog_4_method_30_code, 2, none, 0, 0, 279) := List.mem_filter.mpr ⟨ab_t2 (List.mem_of_getElem? (i := 31) rfl), rfl⟩
theorem ab_cw40 : ab_yP (⟨"FairBooks$Book", "copyFrom", "(LFairBooks$Book;)V"⟩, prog_4_method_31_code, 2, none, 0, 0, 275) := List.mem_filter.mpr ⟨ab_t2 (List.mem_of_getElem? (i := 27) rfl), rfl⟩
theorem ab_yq0 : ∀ q ∈ ab_yl0, ab_yP q := (List.forall_mem_cons.mpr ⟨ab_cw0, (List.forall_mem_cons.mpr ⟨ab_cw1, (List.forall_mem_cons.mpr ⟨ab_cw2, (List.forall_mem_cons.mpr ⟨ab_cw3, (List.forall_mem_cons.mpr ⟨ab_cw4, (List.forall_mem_cons.mpr ⟨ab_cw5, (List.forall_mem_cons.mpr ⟨ab_cw6, (List.forall_mem_cons.mpr ⟨ab_cw7, (List.forall_mem_cons.mpr ⟨ab_cw8, (List.forall_mem_cons.mpr ⟨ab_cw9, (List.forall_mem_cons.mpr ⟨ab_cw10, (List.forall_mem_cons.mpr ⟨ab_cw11, (List.forall_mem_cons.mpr ⟨ab_cw12, (List.forall_mem_cons.mpr ⟨ab_cw13, (List.forall_mem_cons.mpr ⟨ab_cw14, (List.forall_mem_cons.mpr ⟨ab_cw15, (List.forall_mem_cons.mpr ⟨ab_cw16, (List.forall_mem_cons.mpr ⟨ab_cw17, (List.forall_mem_cons.mpr ⟨ab_cw18, (List.forall_mem_cons.mpr ⟨ab_cw19, (List.forall_mem_cons.mpr ⟨ab_cw20, (List.forall_mem_cons.mpr ⟨ab_cw21, (List.forall_mem_cons.mpr ⟨ab_cw22, (List.forall_mem_cons.mpr ⟨ab_cw23, (List.forall_mem_cons.mpr ⟨ab_cw24, (List.forall_mem_cons.mpr ⟨ab_cw25, (List.forall_mem_cons.mpr ⟨ab_cw26, (List.forall_mem_cons.mpr ⟨ab_cw27, (List.forall_mem_cons.mpr ⟨ab_cw28, (List.forall_mem_cons.mpr ⟨ab_cw29, (List.forall_mem_cons.mpr ⟨ab_cw30, (List.forall_mem_cons.mpr ⟨ab_cw31, (List.forall_mem_cons.mpr ⟨ab_cw32, (List.forall_mem_cons.mpr ⟨ab_cw33, (List.forall_mem_cons.mpr ⟨ab_cw34, (List.forall_mem_cons.mpr ⟨ab_cw35, (List.forall_mem_cons.mpr ⟨ab_cw36, (List.forall_mem_cons.mpr ⟨ab_cw37, (List.forall_mem_cons.mpr ⟨ab_cw38, (List.forall_mem_cons.mpr ⟨ab_cw39, (List.forall_mem_cons.mpr ⟨ab_cw40, (fun _ h => absurd h List.not_mem_nil)⟩)⟩)⟩)⟩)⟩)⟩)⟩)⟩)⟩)⟩)⟩)⟩)⟩)⟩)⟩)⟩)⟩)⟩)⟩)⟩)⟩)⟩)⟩)⟩)⟩)⟩)⟩)⟩)⟩)⟩)⟩)⟩)⟩)⟩)⟩)⟩)⟩)⟩)⟩)⟩)⟩)
theorem ab_cw41 : ab_yP (⟨"FairBooks$Bench", "<init>", "()V"⟩, prog_2_method_1_code, 1, none, 10, 236, 181) := List.mem_filter.mpr ⟨ab_t1 (List.mem_of_getElem? (i := 173) rfl), rfl⟩
theorem ab_cw42 : ab_yP (⟨"FairBooks$Bench", "takeOut", "(LFairBooks$Book;I)V"⟩, prog_2_method_2_code, 3, none, 0, 0, 467) := List.mem_filter.mpr ⟨ab_t2 (List.mem_of_getElem? (i := 219) rfl), rfl⟩
theorem ab_cw43 : ab_yP (⟨"FairBooks$Bench", "shift", "(LFairBooks$Book;II)V"⟩, prog_2_method_3_code, 4, none, 0, 0, 459) := List.mem_filter.mpr ⟨ab_t2 (List.mem_of_getElem? (i := 211) rfl), rfl⟩
theorem ab_cw44 : ab_yP (⟨"FairBooks$Bench", "layOut", "(LFairBooks$Book;ILFairBooks$Book;I)V"⟩, prog_2_method_4_code, 5, none, 0, 0, 483) := List.mem_filter.mpr ⟨ab_t2 (List.mem_of_getElem? (i := 235) rfl), rfl⟩
theorem ab_cw45 : ab_yP (⟨"FairBooks$Bench", "layOutFor", "(LFairBooks$Book;LFairBooks$Book;ILFairBooks$Book;I)V"⟩, prog_2_method_5_code, 6, none, 0, 0, 487) := List.mem_filter.mpr ⟨ab_t2 (List.mem_of_getElem? (i := 239) rfl), rfl⟩
theorem ab_cw46 : ab_yP (⟨"FairBooks$Bench", "fits", "()Z"⟩, prog_2_method_6_code, 1, (some (.boolean)), 0, 0, 492) := List.mem_filter.mpr ⟨ab_t3 (List.mem_of_getElem? (i := 4) rfl), rfl⟩
theorem ab_cw47 : ab_yP (⟨"FairBooks$Bench", "gainOfOne", "(LFairBooks$Names;)I"⟩, prog_2_method_7_code, 2, (some (.int)), 0, 0, 665) := List.mem_filter.mpr ⟨ab_t3 (List.mem_of_getElem? (i := 177) rfl), rfl⟩
theorem ab_cw48 : ab_yP (⟨"FairBooks$Bench", "gainOfOther", "(LFairBooks$Names;)I"⟩, prog_2_method_8_code, 2, (some (.int)), 0, 0, 670) := List.mem_filter.mpr ⟨ab_t3 (List.mem_of_getElem? (i := 182) rfl), rfl⟩
theorem ab_cw49 : ab_yP (⟨"FairBooks$Bench", "settle", "()V"⟩, prog_2_method_9_code, 1, none, 0, 0, 496) := List.mem_filter.mpr ⟨ab_t3 (List.mem_of_getElem? (i := 8) rfl), rfl⟩
theorem ab_cw50 : ab_yP (⟨"FairBooks$State", "<init>", "()V"⟩, prog_8_method_1_code, 1, none, 24, 511, 31) := List.mem_filter.mpr ⟨ab_t1 (List.mem_of_getElem? (i := 23) rfl), rfl⟩
theorem ab_cw51 : ab_yP (⟨"FairBooks$State", "copyFrom", "(LFairBooks$State;)V"⟩, prog_8_method_2_code, 3, none, 0, 0, 251) := List.mem_filter.mpr ⟨ab_t2 (List.mem_of_getElem? (i := 3) rfl), rfl⟩
theorem ab_cw52 : ab_yP (⟨"FairBooks$State", "bookOf", "(I)LFairBooks$Book;"⟩, prog_8_method_3_code, 2, (some (.object "FairBooks$Book")), 0, 0, 271) := List.mem_filter.mpr ⟨ab_t2 (List.mem_of_getElem? (i := 23) rfl), rfl⟩
theorem ab_cw53 : ab_yP (⟨"FairBooks$State", "bookWith", "(I)LFairBooks$Book;"⟩, prog_8_method_4_code, 3, (some (.object "FairBooks$Book")), 0, 0, 355) := List.mem_filter.mpr ⟨ab_t2 (List.mem_of_getElem? (i := 107) rfl), rfl⟩
theorem ab_cw54 : ab_yP (⟨"FairBooks$State", "purseOf", "(I)I"⟩, prog_8_method_5_code, 2, (some (.int)), 0, 0, 307) := List.mem_filter.mpr ⟨ab_t2 (List.mem_of_getElem? (i := 59) rfl), rfl⟩
theorem ab_cw55 : ab_yP (⟨"FairBooks$State", "setPurse", "(II)V"⟩, prog_8_method_6_code, 3, none, 0, 0, 311) := List.mem_filter.mpr ⟨ab_t2 (List.mem_of_getElem? (i := 63) rfl), rfl⟩
theorem ab_cw56 : ab_yP (⟨"FairBooks$State", "addName", "(II)I"⟩, prog_8_method_7_code, 3, (some (.int)), 0, 0, 315) := List.mem_filter.mpr ⟨ab_t2 (List.mem_of_getElem? (i := 67) rfl), rfl⟩
theorem ab_cw57 : ab_yP (⟨"FairBooks$State", "addLeaf", "(I)I"⟩, prog_8_method_8_code, 3, (some (.int)), 0, 0, 336) := List.mem_filter.mpr ⟨ab_t2 (List.mem_of_getElem? (i := 88) rfl), rfl⟩
theorem ab_cw58 : ab_yP (⟨"FairBooks$State", "addEntry", "(IIII)I"⟩, prog_8_method_9_code, 7, (some (.int)), 0, 0, 351) := List.mem_filter.mpr ⟨ab_t2 (List.mem_of_getElem? (i := 103) rfl), rfl⟩
theorem ab_cw59 : ab_yP (⟨"FairBooks$State", "addWideEntry", "(II)I"⟩, prog_8_method_10_code, 6, (some (.int)), 0, 0, 412) := List.mem_filter.mpr ⟨ab_t2 (List.mem_of_getElem? (i := 164) rfl), rfl⟩
theorem ab_cw60 : ab_yP (⟨"FairBooks$State", "setFriend", "(III)I"⟩, prog_8_method_11_code, 7, (some (.int)), 0, 0, 436) := List.mem_filter.mpr ⟨ab_t2 (List.mem_of_getElem? (i := 188) rfl), rfl⟩
theorem ab_cw61 : ab_yP (⟨"FairBooks$State", "shiftBundle", "(IILFairBooks$Bench;)I"⟩, prog_8_method_12_code, 7, (some (.int)), 0, 0, 449) := List.mem_filter.mpr ⟨ab_t2 (List.mem_of_getElem? (i := 201) rfl), rfl⟩
theorem ab_cw62 : ab_yP (⟨"FairBooks$State", "exchange", "(IIILFairBooks$Bench;)I"⟩, prog_8_method_13_code, 9, (some (.int)), 0, 0, 476) := List.mem_filter.mpr ⟨ab_t2 (List.mem_of_getElem? (i := 228) rfl), rfl⟩
theorem ab_cw63 : ab_yP (⟨"FairBooks$State", "takeOut", "(ILFairBooks$Bench;)I"⟩, prog_8_method_14_code, 5, (some (.int)), 0, 0, 504) := List.mem_filter.mpr ⟨ab_t3 (List.mem_of_getElem? (i := 16) rfl), rfl⟩
theorem ab_cw64 : ab_yP (⟨"FairBooks$State", "fillPurse", "(II)I"⟩, prog_8_method_15_code, 4, (some (.int)), 0, 0, 513) := List.mem_filter.mpr ⟨ab_t3 (List.mem_of_getElem? (i := 25) rfl), rfl⟩
theorem ab_cw65 : ab_yP (⟨"FairBooks$State", "wealth", "(I)I"⟩, prog_8_method_16_code, 2, (some (.int)), 0, 0, 546) := List.mem_filter.mpr ⟨ab_t3 (List.mem_of_getElem? (i := 58) rfl), rfl⟩
theorem ab_cw66 : ab_yP (⟨"FairBooks$State", "richest", "()I"⟩, prog_8_method_17_code, 3, (some (.int)), 0, 0, 542) := List.mem_filter.mpr ⟨ab_t3 (List.mem_of_getElem? (i := 54) rfl), rfl⟩
theorem ab_cw67 : ab_yP (⟨"FairBooks$State", "sumOfWorths", "()I"⟩, prog_8_method_18_code, 3, (some (.int)), 0, 0, 550) := List.mem_filter.mpr ⟨ab_t3 (List.mem_of_getElem? (i := 62) rfl), rfl⟩
theorem ab_cw68 : ab_yP (⟨"FairBooks$State", "countLeaves", "()I"⟩, prog_8_method_19_code, 1, (some (.int)), 0, 0, 530) := List.mem_filter.mpr ⟨ab_t3 (List.mem_of_getElem? (i := 42) rfl), rfl⟩
theorem ab_cw69 : ab_yP (⟨"FairBooks$State", "countEntries", "()I"⟩, prog_8_method_20_code, 3, (some (.int)), 0, 0, 534) := List.mem_filter.mpr ⟨ab_t3 (List.mem_of_getElem? (i := 46) rfl), rfl⟩
theorem ab_cw70 : ab_yP (⟨"FairBooks$State", "countDedicated", "()I"⟩, prog_8_method_21_code, 3, (some (.int)), 0, 0, 554) := List.mem_filter.mpr ⟨ab_t3 (List.mem_of_getElem? (i := 66) rfl), rfl⟩
theorem ab_cw71 : ab_yP (⟨"FairBooks$State", "countEntriesOf", "(I)I"⟩, prog_8_method_22_code, 4, (some (.int)), 0, 0, 620) := List.mem_filter.mpr ⟨ab_t3 (List.mem_of_getElem? (i := 132) rfl), rfl⟩
theorem ab_cw72 : ab_yP (⟨"FairBooks$State", "ownersOf", "(I)I"⟩, prog_8_method_23_code, 4, (some (.int)), 0, 0, 628) := List.mem_filter.mpr ⟨ab_t3 (List.mem_of_getElem? (i := 140) rfl), rfl⟩
theorem ab_cw73 : ab_yP (⟨"FairBooks$BestTrade", "<init>", "()V"⟩, prog_3_method_1_code, 1, none, 0, 0, 206) := List.mem_filter.mpr ⟨ab_t1 (List.mem_of_getElem? (i := 198) rfl), rfl⟩
theorem ab_cw74 : ab_yP (⟨"FairBooks$BestTrade", "search", "(LFairBooks$State;ILFairBooks$Bench;)V"⟩, prog_3_method_2_code, 7, none, 0, 0, 687) := List.mem_filter.mpr ⟨ab_t3 (List.mem_of_getElem? (i := 199) rfl), rfl⟩
theorem ab_cw75 : ab_yP (⟨"FairBooks$BestTrade", "searchBook", "(LFairBooks$Names;LFairBooks$Book;ILFairBooks$Book;LFairBooks$Bench;)V"⟩, prog_3_method_3_code, 8, none, 0, 0, 693) := List.mem_filter.mpr ⟨ab_t3 (List.mem_of_getElem? (i := 205) rfl), rfl⟩
theorem ab_cw76 : ab_yP (⟨"FairBooks$History", "<init>", "()V"⟩, prog_5_method_1_code, 1, none, 125, 2595, 117) := List.mem_filter.mpr ⟨ab_t1 (List.mem_of_getElem? (i := 109) rfl), rfl⟩
theorem ab_cw77 : ab_yP (⟨"FairBooks$History", "prepare", "(LFairBooks$State;)V"⟩, prog_5_method_2_code, 2, none, 0, 0, 247) := List.mem_filter.mpr ⟨ab_t1 (List.mem_of_getElem? (i := 239) rfl), rfl⟩
theorem ab_cw78 : ab_yP (⟨"FairBooks$History", "keep", "(I)I"⟩, prog_5_method_3_code, 3, (some (.int)), 0, 0, 325) := List.mem_filter.mpr ⟨ab_t2 (List.mem_of_getElem? (i := 77) rfl), rfl⟩
theorem ab_cw79 : ab_yP (⟨"FairBooks$History", "restore", "(LFairBooks$State;)V"⟩, prog_5_method_4_code, 3, none, 0, 0, 572) := List.mem_filter.mpr ⟨ab_t3 (List.mem_of_getElem? (i := 84) rfl), rfl⟩
theorem ab_cw80 : ab_yP (⟨"FairBooks$Orders", "<init>", "()V"⟩, prog_7_method_1_code, 1, none, 2, 64, 145) := List.mem_filter.mpr ⟨ab_t1 (List.mem_of_getElem? (i := 137) rfl), rfl⟩
theorem ab_cw81 : ab_yP (⟨"FairBooks$Orders", "append", "(I)V"⟩, prog_7_method_2_code, 2, none, 0, 0, 723) := List.mem_filter.mpr ⟨ab_t3 (List.mem_of_getElem? (i := 235) rfl), rfl⟩
theorem ab_yq1 : ∀ q ∈ ab_yl1, ab_yP q := (List.forall_mem_cons.mpr ⟨ab_cw41, (List.forall_mem_cons.mpr ⟨ab_cw42, (List.forall_mem_cons.mpr ⟨ab_cw43, (List.forall_mem_cons.mpr ⟨ab_cw44, (List.forall_mem_cons.mpr ⟨ab_cw45, (List.forall_mem_cons.mpr ⟨ab_cw46, (List.forall_mem_cons.mpr ⟨ab_cw47, (List.forall_mem_cons.mpr ⟨ab_cw48, (List.forall_mem_cons.mpr ⟨ab_cw49, (List.forall_mem_cons.mpr ⟨ab_cw50, (List.forall_mem_cons.mpr ⟨ab_cw51, (List.forall_mem_cons.mpr ⟨ab_cw52, (List.forall_mem_cons.mpr ⟨ab_cw53, (List.forall_mem_cons.mpr ⟨ab_cw54, (List.forall_mem_cons.mpr ⟨ab_cw55, (List.forall_mem_cons.mpr ⟨ab_cw56, (List.forall_mem_cons.mpr ⟨ab_cw57, (List.forall_mem_cons.mpr ⟨ab_cw58, (List.forall_mem_cons.mpr ⟨ab_cw59, (List.forall_mem_cons.mpr ⟨ab_cw60, (List.forall_mem_cons.mpr ⟨ab_cw61, (List.forall_mem_cons.mpr ⟨ab_cw62, (List.forall_mem_cons.mpr ⟨ab_cw63, (List.forall_mem_cons.mpr ⟨ab_cw64, (List.forall_mem_cons.mpr ⟨ab_cw65, (List.forall_mem_cons.mpr ⟨ab_cw66, (List.forall_mem_cons.mpr ⟨ab_cw67, (List.forall_mem_cons.mpr ⟨ab_cw68, (List.forall_mem_cons.mpr ⟨ab_cw69, (List.forall_mem_cons.mpr ⟨ab_cw70, (List.forall_mem_cons.mpr ⟨ab_cw71, (List.forall_mem_cons.mpr ⟨ab_cw72, (List.forall_mem_cons.mpr ⟨ab_cw73, (List.forall_mem_cons.mpr ⟨ab_cw74, (List.forall_mem_cons.mpr ⟨ab_cw75, (List.forall_mem_cons.mpr ⟨ab_cw76, (List.forall_mem_cons.mpr ⟨ab_cw77, (List.forall_mem_cons.mpr ⟨ab_cw78, (List.forall_mem_cons.mpr ⟨ab_cw79, (List.forall_mem_cons.mpr ⟨ab_cw80, (List.forall_mem_cons.mpr ⟨ab_cw81, (fun _ h => absurd h List.not_mem_nil)⟩)⟩)⟩)⟩)⟩)⟩)⟩)⟩)⟩)⟩)⟩)⟩)⟩)⟩)⟩)⟩)⟩)⟩)⟩)⟩)⟩)⟩)⟩)⟩)⟩)⟩)⟩)⟩)⟩)⟩)⟩)⟩)⟩)⟩)⟩)⟩)⟩)⟩)⟩)⟩)⟩)
theorem ab_cw82 : ab_yP (⟨"FairBooks$Orders", "run", "(LFairBooks$State;LFairBooks$State;LFairBooks$Bench;)V"⟩, prog_7_method_3_code, 6, none, 0, 0, 731) := List.mem_filter.mpr ⟨ab_t4 (List.mem_of_getElem? (i := 3) rfl), rfl⟩
theorem ab_cw83 : ab_yP (⟨"FairBooks$Orders", "characterAt", "(I)I"⟩, prog_7_method_4_code, 2, (some (.int)), 0, 0, 740) := List.mem_filter.mpr ⟨ab_t4 (List.mem_of_getElem? (i := 12) rfl), rfl⟩
theorem ab_cw84 : ab_yP (⟨"FairBooks$Orders", "readOrder", "()Z"⟩, prog_7_method_5_code, 3, (some (.boolean)), 0, 0, 736) := List.mem_filter.mpr ⟨ab_t4 (List.mem_of_getElem? (i := 8) rfl), rfl⟩
theorem ab_cw85 : ab_yP (⟨"FairBooks$Orders", "skip", "(C)Z"⟩, prog_7_method_6_code, 2, (some (.boolean)), 0, 0, 747) := List.mem_filter.mpr ⟨ab_t4 (List.mem_of_getElem? (i := 19) rfl), rfl⟩
theorem ab_cw86 : ab_yP (⟨"FairBooks$Orders", "readNumber", "(I)V"⟩, prog_7_method_7_code, 3, none, 0, 0, 754) := List.mem_filter.mpr ⟨ab_t4 (List.mem_of_getElem? (i := 26) rfl), rfl⟩
theorem ab_cw87 : ab_yP (⟨"FairBooks$Orders", "number", "(I)I"⟩, prog_7_method_8_code, 2, (some (.int)), 0, 0, 762) := List.mem_filter.mpr ⟨ab_t4 (List.mem_of_getElem? (i := 34) rfl), rfl⟩
theorem ab_cw88 : ab_yP (⟨"FairBooks$Orders", "doOrder", "(LFairBooks$State;LFairBooks$Bench;)I"⟩, prog_7_method_9_code, 3, (some (.int)), 0, 0, 758) := List.mem_filter.mpr ⟨ab_t4 (List.mem_of_getElem? (i := 30) rfl), rfl⟩
theorem ab_cw89 : ab_yP (⟨"FairBooks$Orders", "howManyNumbers", "(I)I"⟩, prog_7_method_10_code, 1, (some (.int)), 0, 0, 743) := List.mem_filter.mpr ⟨ab_t4 (List.mem_of_getElem? (i := 15) rfl), rfl⟩
theorem ab_cw90 : ab_yP (⟨"FairBooks$Orders", "isDigit", "(I)Z"⟩, prog_7_method_11_code, 1, (some (.boolean)), 0, 0, 750) := List.mem_filter.mpr ⟨ab_t4 (List.mem_of_getElem? (i := 22) rfl), rfl⟩
theorem ab_cw91 : ab_yP (⟨"FairBooks", "<init>", "()V"⟩, prog_1_method_1_code, 1, none, 191, 3955, 23) := List.mem_filter.mpr ⟨ab_t1 (List.mem_of_getElem? (i := 15) rfl), rfl⟩
theorem ab_cw92 : ab_yP (⟨"FairBooks", "name", "(II)I"⟩, prog_1_method_2_code, 3, (some (.int)), 0, 0, 243) := List.mem_filter.mpr ⟨ab_t1 (List.mem_of_getElem? (i := 235) rfl), rfl⟩
theorem ab_cw93 : ab_yP (⟨"FairBooks", "leaf", "(I)I"⟩, prog_1_method_3_code, 2, (some (.int)), 0, 0, 332) := List.mem_filter.mpr ⟨ab_t2 (List.mem_of_getElem? (i := 84) rfl), rfl⟩
theorem ab_cw94 : ab_yP (⟨"FairBooks", "sign", "(III)I"⟩, prog_1_method_4_code, 4, (some (.int)), 0, 0, 347) := List.mem_filter.mpr ⟨ab_t2 (List.mem_of_getElem? (i := 99) rfl), rfl⟩
theorem ab_cw95 : ab_yP (⟨"FairBooks", "over", "(II)I"⟩, prog_1_method_5_code, 3, (some (.int)), 0, 0, 408) := List.mem_filter.mpr ⟨ab_t2 (List.mem_of_getElem? (i := 160) rfl), rfl⟩
theorem ab_cw96 : ab_yP (⟨"FairBooks", "dedicate", "(III)I"⟩, prog_1_method_6_code, 4, (some (.int)), 0, 0, 432) := List.mem_filter.mpr ⟨ab_t2 (List.mem_of_getElem? (i := 184) rfl), rfl⟩
theorem ab_cw97 : ab_yP (⟨"FairBooks", "move", "(II)I"⟩, prog_1_method_7_code, 3, (some (.int)), 0, 0, 445) := List.mem_filter.mpr ⟨ab_t2 (List.mem_of_getElem? (i := 197) rfl), rfl⟩
theorem ab_cw98 : ab_yP (⟨"FairBooks", "trade", "(III)I"⟩, prog_1_method_8_code, 4, (some (.int)), 0, 0, 472) := List.mem_filter.mpr ⟨ab_t2 (List.mem_of_getElem? (i := 224) rfl), rfl⟩
theorem ab_cw99 : ab_yP (⟨"FairBooks", "tear", "(I)I"⟩, prog_1_method_9_code, 2, (some (.int)), 0, 0, 500) := List.mem_filter.mpr ⟨ab_t3 (List.mem_of_getElem? (i := 12) rfl), rfl⟩
theorem ab_cw100 : ab_yP (⟨"FairBooks", "coins", "(II)I"⟩, prog_1_method_10_code, 3, (some (.int)), 0, 0, 509) := List.mem_filter.mpr ⟨ab_t3 (List.mem_of_getElem? (i := 21) rfl), rfl⟩
theorem ab_cw101 : ab_yP (⟨"FairBooks", "pageOf", "(III)I"⟩, prog_1_method_11_code, 6, (some (.int)), 0, 0, 638) := List.mem_filter.mpr ⟨ab_t3 (List.mem_of_getElem? (i := 150) rfl), rfl⟩
theorem ab_cw102 : ab_yP (⟨"FairBooks", "leafOf", "(II)I"⟩, prog_1_method_12_code, 5, (some (.int)), 0, 0, 517) := List.mem_filter.mpr ⟨ab_t3 (List.mem_of_getElem? (i := 29) rfl), rfl⟩
theorem ab_cw103 : ab_yP (⟨"FairBooks", "at", "(II)I"⟩, prog_1_method_13_code, 4, (some (.int)), 0, 0, 632) := List.mem_filter.mpr ⟨ab_t3 (List.mem_of_getElem? (i := 144) rfl), rfl⟩
theorem ab_cw104 : ab_yP (⟨"FairBooks", "collectorOf", "(II)I"⟩, prog_1_method_14_code, 4, (some (.int)), 0, 0, 589) := List.mem_filter.mpr ⟨ab_t3 (List.mem_of_getElem? (i := 101) rfl), rfl⟩
theorem ab_cw105 : ab_yP (⟨"FairBooks", "nameOf", "(II)I"⟩, prog_1_method_15_code, 3, (some (.int)), 0, 0, 613) := List.mem_filter.mpr ⟨ab_t3 (List.mem_of_getElem? (i := 125) rfl), rfl⟩
theorem ab_cw106 : ab_yP (⟨"FairBooks", "gain", "(IIII)I"⟩, prog_1_method_16_code, 8, (some (.int)), 0, 0, 659) := List.mem_filter.mpr ⟨ab_t3 (List.mem_of_getElem? (i := 171) rfl), rfl⟩
theorem ab_cw107 : ab_yP (⟨"FairBooks", "fair", "(II)I"⟩, prog_1_method_17_code, 7, (some (.int)), 0, 0, 675) := List.mem_filter.mpr ⟨ab_t3 (List.mem_of_getElem? (i := 187) rfl), rfl⟩
theorem ab_cw108 : ab_yP (⟨"FairBooks", "best", "(II)I"⟩, prog_1_method_18_code, 3, (some (.int)), 0, 0, 683) := List.mem_filter.mpr ⟨ab_t3 (List.mem_of_getElem? (i := 195) rfl), rfl⟩
theorem ab_cw109 : ab_yP (⟨"FairBooks", "missing", "(II)I"⟩, prog_1_method_19_code, 3, (some (.int)), 0, 0, 702) := List.mem_filter.mpr ⟨ab_t3 (List.mem_of_getElem? (i := 214) rfl), rfl⟩
theorem ab_cw110 : ab_yP (⟨"FairBooks", "mean", "(I)I"⟩, prog_1_method_20_code, 4, (some (.int)), 0, 0, 708) := List.mem_filter.mpr ⟨ab_t3 (List.mem_of_getElem? (i := 220) rfl), rfl⟩
theorem ab_cw111 : ab_yP (⟨"FairBooks", "count", "(I)I"⟩, prog_1_method_21_code, 2, (some (.int)), 0, 0, 526) := List.mem_filter.mpr ⟨ab_t3 (List.mem_of_getElem? (i := 38) rfl), rfl⟩
theorem ab_cw112 : ab_yP (⟨"FairBooks", "undo", "()I"⟩, prog_1_method_22_code, 1, (some (.int)), 0, 0, 567) := List.mem_filter.mpr ⟨ab_t3 (List.mem_of_getElem? (i := 79) rfl), rfl⟩
theorem ab_cw113 : ab_yP (⟨"FairBooks", "type", "(I)I"⟩, prog_1_method_23_code, 2, (some (.int)), 0, 0, 718) := List.mem_filter.mpr ⟨ab_t3 (List.mem_of_getElem? (i := 230) rfl), rfl⟩
theorem ab_cw114 : ab_yP (⟨"FairBooks", "clearText", "()I"⟩, prog_1_method_24_code, 2, (some (.int)), 0, 0, 815) := List.mem_filter.mpr ⟨ab_t4 (List.mem_of_getElem? (i := 87) rfl), rfl⟩
theorem ab_cw115 : ab_yP (⟨"FairBooks", "fault", "(I)I"⟩, prog_1_method_25_code, 2, (some (.int)), 0, 0, 727) := List.mem_filter.mpr ⟨ab_t3 (List.mem_of_getElem? (i := 239) rfl), rfl⟩
theorem ab_cw116 : ab_yP (⟨"FairBooks", "play", "()I"⟩, prog_1_method_26_code, 1, (some (.int)), 0, 0, 793) := List.mem_filter.mpr ⟨ab_t4 (List.mem_of_getElem? (i := 65) rfl), rfl⟩
theorem ab_cw117 : ab_yP (⟨"FairBooks", "isCollector", "(I)Z"⟩, prog_1_method_27_code, 1, (some (.boolean)), 0, 0, 339) := List.mem_filter.mpr ⟨ab_t2 (List.mem_of_getElem? (i := 91) rfl), rfl⟩
theorem ab_cw118 : ab_yP (⟨"FairBooks", "isTheme", "(I)Z"⟩, prog_1_method_28_code, 1, (some (.boolean)), 0, 0, 318) := List.mem_filter.mpr ⟨ab_t2 (List.mem_of_getElem? (i := 70) rfl), rfl⟩
theorem ab_cw119 : ab_yP (⟨"FairBooks", "isSide", "(I)Z"⟩, prog_1_method_29_code, 1, (some (.boolean)), 0, 0, 362) := List.mem_filter.mpr ⟨ab_t2 (List.mem_of_getElem? (i := 114) rfl), rfl⟩
theorem ab_cw120 : ab_yP (⟨"FairBooks", "arePaid", "(I)Z"⟩, prog_1_method_30_code, 1, (some (.boolean)), 0, 0, 479) := List.mem_filter.mpr ⟨ab_t2 (List.mem_of_getElem? (i := 231) rfl), rfl⟩
theorem ab_cw121 : ab_yP (⟨"FairBooks", "bitsOf", "(F)I"⟩, prog_1_method_31_code, 4, (some (.int)), 0, 0, 712) := List.mem_filter.mpr ⟨ab_t3 (List.mem_of_getElem? (i := 224) rfl), rfl⟩
theorem ab_cw122 : ab_yP (⟨"FairBooksLaw", "part", "(II)I"⟩, method_2_code, 2, (some (.int)), 0, 0, 575) := List.mem_filter.mpr ⟨ab_t3 (List.mem_of_getElem? (i := 87) rfl), rfl⟩
theorem ab_yq2 : ∀ q ∈ ab_yl2, ab_yP q := (List.forall_mem_cons.mpr ⟨ab_cw82, (List.forall_mem_cons.mpr ⟨ab_cw83, (List.forall_mem_cons.mpr ⟨ab_cw84, (List.forall_mem_cons.mpr ⟨ab_cw85, (List.forall_mem_cons.mpr ⟨ab_cw86, (List.forall_mem_cons.mpr ⟨ab_cw87, (List.forall_mem_cons.mpr ⟨ab_cw88, (List.forall_mem_cons.mpr ⟨ab_cw89, (List.forall_mem_cons.mpr ⟨ab_cw90, (List.forall_mem_cons.mpr ⟨ab_cw91, (List.forall_mem_cons.mpr ⟨ab_cw92, (List.forall_mem_cons.mpr ⟨ab_cw93, (List.forall_mem_cons.mpr ⟨ab_cw94, (List.forall_mem_cons.mpr ⟨ab_cw95, (List.forall_mem_cons.mpr ⟨ab_cw96, (List.forall_mem_cons.mpr ⟨ab_cw97, (List.forall_mem_cons.mpr ⟨ab_cw98, (List.forall_mem_cons.mpr ⟨ab_cw99, (List.forall_mem_cons.mpr ⟨ab_cw100, (List.forall_mem_cons.mpr ⟨ab_cw101, (List.forall_mem_cons.mpr ⟨ab_cw102, (List.forall_mem_cons.mpr ⟨ab_cw103, (List.forall_mem_cons.mpr ⟨ab_cw104, (List.forall_mem_cons.mpr ⟨ab_cw105, (List.forall_mem_cons.mpr ⟨ab_cw106, (List.forall_mem_cons.mpr ⟨ab_cw107, (List.forall_mem_cons.mpr ⟨ab_cw108, (List.forall_mem_cons.mpr ⟨ab_cw109, (List.forall_mem_cons.mpr ⟨ab_cw110, (List.forall_mem_cons.mpr ⟨ab_cw111, (List.forall_mem_cons.mpr ⟨ab_cw112, (List.forall_mem_cons.mpr ⟨ab_cw113, (List.forall_mem_cons.mpr ⟨ab_cw114, (List.forall_mem_cons.mpr ⟨ab_cw115, (List.forall_mem_cons.mpr ⟨ab_cw116, (List.forall_mem_cons.mpr ⟨ab_cw117, (List.forall_mem_cons.mpr ⟨ab_cw118, (List.forall_mem_cons.mpr ⟨ab_cw119, (List.forall_mem_cons.mpr ⟨ab_cw120, (List.forall_mem_cons.mpr ⟨ab_cw121, (List.forall_mem_cons.mpr ⟨ab_cw122, (fun _ h => absurd h List.not_mem_nil)⟩)⟩)⟩)⟩)⟩)⟩)⟩)⟩)⟩)⟩)⟩)⟩)⟩)⟩)⟩)⟩)⟩)⟩)⟩)⟩)⟩)⟩)⟩)⟩)⟩)⟩)⟩)⟩)⟩)⟩)⟩)⟩)⟩)⟩)⟩)⟩)⟩)⟩)⟩)⟩)⟩)
theorem ab_cw123 : ab_yP (⟨"FairBooksLaw", "drawn", "([II)I"⟩, method_3_code, 2, (some (.int)), 0, 0, 579) := List.mem_filter.mpr ⟨ab_t3 (List.mem_of_getElem? (i := 91) rfl), rfl⟩
theorem ab_cw124 : ab_yP (⟨"FairBooksLaw", "seen", "(LFairBooks;)J"⟩, method_4_code, 6, (some (.long)), 0, 0, 583) := List.mem_filter.mpr ⟨ab_t3 (List.mem_of_getElem? (i := 95) rfl), rfl⟩
theorem ab_cw125 : ab_yP (⟨"FairBooksLaw", "refusesAny", "(LFairBooks;I)Z"⟩, method_5_code, 7, (some (.boolean)), 0, 0, 652) := List.mem_filter.mpr ⟨ab_t3 (List.mem_of_getElem? (i := 164) rfl), rfl⟩
theorem ab_cw126 : ab_yP (⟨"FairBooksLaw", "refused", "(LFairBooks;)Z"⟩, method_6_code, 4, (some (.boolean)), 0, 0, 649) := List.mem_filter.mpr ⟨ab_t3 (List.mem_of_getElem? (i := 161) rfl), rfl⟩
theorem ab_cw127 : ab_yP (⟨"FairBooksLaw", "books", "()Z"⟩, method_7_code, 2, (some (.boolean)), 192, 3961, 771) := List.mem_filter.mpr ⟨ab_t4 (List.mem_of_getElem? (i := 43) rfl), rfl⟩
theorem ab_cw128 : ab_yP (⟨"FairBooksLaw", "types", "(LFairBooks;J)Z"⟩, method_8_code, 6, (some (.boolean)), 0, 0, 788) := List.mem_filter.mpr ⟨ab_t4 (List.mem_of_getElem? (i := 60) rfl), rfl⟩
theorem ab_cw129 : ab_yP (⟨"FairBooksLaw", "isFault", "(JJIII)Z"⟩, method_9_code, 8, (some (.boolean)), 192, 3961, 785) := List.mem_filter.mpr ⟨ab_t4 (List.mem_of_getElem? (i := 57) rfl), rfl⟩
theorem ab_cw130 : ab_yP (⟨"FairBooksLaw", "texts", "()Z"⟩, method_10_code, 2, (some (.boolean)), 2880, 59415, 781) := List.mem_filter.mpr ⟨ab_t4 (List.mem_of_getElem? (i := 53) rfl), rfl⟩
theorem ab_yq3 : ∀ q ∈ ab_yl3, ab_yP q := (List.forall_mem_cons.mpr ⟨ab_cw123, (List.forall_mem_cons.mpr ⟨ab_cw124, (List.forall_mem_cons.mpr ⟨ab_cw125, (List.forall_mem_cons.mpr ⟨ab_cw126, (List.forall_mem_cons.mpr ⟨ab_cw127, (List.forall_mem_cons.mpr ⟨ab_cw128, (List.forall_mem_cons.mpr ⟨ab_cw129, (List.forall_mem_cons.mpr ⟨ab_cw130, (fun _ h => absurd h List.not_mem_nil)⟩)⟩)⟩)⟩)⟩)⟩)⟩)⟩)
theorem ab_yq : ∀ q ∈ ab_yl, ab_yP q := by
  intro q hq
  simp only [ab_yl, List.mem_append] at hq
  rcases hq with ((hq | hq) | hq) | hq
  · exact ab_yq0 q hq
  · exact ab_yq1 q hq
  · exact ab_yq2 q hq
  · exact ab_yq3 q hq
/-- the slots that hold longs, a method -/
def ab_lo (y : Nat) : List Nat := match y with
  | 124 => [1]
  | 126 => [1]
  | 128 => [1]
  | 129 => [0, 2]
  | _ => []
