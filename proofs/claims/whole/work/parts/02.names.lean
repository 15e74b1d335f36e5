def RX0 : String := "FairBooks$Bench"
def TX0 : u_T := fun k => match k with
  | 0 => ("FairBooks$Bench", "spareOne", "LFairBooks$Book;", true)
  | 1 => ("FairBooks$Bench", "spareOther", "LFairBooks$Book;", true)
  | 2 => ("FairBooks$Bench", "one", "LFairBooks$Book;", false)
  | 3 => ("FairBooks$Bench", "other", "LFairBooks$Book;", false)
  | _ => ("FairBooks$Bench", "traded", "I", false)
def tyX0 : Nat → FieldType := fun k => match k with
  | 0 => .object "FairBooks$Book"
  | 1 => .object "FairBooks$Book"
  | 2 => .object "FairBooks$Book"
  | 3 => .object "FairBooks$Book"
  | _ => .int
theorem nmX0 : ∀ a, a < 5 → ∀ b, b < 5 → a ≠ b → (TX0 a).2.1 ≠ (TX0 b).2.1 := by decide +kernel
theorem tyX0_ok : ∀ k, k < 5 → parseFieldDescriptor (TX0 k).2.2.1 = some (tyX0 k) := by decide +kernel
def RX1 : String := "FairBooks$BestTrade"
def TX1 : u_T := fun k => match k with
  | 0 => ("FairBooks$BestTrade", "ownLeaf", "I", false)
  | 1 => ("FairBooks$BestTrade", "otherLeaf", "I", false)
  | _ => ("FairBooks$BestTrade", "gained", "I", false)
def tyX1 : Nat → FieldType := fun k => match k with
  | 0 => .int
  | 1 => .int
  | _ => .int
theorem nmX1 : ∀ a, a < 3 → ∀ b, b < 3 → a ≠ b → (TX1 a).2.1 ≠ (TX1 b).2.1 := by decide +kernel
theorem tyX1_ok : ∀ k, k < 3 → parseFieldDescriptor (TX1 k).2.2.1 = some (tyX1 k) := by decide +kernel
def RX2 : String := "FairBooks$Book"
def TX2 : u_T := fun k => match k with
  | 0 => ("FairBooks$Book", "numbers", "[I", true)
  | 1 => ("FairBooks$Book", "kinds", "[I", true)
  | 2 => ("FairBooks$Book", "signers", "[I", true)
  | 3 => ("FairBooks$Book", "friends", "[I", true)
  | 4 => ("FairBooks$Book", "owner", "I", false)
  | _ => ("FairBooks$Book", "size", "I", false)
def tyX2 : Nat → FieldType := fun k => match k with
  | 0 => .array .int
  | 1 => .array .int
  | 2 => .array .int
  | 3 => .array .int
  | 4 => .int
  | _ => .int
theorem nmX2 : ∀ a, a < 6 → ∀ b, b < 6 → a ≠ b → (TX2 a).2.1 ≠ (TX2 b).2.1 := by decide +kernel
theorem tyX2_ok : ∀ k, k < 6 → parseFieldDescriptor (TX2 k).2.2.1 = some (tyX2 k) := by decide +kernel
def RX3 : String := "FairBooks$History"
def TX3 : u_T := fun k => match k with
  | 0 => ("FairBooks$History", "spare", "LFairBooks$State;", false)
  | 1 => ("FairBooks$History", "first", "LFairBooks$State;", false)
  | 2 => ("FairBooks$History", "second", "LFairBooks$State;", false)
  | 3 => ("FairBooks$History", "third", "LFairBooks$State;", false)
  | 4 => ("FairBooks$History", "fourth", "LFairBooks$State;", false)
  | _ => ("FairBooks$History", "size", "I", false)
def tyX3 : Nat → FieldType := fun k => match k with
  | 0 => .object "FairBooks$State"
  | 1 => .object "FairBooks$State"
  | 2 => .object "FairBooks$State"
  | 3 => .object "FairBooks$State"
  | 4 => .object "FairBooks$State"
  | _ => .int
theorem nmX3 : ∀ a, a < 6 → ∀ b, b < 6 → a ≠ b → (TX3 a).2.1 ≠ (TX3 b).2.1 := by decide +kernel
theorem tyX3_ok : ∀ k, k < 6 → parseFieldDescriptor (TX3 k).2.2.1 = some (tyX3 k) := by decide +kernel
def RX4 : String := "FairBooks$Names"
def TX4 : u_T := fun k => match k with
  | 0 => ("FairBooks$Names", "fames", "[I", true)
  | 1 => ("FairBooks$Names", "themes", "[I", true)
  | _ => ("FairBooks$Names", "size", "I", false)
def tyX4 : Nat → FieldType := fun k => match k with
  | 0 => .array .int
  | 1 => .array .int
  | _ => .int
theorem nmX4 : ∀ a, a < 3 → ∀ b, b < 3 → a ≠ b → (TX4 a).2.1 ≠ (TX4 b).2.1 := by decide +kernel
theorem tyX4_ok : ∀ k, k < 3 → parseFieldDescriptor (TX4 k).2.2.1 = some (tyX4 k) := by decide +kernel
def RX5 : String := "FairBooks$Orders"
def TX5 : u_T := fun k => match k with
  | 0 => ("FairBooks$Orders", "characters", "[I", true)
  | 1 => ("FairBooks$Orders", "numbers", "[I", true)
  | 2 => ("FairBooks$Orders", "length", "I", false)
  | 3 => ("FairBooks$Orders", "start", "I", false)
  | 4 => ("FairBooks$Orders", "next", "I", false)
  | 5 => ("FairBooks$Orders", "done", "I", false)
  | 6 => ("FairBooks$Orders", "reason", "I", false)
  | _ => ("FairBooks$Orders", "cause", "I", false)
def tyX5 : Nat → FieldType := fun k => match k with
  | 0 => .array .int
  | 1 => .array .int
  | 2 => .int
  | 3 => .int
  | 4 => .int
  | 5 => .int
  | 6 => .int
  | _ => .int
theorem nmX5 : ∀ a, a < 8 → ∀ b, b < 8 → a ≠ b → (TX5 a).2.1 ≠ (TX5 b).2.1 := by decide +kernel
theorem tyX5_ok : ∀ k, k < 8 → parseFieldDescriptor (TX5 k).2.2.1 = some (tyX5 k) := by decide +kernel
def RX6 : String := "FairBooks$State"
def TX6 : u_T := fun k => match k with
  | 0 => ("FairBooks$State", "names", "LFairBooks$Names;", true)
  | 1 => ("FairBooks$State", "book0", "LFairBooks$Book;", true)
  | 2 => ("FairBooks$State", "book1", "LFairBooks$Book;", true)
  | 3 => ("FairBooks$State", "book2", "LFairBooks$Book;", true)
  | 4 => ("FairBooks$State", "book3", "LFairBooks$Book;", true)
  | 5 => ("FairBooks$State", "purses", "[I", true)
  | 6 => ("FairBooks$State", "tradesSoFar", "I", false)
  | _ => ("FairBooks$State", "leavesSoFar", "I", false)
def tyX6 : Nat → FieldType := fun k => match k with
  | 0 => .object "FairBooks$Names"
  | 1 => .object "FairBooks$Book"
  | 2 => .object "FairBooks$Book"
  | 3 => .object "FairBooks$Book"
  | 4 => .object "FairBooks$Book"
  | 5 => .array .int
  | 6 => .int
  | _ => .int
theorem nmX6 : ∀ a, a < 8 → ∀ b, b < 8 → a ≠ b → (TX6 a).2.1 ≠ (TX6 b).2.1 := by decide +kernel
theorem tyX6_ok : ∀ k, k < 8 → parseFieldDescriptor (TX6 k).2.2.1 = some (tyX6 k) := by decide +kernel
def RX7 : String := "FairBooks"
def TX7 : u_T := fun k => match k with
  | 0 => ("FairBooks", "now", "LFairBooks$State;", true)
  | 1 => ("FairBooks", "trial", "LFairBooks$State;", true)
  | 2 => ("FairBooks", "history", "LFairBooks$History;", true)
  | 3 => ("FairBooks", "orders", "LFairBooks$Orders;", true)
  | 4 => ("FairBooks", "bench", "LFairBooks$Bench;", true)
  | _ => ("FairBooks", "bestTrade", "LFairBooks$BestTrade;", true)
def tyX7 : Nat → FieldType := fun k => match k with
  | 0 => .object "FairBooks$State"
  | 1 => .object "FairBooks$State"
  | 2 => .object "FairBooks$History"
  | 3 => .object "FairBooks$Orders"
  | 4 => .object "FairBooks$Bench"
  | _ => .object "FairBooks$BestTrade"
theorem nmX7 : ∀ a, a < 6 → ∀ b, b < 6 → a ≠ b → (TX7 a).2.1 ≠ (TX7 b).2.1 := by decide +kernel
theorem tyX7_ok : ∀ k, k < 6 → parseFieldDescriptor (TX7 k).2.2.1 = some (tyX7 k) := by decide +kernel
def RX8 : String := "FairBooksModel"
def TX8 : u_T := fun k => match k with
  | 0 => ("FairBooksModel", "s", "[I", true)
  | 1 => ("FairBooksModel", "held", "[I", true)
  | 2 => ("FairBooksModel", "old", "[I", true)
  | 3 => ("FairBooksModel", "past", "[I", true)
  | 4 => ("FairBooksModel", "pasts", "I", false)
  | 5 => ("FairBooksModel", "runs", "Z", false)
  | 6 => ("FairBooksModel", "text", "[I", true)
  | 7 => ("FairBooksModel", "typed", "I", false)
  | 8 => ("FairBooksModel", "list", "[I", true)
  | 9 => ("FairBooksModel", "listed", "I", false)
  | 10 => ("FairBooksModel", "names", "I", false)
  | 11 => ("FairBooksModel", "entries", "I", false)
  | 12 => ("FairBooksModel", "values", "I", false)
  | 13 => ("FairBooksModel", "bestOwn", "I", false)
  | 14 => ("FairBooksModel", "bestOther", "I", false)
  | 15 => ("FairBooksModel", "bestPlace", "I", false)
  | 16 => ("FairBooksModel", "bestGain", "I", false)
  | 17 => ("FairBooksModel", "spot", "I", false)
  | 18 => ("FairBooksModel", "from", "I", false)
  | 19 => ("FairBooksModel", "reason", "I", false)
  | 20 => ("FairBooksModel", "cause", "I", false)
  | 21 => ("FairBooksModel", "orders", "I", false)
  | 22 => ("FairBooksModel", "order", "I", false)
  | _ => ("FairBooksModel", "told", "[I", true)
def tyX8 : Nat → FieldType := fun k => match k with
  | 0 => .array .int
  | 1 => .array .int
  | 2 => .array .int
  | 3 => .array .int
  | 4 => .int
  | 5 => .boolean
  | 6 => .array .int
  | 7 => .int
  | 8 => .array .int
  | 9 => .int
  | 10 => .int
  | 11 => .int
  | 12 => .int
  | 13 => .int
  | 14 => .int
  | 15 => .int
  | 16 => .int
  | 17 => .int
  | 18 => .int
  | 19 => .int
  | 20 => .int
  | 21 => .int
  | 22 => .int
  | _ => .array .int
theorem nmX8 : ∀ a, a < 24 → ∀ b, b < 24 → a ≠ b → (TX8 a).2.1 ≠ (TX8 b).2.1 := by decide +kernel
theorem tyX8_ok : ∀ k, k < 24 → parseFieldDescriptor (TX8 k).2.2.1 = some (tyX8 k) := by decide +kernel
abbrev vwCl : List vw_C := [(RX0, TX0, 5), (RX1, TX1, 3), (RX2, TX2, 6), (RX3, TX3, 6), (RX4, TX4, 3), (RX5, TX5, 8), (RX6, TX6, 8), (RX7, TX7, 6), (RX8, TX8, 24)]
def ab_tx : Nat → u_T := fun ci => match ci with
  | 0 => TX0
  | 1 => TX1
  | 2 => TX2
  | 3 => TX3
  | 4 => TX4
  | 5 => TX5
  | 6 => TX6
  | 7 => TX7
  | 8 => TX8
  | _ => TX0
def ab_ty : Nat → Nat → FieldType := fun ci => match ci with
  | 0 => tyX0
  | 1 => tyX1
  | 2 => tyX2
  | 3 => tyX3
  | 4 => tyX4
  | 5 => tyX5
  | 6 => tyX6
  | 7 => tyX7
  | 8 => tyX8
  | _ => tyX0
def ab_nf : Nat → Nat := fun ci => match ci with
  | 0 => 5
  | 1 => 3
  | 2 => 6
  | 3 => 6
  | 4 => 3
  | 5 => 8
  | 6 => 8
  | 7 => 6
  | 8 => 24
  | _ => 0
def ab_cn : Nat → String := fun ci => match ci with
  | 0 => RX0
  | 1 => RX1
  | 2 => RX2
  | 3 => RX3
  | 4 => RX4
  | 5 => RX5
  | 6 => RX6
  | 7 => RX7
  | 8 => RX8
  | _ => ""
/-- a field: 0 an int, 1 a reference, 2 a boolean -/
def ab_fk : Nat → Nat → Nat := fun ci f => match ab_ty ci f with
  | .int => 0
  | .boolean => 2
  | _ => 1
/-- the cells in the order in which they are made: a class, or 100 and an array's length -/
def ab_shl : List Nat := [7, 6, 4, 116, 116, 2, 116, 132, 132, 132, 2, 116, 132, 132, 132, 2, 116, 132, 132, 132, 2, 116, 132, 132, 132, 104, 6, 4, 116, 116, 2, 116, 132, 132, 132, 2, 116, 132, 132, 132, 2, 116, 132, 132, 132, 2, 116, 132, 132, 132, 104, 3, 6, 4, 116, 116, 2, 116, 132, 132, 132, 2, 116, 132, 132, 132, 2, 116, 132, 132, 132, 2, 116, 132, 132, 132, 104, 6, 4, 116, 116, 2, 116, 132, 132, 132, 2, 116, 132, 132, 132, 2, 116, 132, 132, 132, 2, 116, 132, 132, 132, 104, 6, 4, 116, 116, 2, 116, 132, 132, 132, 2, 116, 132, 132, 132, 2, 116, 132, 132, 132, 2, 116, 132, 132, 132, 104, 6, 4, 116, 116, 2, 116, 132, 132, 132, 2, 116, 132, 132, 132, 2, 116, 132, 132, 132, 2, 116, 132, 132, 132, 104, 6, 4, 116, 116, 2, 116, 132, 132, 132, 2, 116, 132, 132, 132, 2, 116, 132, 132, 132, 2, 116, 132, 132, 132, 104, 5, 160, 104, 0, 2, 116, 132, 132, 132, 2, 116, 132, 132, 132, 1, 8, 335, 335, 198, 1040, 160, 116, 104]
def ab_sh (k : Nat) : Nat := ab_shl.getD k 9999
abbrev ab_Y : Type := MethodName × ByteArray × Nat × Option FieldType × Nat × Nat × Nat
def ab_yl0 : List ab_Y := [(⟨"java/lang/Math", "max", "(II)I"⟩, prog_13_method_65_code, 2, (some (.int)), 0, 0, 666),
  (⟨"java/lang/Math", "min", "(II)I"⟩, prog_13_method_69_code, 2, (some (.int)), 0, 0, 378),
  (⟨"java/lang/Integer", "bitCount", "(I)I"⟩, prog_12_method_49_code, 1, (some (.int)), 0, 0, 451),
  (⟨"java/lang/Float", "isNaN", "(F)Z"⟩, prog_11_method_6_code, 1, (some (.boolean)), 0, 0, 1146),
  (⟨"java/lang/Float", "floatToIntBits", "(F)I"⟩, prog_11_method_24_code, 1, (some (.int)), 0, 0, 1143),
  (⟨"FairBooks$Names", "<init>", "()V"⟩, prog_6_method_1_code, 1, none, 2, 32, 87),
  (⟨"FairBooks$Names", "has", "(I)Z"⟩, prog_6_method_2_code, 2, (some (.boolean)), 0, 0, 416),
  (⟨"FairBooks$Names", "fameOf", "(I)I"⟩, prog_6_method_3_code, 2, (some (.int)), 0, 0, 309),
  (⟨"FairBooks$Names", "themeOf", "(I)I"⟩, prog_6_method_4_code, 2, (some (.int)), 0, 0, 313),
  (⟨"FairBooks$Names", "setOf", "(I)I"⟩, prog_6_method_5_code, 4, (some (.int)), 0, 0, 448),
  (⟨"FairBooks$Names", "add", "(II)V"⟩, prog_6_method_6_code, 3, none, 0, 0, 317),
  (⟨"FairBooks$Names", "copyFrom", "(LFairBooks$Names;)V"⟩, prog_6_method_7_code, 3, none, 0, 0, 305),
  (⟨"FairBooks$Book", "<init>", "(I)V"⟩, prog_4_method_1_code, 2, none, 4, 112, 106),
  (⟨"FairBooks$Book", "numberAt", "(I)I"⟩, prog_4_method_2_code, 2, (some (.int)), 0, 0, 337),
  (⟨"FairBooks$Book", "kindOf", "(I)I"⟩, prog_4_method_3_code, 2, (some (.int)), 0, 0, 341),
  (⟨"FairBooks$Book", "nameOn", "(I)I"⟩, prog_4_method_4_code, 2, (some (.int)), 0, 0, 345),
  (⟨"FairBooks$Book", "friendOn", "(I)I"⟩, prog_4_method_5_code, 2, (some (.int)), 0, 0, 349),
  (⟨"FairBooks$Book", "find", "(I)I"⟩, prog_4_method_6_code, 3, (some (.int)), 0, 0, 409),
  (⟨"FairBooks$Book", "startsEntry", "(I)Z"⟩, prog_4_method_7_code, 2, (some (.boolean)), 0, 0, 431),
  (⟨"FairBooks$Book", "countEntries", "()I"⟩, prog_4_method_8_code, 3, (some (.int)), 0, 0, 601),
  (⟨"FairBooks$Book", "countEntriesOf", "(I)I"⟩, prog_4_method_9_code, 4, (some (.int)), 0, 0, 638),
  (⟨"FairBooks$Book", "countDedicatedTo", "(I)I"⟩, prog_4_method_10_code, 4, (some (.int)), 0, 0, 623),
  (⟨"FairBooks$Book", "countDedicated", "()I"⟩, prog_4_method_11_code, 1, (some (.int)), 0, 0, 732),
  (⟨"FairBooks$Book", "nameSet", "()I"⟩, prog_4_method_12_code, 1, (some (.int)), 0, 0, 610),
  (⟨"FairBooks$Book", "namesAhead", "(I)I"⟩, prog_4_method_13_code, 4, (some (.int)), 0, 0, 444),
  (⟨"FairBooks$Book", "valueOn", "(ILFairBooks$Names;)I"⟩, prog_4_method_14_code, 4, (some (.int)), 0, 0, 579),
  (⟨"FairBooks$Book", "valueBehind", "(IILFairBooks$Names;)I"⟩, prog_4_method_15_code, 7, (some (.int)), 0, 0, 435),
  (⟨"FairBooks$Book", "sumOfValues", "(LFairBooks$Names;)I"⟩, prog_4_method_16_code, 5, (some (.int)), 0, 0, 427),
  (⟨"FairBooks$Book", "wholeThemes", "(LFairBooks$Names;)I"⟩, prog_4_method_17_code, 6, (some (.int)), 0, 0, 440),
  (⟨"FairBooks$Book", "worth", "(LFairBooks$Names;)I"⟩, prog_4_method_18_code, 5, (some (.int)), 0, 0, 423),
  (⟨"FairBooks$Book", "isJoined", "(I)Z"⟩, prog_4_method_19_code, 3, (some (.boolean)), 0, 0, 474),
  (⟨"FairBooks$Book", "startsBundle", "(I)Z"⟩, prog_4_method_20_code, 2, (some (.boolean)), 0, 0, 619),
  (⟨"FairBooks$Book", "bundleFirst", "(I)I"⟩, prog_4_method_21_code, 3, (some (.int)), 0, 0, 478),
  (⟨"FairBooks$Book", "bundleEnd", "(I)I"⟩, prog_4_method_22_code, 3, (some (.int)), 0, 0, 470),
  (⟨"FairBooks$Book", "bundleSize", "(I)I"⟩, prog_4_method_23_code, 2, (some (.int)), 0, 0, 466),
  (⟨"FairBooks$Book", "countBundles", "()I"⟩, prog_4_method_24_code, 3, (some (.int)), 0, 0, 615),
  (⟨"FairBooks$Book", "canShift", "(II)Z"⟩, prog_4_method_25_code, 5, (some (.boolean)), 0, 0, 503),
  (⟨"FairBooks$Book", "setEntry", "(IIII)V"⟩, prog_4_method_26_code, 5, none, 0, 0, 353),
  (⟨"FairBooks$Book", "setFriend", "(II)V"⟩, prog_4_method_27_code, 3, none, 0, 0, 491),
  (⟨"FairBooks$Book", "addLeaf", "(I)V"⟩, prog_4_method_28_code, 2, none, 0, 0, 393),
  (⟨"FairBooks$Book", "addLeaves", "(LFairBooks$Book;II)V"⟩, prog_4_method_29_code, 7, none, 0, 0, 333)]
def ab_yl1 : List ab_Y := [(⟨"FairBooks$Book", "clearFor", "(I)V"⟩, prog_4_method_30_code, 2, none, 0, 0, 329),
  (⟨"FairBooks$Book", "copyFrom", "(LFairBooks$Book;)V"⟩, prog_4_method_31_code, 2, none, 0, 0, 325),
  (⟨"FairBooks$Bench", "<init>", "()V"⟩, prog_2_method_1_code, 1, none, 10, 236, 231),
  (⟨"FairBooks$Bench", "takeOut", "(LFairBooks$Book;I)V"⟩, prog_2_method_2_code, 3, none, 0, 0, 517),
  (⟨"FairBooks$Bench", "shift", "(LFairBooks$Book;II)V"⟩, prog_2_method_3_code, 4, none, 0, 0, 509),
  (⟨"FairBooks$Bench", "layOut", "(LFairBooks$Book;ILFairBooks$Book;I)V"⟩, prog_2_method_4_code, 5, none, 0, 0, 533),
  (⟨"FairBooks$Bench", "layOutFor", "(LFairBooks$Book;LFairBooks$Book;ILFairBooks$Book;I)V"⟩, prog_2_method_5_code, 6, none, 0, 0, 537),
  (⟨"FairBooks$Bench", "fits", "()Z"⟩, prog_2_method_6_code, 1, (some (.boolean)), 0, 0, 542),
  (⟨"FairBooks$Bench", "gainOfOne", "(LFairBooks$Names;)I"⟩, prog_2_method_7_code, 2, (some (.int)), 0, 0, 653),
  (⟨"FairBooks$Bench", "gainOfOther", "(LFairBooks$Names;)I"⟩, prog_2_method_8_code, 2, (some (.int)), 0, 0, 658),
  (⟨"FairBooks$Bench", "settle", "()V"⟩, prog_2_method_9_code, 1, none, 0, 0, 546),
  (⟨"FairBooks$State", "<init>", "()V"⟩, prog_8_method_1_code, 1, none, 24, 511, 81),
  (⟨"FairBooks$State", "copyFrom", "(LFairBooks$State;)V"⟩, prog_8_method_2_code, 3, none, 0, 0, 301),
  (⟨"FairBooks$State", "bookOf", "(I)LFairBooks$Book;"⟩, prog_8_method_3_code, 2, (some (.object "FairBooks$Book")), 0, 0, 321),
  (⟨"FairBooks$State", "bookWith", "(I)LFairBooks$Book;"⟩, prog_8_method_4_code, 3, (some (.object "FairBooks$Book")), 0, 0, 405),
  (⟨"FairBooks$State", "purseOf", "(I)I"⟩, prog_8_method_5_code, 2, (some (.int)), 0, 0, 357),
  (⟨"FairBooks$State", "setPurse", "(II)V"⟩, prog_8_method_6_code, 3, none, 0, 0, 361),
  (⟨"FairBooks$State", "addName", "(II)I"⟩, prog_8_method_7_code, 3, (some (.int)), 0, 0, 365),
  (⟨"FairBooks$State", "addLeaf", "(I)I"⟩, prog_8_method_8_code, 3, (some (.int)), 0, 0, 386),
  (⟨"FairBooks$State", "addEntry", "(IIII)I"⟩, prog_8_method_9_code, 7, (some (.int)), 0, 0, 401),
  (⟨"FairBooks$State", "addWideEntry", "(II)I"⟩, prog_8_method_10_code, 6, (some (.int)), 0, 0, 462),
  (⟨"FairBooks$State", "setFriend", "(III)I"⟩, prog_8_method_11_code, 7, (some (.int)), 0, 0, 486),
  (⟨"FairBooks$State", "shiftBundle", "(IILFairBooks$Bench;)I"⟩, prog_8_method_12_code, 7, (some (.int)), 0, 0, 499),
  (⟨"FairBooks$State", "exchange", "(IIILFairBooks$Bench;)I"⟩, prog_8_method_13_code, 9, (some (.int)), 0, 0, 526),
  (⟨"FairBooks$State", "takeOut", "(ILFairBooks$Bench;)I"⟩, prog_8_method_14_code, 5, (some (.int)), 0, 0, 554),
  (⟨"FairBooks$State", "fillPurse", "(II)I"⟩, prog_8_method_15_code, 4, (some (.int)), 0, 0, 563),
  (⟨"FairBooks$State", "wealth", "(I)I"⟩, prog_8_method_16_code, 2, (some (.int)), 0, 0, 606),
  (⟨"FairBooks$State", "richest", "()I"⟩, prog_8_method_17_code, 3, (some (.int)), 0, 0, 719),
  (⟨"FairBooks$State", "sumOfWorths", "()I"⟩, prog_8_method_18_code, 3, (some (.int)), 0, 0, 724),
  (⟨"FairBooks$State", "countLeaves", "()I"⟩, prog_8_method_19_code, 1, (some (.int)), 0, 0, 710),
  (⟨"FairBooks$State", "countEntries", "()I"⟩, prog_8_method_20_code, 3, (some (.int)), 0, 0, 714),
  (⟨"FairBooks$State", "countDedicated", "()I"⟩, prog_8_method_21_code, 3, (some (.int)), 0, 0, 728),
  (⟨"FairBooks$State", "countEntriesOf", "(I)I"⟩, prog_8_method_22_code, 4, (some (.int)), 0, 0, 634),
  (⟨"FairBooks$State", "ownersOf", "(I)I"⟩, prog_8_method_23_code, 4, (some (.int)), 0, 0, 642),
  (⟨"FairBooks$BestTrade", "<init>", "()V"⟩, prog_3_method_1_code, 1, none, 0, 0, 256),
  (⟨"FairBooks$BestTrade", "search", "(LFairBooks$State;ILFairBooks$Bench;)V"⟩, prog_3_method_2_code, 7, none, 0, 0, 675),
  (⟨"FairBooks$BestTrade", "searchBook", "(LFairBooks$Names;LFairBooks$Book;ILFairBooks$Book;LFairBooks$Bench;)V"⟩, prog_3_method_3_code, 8, none, 0, 0, 681),
  (⟨"FairBooks$History", "<init>", "()V"⟩, prog_5_method_1_code, 1, none, 125, 2595, 167),
  (⟨"FairBooks$History", "prepare", "(LFairBooks$State;)V"⟩, prog_5_method_2_code, 2, none, 0, 0, 297),
  (⟨"FairBooks$History", "keep", "(I)I"⟩, prog_5_method_3_code, 3, (some (.int)), 0, 0, 375),
  (⟨"FairBooks$History", "restore", "(LFairBooks$State;)V"⟩, prog_5_method_4_code, 3, none, 0, 0, 742)]
def ab_yl2 : List ab_Y := [(⟨"FairBooks$Orders", "<init>", "()V"⟩, prog_7_method_1_code, 1, none, 2, 64, 195),
  (⟨"FairBooks$Orders", "append", "(I)V"⟩, prog_7_method_2_code, 2, none, 0, 0, 751),
  (⟨"FairBooks$Orders", "run", "(LFairBooks$State;LFairBooks$State;LFairBooks$Bench;)V"⟩, prog_7_method_3_code, 6, none, 0, 0, 763),
  (⟨"FairBooks$Orders", "characterAt", "(I)I"⟩, prog_7_method_4_code, 2, (some (.int)), 0, 0, 772),
  (⟨"FairBooks$Orders", "readOrder", "()Z"⟩, prog_7_method_5_code, 3, (some (.boolean)), 0, 0, 768),
  (⟨"FairBooks$Orders", "skip", "(C)Z"⟩, prog_7_method_6_code, 2, (some (.boolean)), 0, 0, 779),
  (⟨"FairBooks$Orders", "readNumber", "(I)V"⟩, prog_7_method_7_code, 3, none, 0, 0, 786),
  (⟨"FairBooks$Orders", "number", "(I)I"⟩, prog_7_method_8_code, 2, (some (.int)), 0, 0, 794),
  (⟨"FairBooks$Orders", "doOrder", "(LFairBooks$State;LFairBooks$Bench;)I"⟩, prog_7_method_9_code, 3, (some (.int)), 0, 0, 790),
  (⟨"FairBooks$Orders", "howManyNumbers", "(I)I"⟩, prog_7_method_10_code, 1, (some (.int)), 0, 0, 775),
  (⟨"FairBooks$Orders", "isDigit", "(I)Z"⟩, prog_7_method_11_code, 1, (some (.boolean)), 0, 0, 782),
  (⟨"FairBooks", "<init>", "()V"⟩, prog_1_method_1_code, 1, none, 191, 3955, 73),
  (⟨"FairBooks", "name", "(II)I"⟩, prog_1_method_2_code, 3, (some (.int)), 0, 0, 293),
  (⟨"FairBooks", "leaf", "(I)I"⟩, prog_1_method_3_code, 2, (some (.int)), 0, 0, 382),
  (⟨"FairBooks", "sign", "(III)I"⟩, prog_1_method_4_code, 4, (some (.int)), 0, 0, 397),
  (⟨"FairBooks", "over", "(II)I"⟩, prog_1_method_5_code, 3, (some (.int)), 0, 0, 458),
  (⟨"FairBooks", "dedicate", "(III)I"⟩, prog_1_method_6_code, 4, (some (.int)), 0, 0, 482),
  (⟨"FairBooks", "move", "(II)I"⟩, prog_1_method_7_code, 3, (some (.int)), 0, 0, 495),
  (⟨"FairBooks", "trade", "(III)I"⟩, prog_1_method_8_code, 4, (some (.int)), 0, 0, 522),
  (⟨"FairBooks", "tear", "(I)I"⟩, prog_1_method_9_code, 2, (some (.int)), 0, 0, 550),
  (⟨"FairBooks", "coins", "(II)I"⟩, prog_1_method_10_code, 3, (some (.int)), 0, 0, 559),
  (⟨"FairBooks", "pageOf", "(III)I"⟩, prog_1_method_11_code, 6, (some (.int)), 0, 0, 567),
  (⟨"FairBooks", "leafOf", "(II)I"⟩, prog_1_method_12_code, 5, (some (.int)), 0, 0, 583),
  (⟨"FairBooks", "at", "(II)I"⟩, prog_1_method_13_code, 4, (some (.int)), 0, 0, 589),
  (⟨"FairBooks", "collectorOf", "(II)I"⟩, prog_1_method_14_code, 4, (some (.int)), 0, 0, 596),
  (⟨"FairBooks", "nameOf", "(II)I"⟩, prog_1_method_15_code, 3, (some (.int)), 0, 0, 627),
  (⟨"FairBooks", "gain", "(IIII)I"⟩, prog_1_method_16_code, 8, (some (.int)), 0, 0, 646),
  (⟨"FairBooks", "fair", "(II)I"⟩, prog_1_method_17_code, 7, (some (.int)), 0, 0, 663),
  (⟨"FairBooks", "best", "(II)I"⟩, prog_1_method_18_code, 3, (some (.int)), 0, 0, 671),
  (⟨"FairBooks", "missing", "(II)I"⟩, prog_1_method_19_code, 3, (some (.int)), 0, 0, 690),
  (⟨"FairBooks", "mean", "(I)I"⟩, prog_1_method_20_code, 4, (some (.int)), 0, 0, 696),
  (⟨"FairBooks", "count", "(I)I"⟩, prog_1_method_21_code, 2, (some (.int)), 0, 0, 706),
  (⟨"FairBooks", "undo", "()I"⟩, prog_1_method_22_code, 1, (some (.int)), 0, 0, 738),
  (⟨"FairBooks", "type", "(I)I"⟩, prog_1_method_23_code, 2, (some (.int)), 0, 0, 746),
  (⟨"FairBooks", "clearText", "()I"⟩, prog_1_method_24_code, 2, (some (.int)), 0, 0, 755),
  (⟨"FairBooks", "fault", "(I)I"⟩, prog_1_method_25_code, 2, (some (.int)), 0, 0, 759),
  (⟨"FairBooks", "play", "()I"⟩, prog_1_method_26_code, 1, (some (.int)), 0, 0, 804),
  (⟨"FairBooks", "isCollector", "(I)Z"⟩, prog_1_method_27_code, 1, (some (.boolean)), 0, 0, 389),
  (⟨"FairBooks", "isTheme", "(I)Z"⟩, prog_1_method_28_code, 1, (some (.boolean)), 0, 0, 368),
  (⟨"FairBooks", "isSide", "(I)Z"⟩, prog_1_method_29_code, 1, (some (.boolean)), 0, 0, 412),
  (⟨"FairBooks", "arePaid", "(I)Z"⟩, prog_1_method_30_code, 1, (some (.boolean)), 0, 0, 529)]
def ab_yl3 : List ab_Y := [(⟨"FairBooks", "bitsOf", "(F)I"⟩, prog_1_method_31_code, 4, (some (.int)), 0, 0, 700),
  (⟨"FairBooksModel", "<init>", "()V"⟩, prog_10_method_1_code, 2, none, 7, 1588, 810),
  (⟨"FairBooksModel", "in", "(III)Z"⟩, prog_10_method_2_code, 3, (some (.boolean)), 0, 0, 896),
  (⟨"FairBooksModel", "lays", "([I[I)V"⟩, prog_10_method_3_code, 3, none, 0, 0, 1181),
  (⟨"FairBooksModel", "records", "()V"⟩, prog_10_method_4_code, 2, none, 0, 0, 902),
  (⟨"FairBooksModel", "undo", "()I"⟩, prog_10_method_5_code, 2, (some (.int)), 0, 0, 888),
  (⟨"FairBooksModel", "isName", "(I)Z"⟩, prog_10_method_6_code, 2, (some (.boolean)), 0, 0, 939),
  (⟨"FairBooksModel", "isCollector", "(I)Z"⟩, prog_10_method_7_code, 1, (some (.boolean)), 0, 0, 909),
  (⟨"FairBooksModel", "isSide", "(I)Z"⟩, prog_10_method_8_code, 1, (some (.boolean)), 0, 0, 935),
  (⟨"FairBooksModel", "fameOf", "(I)I"⟩, prog_10_method_9_code, 2, (some (.int)), 0, 0, 983),
  (⟨"FairBooksModel", "themeOf", "(I)I"⟩, prog_10_method_10_code, 2, (some (.int)), 0, 0, 995),
  (⟨"FairBooksModel", "leavesOf", "(I)I"⟩, prog_10_method_11_code, 2, (some (.int)), 0, 0, 913),
  (⟨"FairBooksModel", "placed", "(II)I"⟩, prog_10_method_12_code, 2, (some (.int)), 0, 0, 916),
  (⟨"FairBooksModel", "find", "(I)I"⟩, prog_10_method_13_code, 5, (some (.int)), 0, 0, 932),
  (⟨"FairBooksModel", "isLeaf", "(I)Z"⟩, prog_10_method_14_code, 2, (some (.boolean)), 0, 0, 928),
  (⟨"FairBooksModel", "ownerOf", "(I)I"⟩, prog_10_method_15_code, 2, (some (.int)), 0, 0, 943),
  (⟨"FairBooksModel", "placeOf", "(I)I"⟩, prog_10_method_16_code, 2, (some (.int)), 0, 0, 947),
  (⟨"FairBooksModel", "firstOf", "(II)I"⟩, prog_10_method_17_code, 4, (some (.int)), 0, 0, 1006),
  (⟨"FairBooksModel", "sizeOf", "(II)I"⟩, prog_10_method_18_code, 4, (some (.int)), 0, 0, 1010),
  (⟨"FairBooksModel", "entryAt", "(III)I"⟩, prog_10_method_19_code, 5, (some (.int)), 0, 0, 951),
  (⟨"FairBooksModel", "valueFor", "(IIZI)I"⟩, prog_10_method_20_code, 6, (some (.int)), 0, 0, 979),
  (⟨"FairBooksModel", "lists", "(III)V"⟩, prog_10_method_21_code, 5, none, 0, 0, 963),
  (⟨"FairBooksModel", "listsBook", "(I)V"⟩, prog_10_method_22_code, 2, none, 0, 0, 959),
  (⟨"FairBooksModel", "listsTraded", "(IIII)V"⟩, prog_10_method_23_code, 5, none, 0, 0, 1116),
  (⟨"FairBooksModel", "counts", "(IZI)V"⟩, prog_10_method_24_code, 6, none, 0, 0, 975),
  (⟨"FairBooksModel", "goesThrough", "(I)V"⟩, prog_10_method_25_code, 3, none, 0, 0, 971),
  (⟨"FairBooksModel", "namesOf", "(I)I"⟩, prog_10_method_26_code, 4, (some (.int)), 0, 0, 991),
  (⟨"FairBooksModel", "ones", "(I)I"⟩, prog_10_method_27_code, 3, (some (.int)), 0, 0, 998),
  (⟨"FairBooksModel", "isWhole", "(I)Z"⟩, prog_10_method_28_code, 3, (some (.boolean)), 0, 0, 987),
  (⟨"FairBooksModel", "worthListed", "(I)I"⟩, prog_10_method_29_code, 4, (some (.int)), 0, 0, 967),
  (⟨"FairBooksModel", "worthOf", "(I)I"⟩, prog_10_method_30_code, 2, (some (.int)), 0, 0, 955),
  (⟨"FairBooksModel", "wealthOf", "(I)I"⟩, prog_10_method_31_code, 2, (some (.int)), 0, 0, 1075),
  (⟨"FairBooksModel", "name", "(II)I"⟩, prog_10_method_32_code, 4, (some (.int)), 0, 0, 893),
  (⟨"FairBooksModel", "leaf", "(I)I"⟩, prog_10_method_33_code, 4, (some (.int)), 0, 0, 906),
  (⟨"FairBooksModel", "signs", "(IIII)I"⟩, prog_10_method_34_code, 7, (some (.int)), 0, 0, 924),
  (⟨"FairBooksModel", "sign", "(III)I"⟩, prog_10_method_35_code, 4, (some (.int)), 0, 0, 920),
  (⟨"FairBooksModel", "over", "(II)I"⟩, prog_10_method_36_code, 5, (some (.int)), 0, 0, 1002),
  (⟨"FairBooksModel", "dedicate", "(III)I"⟩, prog_10_method_37_code, 6, (some (.int)), 0, 0, 1014),
  (⟨"FairBooksModel", "laysOld", "(II)V"⟩, prog_10_method_38_code, 4, none, 0, 0, 1022),
  (⟨"FairBooksModel", "laysLeaves", "(IIIII)I"⟩, prog_10_method_39_code, 7, (some (.int)), 0, 0, 1026),
  (⟨"FairBooksModel", "move", "(II)I"⟩, prog_10_method_40_code, 10, (some (.int)), 0, 0, 1018)]
def ab_yl4 : List ab_Y := [(⟨"FairBooksModel", "trades", "(IIII)V"⟩, prog_10_method_41_code, 10, none, 0, 0, 1038),
  (⟨"FairBooksModel", "fits", "(IIII)Z"⟩, prog_10_method_42_code, 6, (some (.boolean)), 0, 0, 1034),
  (⟨"FairBooksModel", "trade", "(III)I"⟩, prog_10_method_43_code, 9, (some (.int)), 0, 0, 1030),
  (⟨"FairBooksModel", "tear", "(I)I"⟩, prog_10_method_44_code, 5, (some (.int)), 0, 0, 1042),
  (⟨"FairBooksModel", "coins", "(II)I"⟩, prog_10_method_45_code, 4, (some (.int)), 0, 0, 1046),
  (⟨"FairBooksModel", "countedAt", "(II)I"⟩, prog_10_method_46_code, 7, (some (.int)), 0, 0, 1055),
  (⟨"FairBooksModel", "pageOf", "(III)I"⟩, prog_10_method_47_code, 7, (some (.int)), 0, 0, 1050),
  (⟨"FairBooksModel", "leafOf", "(II)I"⟩, prog_10_method_48_code, 5, (some (.int)), 0, 0, 1059),
  (⟨"FairBooksModel", "at", "(II)I"⟩, prog_10_method_49_code, 3, (some (.int)), 0, 0, 1063),
  (⟨"FairBooksModel", "bundlesOf", "(I)I"⟩, prog_10_method_50_code, 4, (some (.int)), 0, 0, 1087),
  (⟨"FairBooksModel", "entriesIn", "(III)I"⟩, prog_10_method_51_code, 8, (some (.int)), 0, 0, 1071),
  (⟨"FairBooksModel", "entriesInAll", "(II)I"⟩, prog_10_method_52_code, 5, (some (.int)), 0, 0, 1095),
  (⟨"FairBooksModel", "wholeThemes", "(I)I"⟩, prog_10_method_53_code, 4, (some (.int)), 0, 0, 1083),
  (⟨"FairBooksModel", "namesIn", "(I)I"⟩, prog_10_method_54_code, 2, (some (.int)), 0, 0, 1079),
  (⟨"FairBooksModel", "collectorOf", "(II)I"⟩, prog_10_method_55_code, 3, (some (.int)), 0, 0, 1067),
  (⟨"FairBooksModel", "booksWith", "(I)I"⟩, prog_10_method_56_code, 4, (some (.int)), 0, 0, 1099),
  (⟨"FairBooksModel", "nameOf", "(II)I"⟩, prog_10_method_57_code, 3, (some (.int)), 0, 0, 1091),
  (⟨"FairBooksModel", "more", "(IIII)I"⟩, prog_10_method_58_code, 6, (some (.int)), 0, 0, 1112),
  (⟨"FairBooksModel", "gainOf", "(II)I"⟩, prog_10_method_59_code, 5, (some (.int)), 0, 0, 1108),
  (⟨"FairBooksModel", "gain", "(IIII)I"⟩, prog_10_method_60_code, 5, (some (.int)), 0, 0, 1103),
  (⟨"FairBooksModel", "fair", "(II)I"⟩, prog_10_method_61_code, 4, (some (.int)), 0, 0, 1120),
  (⟨"FairBooksModel", "tries", "(IIII)V"⟩, prog_10_method_62_code, 6, none, 0, 0, 1132),
  (⟨"FairBooksModel", "findsBest", "(I)V"⟩, prog_10_method_63_code, 5, none, 0, 0, 1128),
  (⟨"FairBooksModel", "best", "(II)I"⟩, prog_10_method_64_code, 3, (some (.int)), 0, 0, 1124),
  (⟨"FairBooksModel", "missing", "(II)I"⟩, prog_10_method_65_code, 3, (some (.int)), 0, 0, 1136),
  (⟨"FairBooksModel", "mean", "(I)I"⟩, prog_10_method_66_code, 2, (some (.int)), 0, 0, 1140),
  (⟨"FairBooksModel", "leaves", "()I"⟩, prog_10_method_67_code, 3, (some (.int)), 0, 0, 1158),
  (⟨"FairBooksModel", "wealthiest", "()I"⟩, prog_10_method_68_code, 3, (some (.int)), 0, 0, 1162),
  (⟨"FairBooksModel", "allWorths", "()I"⟩, prog_10_method_69_code, 3, (some (.int)), 0, 0, 1166),
  (⟨"FairBooksModel", "count", "(I)I"⟩, prog_10_method_70_code, 2, (some (.int)), 0, 0, 1154),
  (⟨"FairBooksModel", "type", "(I)I"⟩, prog_10_method_71_code, 2, (some (.int)), 0, 0, 1170),
  (⟨"FairBooksModel", "clearText", "()I"⟩, prog_10_method_72_code, 2, (some (.int)), 0, 0, 1174),
  (⟨"FairBooksModel", "sees", "(II)Z"⟩, prog_10_method_73_code, 3, (some (.boolean)), 0, 0, 1193),
  (⟨"FairBooksModel", "takes", "(I)Z"⟩, prog_10_method_74_code, 3, (some (.boolean)), 0, 0, 1204),
  (⟨"FairBooksModel", "number", "(I)Z"⟩, prog_10_method_75_code, 3, (some (.boolean)), 0, 0, 1200),
  (⟨"FairBooksModel", "numbersOf", "(I)I"⟩, prog_10_method_76_code, 1, (some (.int)), 0, 0, 1196),
  (⟨"FairBooksModel", "reads", "()Z"⟩, prog_10_method_77_code, 4, (some (.boolean)), 0, 0, 1189),
  (⟨"FairBooksModel", "calls", "()I"⟩, prog_10_method_78_code, 1, (some (.int)), 0, 0, 1208),
  (⟨"FairBooksModel", "plays", "()Z"⟩, prog_10_method_79_code, 4, (some (.boolean)), 0, 0, 1185),
  (⟨"FairBooksModel", "fault", "(I)I"⟩, prog_10_method_80_code, 3, (some (.int)), 0, 0, 1178),
  (⟨"FairBooksModel", "play", "()I"⟩, prog_10_method_81_code, 2, (some (.int)), 0, 0, 1216)]
def ab_yl : List ab_Y := ab_yl0 ++ ab_yl1 ++ ab_yl2 ++ ab_yl3 ++ ab_yl4
def ab_y (y : Nat) : ab_Y := ab_yl.getD y (⟨"", "", ""⟩, ⟨#[]⟩, 0, none, 0, 0, 0)
def ab_yn (y : Nat) : MethodName := (ab_y y).1
def ab_cod (y : Nat) : ByteArray := (ab_y y).2.1
def ab_ml (y : Nat) : Nat := (ab_y y).2.2.1
def ab_rt (y : Nat) : Option FieldType := (ab_y y).2.2.2.1
def ab_mc (y : Nat) : Nat := (ab_y y).2.2.2.2.1
def ab_ms (y : Nat) : Nat := (ab_y y).2.2.2.2.2.1
def ab_cp (y : Nat) : Nat := (ab_y y).2.2.2.2.2.2
