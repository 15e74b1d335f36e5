def RX0 : String := "FairBooks$Bench"
def TX0 : u_T := fun k => match k with
  | 0 => ("FairBooks$Bench", "spareOne", "LFairBooks$Book;", true)
  | 1 => ("FairBooks$Bench", "spareOther", "LFairBooks$Book;", true)
  | 2 => ("FairBooks$Bench", "one", "LFairBooks$Book;", false)
  | 3 => ("FairBooks$Bench", "other", "LFairBooks$Book;", false)
  | _ => ("FairBooks$Bench", "traded", "I", false)
def tyX0 : Nat → FieldType := fun k => match k with
  | 0 => .object "FairBooks$Book"
  | 1 => .object "FairBooks$Book"
  | 2 => .object "FairBooks$Book"
  | 3 => .object "FairBooks$Book"
  | _ => .int
theorem nmX0 : ∀ a, a < 5 → ∀ b, b < 5 → a ≠ b → (TX0 a).2.1 ≠ (TX0 b).2.1 := by decide +kernel
theorem tyX0_ok : ∀ k, k < 5 → parseFieldDescriptor (TX0 k).2.2.1 = some (tyX0 k) := by decide +kernel
def RX1 : String := "FairBooks$BestTrade"
def TX1 : u_T := fun k => match k with
  | 0 => ("FairBooks$BestTrade", "ownLeaf", "I", false)
  | 1 => ("FairBooks$BestTrade", "otherLeaf", "I", false)
  | _ => ("FairBooks$BestTrade", "gained", "I", false)
def tyX1 : Nat → FieldType := fun k => match k with
  | 0 => .int
  | 1 => .int
  | _ => .int
theorem nmX1 : ∀ a, a < 3 → ∀ b, b < 3 → a ≠ b → (TX1 a).2.1 ≠ (TX1 b).2.1 := by decide +kernel
theorem tyX1_ok : ∀ k, k < 3 → parseFieldDescriptor (TX1 k).2.2.1 = some (tyX1 k) := by decide +kernel
def RX2 : String := "FairBooks$Book"
def TX2 : u_T := fun k => match k with
  | 0 => ("FairBooks$Book", "numbers", "[I", true)
  | 1 => ("FairBooks$Book", "kinds", "[I", true)
  | 2 => ("FairBooks$Book", "signers", "[I", true)
  | 3 => ("FairBooks$Book", "friends", "[I", true)
  | 4 => ("FairBooks$Book", "owner", "I", false)
  | _ => ("FairBooks$Book", "size", "I", false)
def tyX2 : Nat → FieldType := fun k => match k with
  | 0 => .array .int
  | 1 => .array .int
  | 2 => .array .int
  | 3 => .array .int
  | 4 => .int
  | _ => .int
theorem nmX2 : ∀ a, a < 6 → ∀ b, b < 6 → a ≠ b → (TX2 a).2.1 ≠ (TX2 b).2.1 := by decide +kernel
theorem tyX2_ok : ∀ k, k < 6 → parseFieldDescriptor (TX2 k).2.2.1 = some (tyX2 k) := by decide +kernel
def RX3 : String := "FairBooks$History"
def TX3 : u_T := fun k => match k with
  | 0 => ("FairBooks$History", "spare", "LFairBooks$State;", false)
  | 1 => ("FairBooks$History", "first", "LFairBooks$State;", false)
  | 2 => ("FairBooks$History", "second", "LFairBooks$State;", false)
  | 3 => ("FairBooks$History", "third", "LFairBooks$State;", false)
  | 4 => ("FairBooks$History", "fourth", "LFairBooks$State;", false)
  | _ => ("FairBooks$History", "size", "I", false)
def tyX3 : Nat → FieldType := fun k => match k with
  | 0 => .object "FairBooks$State"
  | 1 => .object "FairBooks$State"
  | 2 => .object "FairBooks$State"
  | 3 => .object "FairBooks$State"
  | 4 => .object "FairBooks$State"
  | _ => .int
theorem nmX3 : ∀ a, a < 6 → ∀ b, b < 6 → a ≠ b → (TX3 a).2.1 ≠ (TX3 b).2.1 := by decide +kernel
theorem tyX3_ok : ∀ k, k < 6 → parseFieldDescriptor (TX3 k).2.2.1 = some (tyX3 k) := by decide +kernel
def RX4 : String := "FairBooks$Names"
def TX4 : u_T := fun k => match k with
  | 0 => ("FairBooks$Names", "fames", "[I", true)
  | 1 => ("FairBooks$Names", "themes", "[I", true)
  | _ => ("FairBooks$Names", "size", "I", false)
def tyX4 : Nat → FieldType := fun k => match k with
  | 0 => .array .int
  | 1 => .array .int
  | _ => .int
theorem nmX4 : ∀ a, a < 3 → ∀ b, b < 3 → a ≠ b → (TX4 a).2.1 ≠ (TX4 b).2.1 := by decide +kernel
theorem tyX4_ok : ∀ k, k < 3 → parseFieldDescriptor (TX4 k).2.2.1 = some (tyX4 k) := by decide +kernel
def RX5 : String := "FairBooks$Orders"
def TX5 : u_T := fun k => match k with
  | 0 => ("FairBooks$Orders", "characters", "[I", true)
  | 1 => ("FairBooks$Orders", "numbers", "[I", true)
  | 2 => ("FairBooks$Orders", "length", "I", false)
  | 3 => ("FairBooks$Orders", "start", "I", false)
  | 4 => ("FairBooks$Orders", "next", "I", false)
  | 5 => ("FairBooks$Orders", "done", "I", false)
  | 6 => ("FairBooks$Orders", "reason", "I", false)
  | _ => ("FairBooks$Orders", "cause", "I", false)
def tyX5 : Nat → FieldType := fun k => match k with
  | 0 => .array .int
  | 1 => .array .int
  | 2 => .int
  | 3 => .int
  | 4 => .int
  | 5 => .int
  | 6 => .int
  | _ => .int
theorem nmX5 : ∀ a, a < 8 → ∀ b, b < 8 → a ≠ b → (TX5 a).2.1 ≠ (TX5 b).2.1 := by decide +kernel
theorem tyX5_ok : ∀ k, k < 8 → parseFieldDescriptor (TX5 k).2.2.1 = some (tyX5 k) := by decide +kernel
def RX6 : String := "FairBooks$State"
def TX6 : u_T := fun k => match k with
  | 0 => ("FairBooks$State", "names", "LFairBooks$Names;", true)
  | 1 => ("FairBooks$State", "book0", "LFairBooks$Book;", true)
  | 2 => ("FairBooks$State", "book1", "LFairBooks$Book;", true)
  | 3 => ("FairBooks$State", "book2", "LFairBooks$Book;", true)
  | 4 => ("FairBooks$State", "book3", "LFairBooks$Book;", true)
  | 5 => ("FairBooks$State", "purses", "[I", true)
  | 6 => ("FairBooks$State", "tradesSoFar", "I", false)
  | _ => ("FairBooks$State", "leavesSoFar", "I", false)
def tyX6 : Nat → FieldType := fun k => match k with
  | 0 => .object "FairBooks$Names"
  | 1 => .object "FairBooks$Book"
  | 2 => .object "FairBooks$Book"
  | 3 => .object "FairBooks$Book"
  | 4 => .object "FairBooks$Book"
  | 5 => .array .int
  | 6 => .int
  | _ => .int
theorem nmX6 : ∀ a, a < 8 → ∀ b, b < 8 → a ≠ b → (TX6 a).2.1 ≠ (TX6 b).2.1 := by decide +kernel
theorem tyX6_ok : ∀ k, k < 8 → parseFieldDescriptor (TX6 k).2.2.1 = some (tyX6 k) := by decide +kernel
def RX7 : String := "FairBooks"
def TX7 : u_T := fun k => match k with
  | 0 => ("FairBooks", "now", "LFairBooks$State;", true)
  | 1 => ("FairBooks", "trial", "LFairBooks$State;", true)
  | 2 => ("FairBooks", "history", "LFairBooks$History;", true)
  | 3 => ("FairBooks", "orders", "LFairBooks$Orders;", true)
  | 4 => ("FairBooks", "bench", "LFairBooks$Bench;", true)
  | _ => ("FairBooks", "bestTrade", "LFairBooks$BestTrade;", true)
def tyX7 : Nat → FieldType := fun k => match k with
  | 0 => .object "FairBooks$State"
  | 1 => .object "FairBooks$State"
  | 2 => .object "FairBooks$History"
  | 3 => .object "FairBooks$Orders"
  | 4 => .object "FairBooks$Bench"
  | _ => .object "FairBooks$BestTrade"
theorem nmX7 : ∀ a, a < 6 → ∀ b, b < 6 → a ≠ b → (TX7 a).2.1 ≠ (TX7 b).2.1 := by decide +kernel
theorem tyX7_ok : ∀ k, k < 6 → parseFieldDescriptor (TX7 k).2.2.1 = some (tyX7 k) := by decide +kernel
def RX8 : String := "FairBooksModel"
def TX8 : u_T := fun k => match k with
  | 0 => ("FairBooksModel", "s", "[I", true)
  | 1 => ("FairBooksModel", "held", "[I", true)
  | 2 => ("FairBooksModel", "old", "[I", true)
  | 3 => ("FairBooksModel", "past", "[I", true)
  | 4 => ("FairBooksModel", "pasts", "I", false)
  | 5 => ("FairBooksModel", "runs", "Z", false)
  | 6 => ("FairBooksModel", "text", "[I", true)
  | 7 => ("FairBooksModel", "typed", "I", false)
  | 8 => ("FairBooksModel", "list", "[I", true)
  | 9 => ("FairBooksModel", "listed", "I", false)
  | 10 => ("FairBooksModel", "names", "I", false)
  | 11 => ("FairBooksModel", "entries", "I", false)
  | 12 => ("FairBooksModel", "values", "I", false)
  | 13 => ("FairBooksModel", "bestOwn", "I", false)
  | 14 => ("FairBooksModel", "bestOther", "I", false)
  | 15 => ("FairBooksModel", "bestPlace", "I", false)
  | 16 => ("FairBooksModel", "bestGain", "I", false)
  | 17 => ("FairBooksModel", "spot", "I", false)
  | 18 => ("FairBooksModel", "from", "I", false)
  | 19 => ("FairBooksModel", "reason", "I", false)
  | 20 => ("FairBooksModel", "cause", "I", false)
  | 21 => ("FairBooksModel", "orders", "I", false)
  | 22 => ("FairBooksModel", "order", "I", false)
  | _ => ("FairBooksModel", "told", "[I", true)
def tyX8 : Nat → FieldType := fun k => match k with
  | 0 => .array .int
  | 1 => .array .int
  | 2 => .array .int
  | 3 => .array .int
  | 4 => .int
  | 5 => .boolean
  | 6 => .array .int
  | 7 => .int
  | 8 => .array .int
  | 9 => .int
  | 10 => .int
  | 11 => .int
  | 12 => .int
  | 13 => .int
  | 14 => .int
  | 15 => .int
  | 16 => .int
  | 17 => .int
  | 18 => .int
  | 19 => .int
  | 20 => .int
  | 21 => .int
  | 22 => .int
  | _ => .array .int
theorem nmX8 : ∀ a, a < 24 → ∀ b, b < 24 → a ≠ b → (TX8 a).2.1 ≠ (TX8 b).2.1 := by decide +kernel
theorem tyX8_ok : ∀ k, k < 24 → parseFieldDescriptor (TX8 k).2.2.1 = some (tyX8 k) := by decide +kernel
abbrev vwCl : List vw_C := [(RX0, TX0, 5), (RX1, TX1, 3), (RX2, TX2, 6), (RX3, TX3, 6), (RX4, TX4, 3), (RX5, TX5, 8), (RX6, TX6, 8), (RX7, TX7, 6), (RX8, TX8, 24)]
def ab_tx : Nat → u_T := fun ci => match ci with
  | 0 => TX0
  | 1 => TX1
  | 2 => TX2
  | 3 => TX3
  | 4 => TX4
  | 5 => TX5
  | 6 => TX6
  | 7 => TX7
  | 8 => TX8
  | _ => TX0
def ab_ty : Nat → Nat → FieldType := fun ci => match ci with
  | 0 => tyX0
  | 1 => tyX1
  | 2 => tyX2
  | 3 => tyX3
  | 4 => tyX4
  | 5 => tyX5
  | 6 => tyX6
  | 7 => tyX7
  | 8 => tyX8
  | _ => tyX0
def ab_nf : Nat → Nat := fun ci => match ci with
  | 0 => 5
  | 1 => 3
  | 2 => 6
  | 3 => 6
  | 4 => 3
  | 5 => 8
  | 6 => 8
  | 7 => 6
  | 8 => 24
  | _ => 0
def ab_cn : Nat → String := fun ci => match ci with
  | 0 => RX0
  | 1 => RX1
  | 2 => RX2
  | 3 => RX3
  | 4 => RX4
  | 5 => RX5
  | 6 => RX6
  | 7 => RX7
  | 8 => RX8
  | _ => ""
/-- a field: 0 an int, 1 a reference, 2 a boolean -/
def ab_fk : Nat → Nat → Nat := fun ci f => match ab_ty ci f with
  | .int => 0
  | .boolean => 2
  | _ => 1
/-- the cells in the order in which they are made: a class, or 100 and an array's length -/
def ab_shl : List Nat := [7, 6, 4, 116, 116, 2, 116, 132, 132, 132, 2, 116, 132, 132, 132, 2, 116, 132, 132, 132, 2, 116, 132, 132, 132, 104, 6, 4, 116, 116, 2, 116, 132, 132, 132, 2, 116, 132, 132, 132, 2, 116, 132, 132, 132, 2, 116, 132, 132, 132, 104, 3, 6, 4, 116, 116, 2, 116, 132, 132, 132, 2, 116, 132, 132, 132, 2, 116, 132, 132, 132, 2, 116, 132, 132, 132, 104, 6, 4, 116, 116, 2, 116, 132, 132, 132, 2, 116, 132, 132, 132, 2, 116, 132, 132, 132, 2, 116, 132, 132, 132, 104, 6, 4, 116, 116, 2, 116, 132, 132, 132, 2, 116, 132, 132, 132, 2, 116, 132, 132, 132, 2, 116, 132, 132, 132, 104, 6, 4, 116, 116, 2, 116, 132, 132, 132, 2, 116, 132, 132, 132, 2, 116, 132, 132, 132, 2, 116, 132, 132, 132, 104, 6, 4, 116, 116, 2, 116, 132, 132, 132, 2, 116, 132, 132, 132, 2, 116, 132, 132, 132, 2, 116, 132, 132, 132, 104, 5, 160, 104, 0, 2, 116, 132, 132, 132, 2, 116, 132, 132, 132, 1, 8, 335, 335, 198, 1040, 160, 116, 104]
def ab_sh (k : Nat) : Nat := ab_shl.getD k 9999
abbrev ab_Y : Type := MethodName × ByteArray × Nat × Option FieldType × Nat × Nat × Nat
def ab_yl0 : List ab_Y := [(⟨"java/lang/Math", "max", "(II)I"⟩, prog_13_method_65_code, 2, (some (.int)), 0, 0, 666),
  (⟨"java/lang/Math", "min", "(II)I"⟩, prog_13_method_69_code, 2, (some (.int)), 0, 0, 378),
  (⟨"java/lang/Integer", "bitCount", "(I)I"⟩, prog_12_method_49_code, 1, (some (.int)), 0, 0, 451),
  (⟨"java/lang/Float", "isNaN", "(F)Z"⟩, prog_11_method_6_code, 1, (some (.boolean)), 0, 0, 1146),
  (⟨"java/lang/Float", "floatToIntBits", "(F)I"⟩, prog_11_method_24_code, 1, (some (.int)), 0, 0, 1143),
  (⟨"FairBooksModel", "<init>", "()V"⟩, prog_10_method_1_code, 2, none, 7, 1588, 810),
  (⟨"FairBooksModel", "in", "(III)Z"⟩, prog_10_method_2_code, 3, (some (.boolean)), 0, 0, 896),
  (⟨"FairBooksModel", "lays", "([I[I)V"⟩, prog_10_method_3_code, 3, none, 0, 0, 1181),
  (⟨"FairBooksModel", "records", "()V"⟩, prog_10_method_4_code, 2, none, 0, 0, 902),
  (⟨"FairBooksModel", "undo", "()I"⟩, prog_10_method_5_code, 2, (some (.int)), 0, 0, 888),
  (⟨"FairBooksModel", "isName", "(I)Z"⟩, prog_10_method_6_code, 2, (some (.boolean)), 0, 0, 939),
  (⟨"FairBooksModel", "isCollector", "(I)Z"⟩, prog_10_method_7_code, 1, (some (.boolean)), 0, 0, 909),
  (⟨"FairBooksModel", "isSide", "(I)Z"⟩, prog_10_method_8_code, 1, (some (.boolean)), 0, 0, 935),
  (⟨"FairBooksModel", "fameOf", "(I)I"⟩, prog_10_method_9_code, 2, (some (.int)), 0, 0, 983),
  (⟨"FairBooksModel", "themeOf", "(I)I"⟩, prog_10_method_10_code, 2, (some (.int)), 0, 0, 995),
  (⟨"FairBooksModel", "leavesOf", "(I)I"⟩, prog_10_method_11_code, 2, (some (.int)), 0, 0, 913),
  (⟨"FairBooksModel", "placed", "(II)I"⟩, prog_10_method_12_code, 2, (some (.int)), 0, 0, 916),
  (⟨"FairBooksModel", "find", "(I)I"⟩, prog_10_method_13_code, 5, (some (.int)), 0, 0, 932),
  (⟨"FairBooksModel", "isLeaf", "(I)Z"⟩, prog_10_method_14_code, 2, (some (.boolean)), 0, 0, 928),
  (⟨"FairBooksModel", "ownerOf", "(I)I"⟩, prog_10_method_15_code, 2, (some (.int)), 0, 0, 943),
  (⟨"FairBooksModel", "placeOf", "(I)I"⟩, prog_10_method_16_code, 2, (some (.int)), 0, 0, 947),
  (⟨"FairBooksModel", "firstOf", "(II)I"⟩, prog_10_method_17_code, 4, (some (.int)), 0, 0, 1006),
  (⟨"FairBooksModel", "sizeOf", "(II)I"⟩, prog_10_method_18_code, 4, (some (.int)), 0, 0, 1010),
  (⟨"FairBooksModel", "entryAt", "(III)I"⟩, prog_10_method_19_code, 5, (some (.int)), 0, 0, 951),
  (⟨"FairBooksModel", "valueFor", "(IIZI)I"⟩, prog_10_method_20_code, 6, (some (.int)), 0, 0, 979),
  (⟨"FairBooksModel", "lists", "(III)V"⟩, prog_10_method_21_code, 5, none, 0, 0, 963),
  (⟨"FairBooksModel", "listsBook", "(I)V"⟩, prog_10_method_22_code, 2, none, 0, 0, 959),
  (⟨"FairBooksModel", "listsTraded", "(IIII)V"⟩, prog_10_method_23_code, 5, none, 0, 0, 1116),
  (⟨"FairBooksModel", "counts", "(IZI)V"⟩, prog_10_method_24_code, 6, none, 0, 0, 975),
  (⟨"FairBooksModel", "goesThrough", "(I)V"⟩, prog_10_method_25_code, 3, none, 0, 0, 971),
  (⟨"FairBooksModel", "namesOf", "(I)I"⟩, prog_10_method_26_code, 4, (some (.int)), 0, 0, 991),
  (⟨"FairBooksModel", "ones", "(I)I"⟩, prog_10_method_27_code, 3, (some (.int)), 0, 0, 998),
  (⟨"FairBooksModel", "isWhole", "(I)Z"⟩, prog_10_method_28_code, 3, (some (.boolean)), 0, 0, 987),
  (⟨"FairBooksModel", "worthListed", "(I)I"⟩, prog_10_method_29_code, 4, (some (.int)), 0, 0, 967),
  (⟨"FairBooksModel", "worthOf", "(I)I"⟩, prog_10_method_30_code, 2, (some (.int)), 0, 0, 955),
  (⟨"FairBooksModel", "wealthOf", "(I)I"⟩, prog_10_method_31_code, 2, (some (.int)), 0, 0, 1075),
  (⟨"FairBooksModel", "name", "(II)I"⟩, prog_10_method_32_code, 4, (some (.int)), 0, 0, 893),
  (⟨"FairBooksModel", "leaf", "(I)I"⟩, prog_10_method_33_code, 4, (some (.int)), 0, 0, 906),
  (⟨"FairBooksModel", "signs", "(IIII)I"⟩, prog_10_method_34_code, 7, (some (.int)), 0, 0, 924),
  (⟨"FairBooksModel", "sign", "(III)I"⟩, prog_10_method_35_code, 4, (some (.int)), 0, 0, 920),
  (⟨"FairBooksModel", "over", "(II)I"⟩, prog_10_method_36_code, 5, (some (.int)), 0, 0, 1002)]
def ab_yl1 : List ab_Y := [(⟨"FairBooksModel", "dedicate", "(III)I"⟩, prog_10_method_37_code, 6, (some (.int)), 0, 0, 1014),
  (⟨"FairBooksModel", "laysOld", "(II)V"⟩, prog_10_method_38_code, 4, none, 0, 0, 1022),
  (⟨"FairBooksModel", "laysLeaves", "(IIIII)I"⟩, prog_10_method_39_code, 7, (some (.int)), 0, 0, 1026),
  (⟨"FairBooksModel", "move", "(II)I"⟩, prog_10_method_40_code, 10, (some (.int)), 0, 0, 1018),
  (⟨"FairBooksModel", "trades", "(IIII)V"⟩, prog_10_method_41_code, 10, none, 0, 0, 1038),
  (⟨"FairBooksModel", "fits", "(IIII)Z"⟩, prog_10_method_42_code, 6, (some (.boolean)), 0, 0, 1034),
  (⟨"FairBooksModel", "trade", "(III)I"⟩, prog_10_method_43_code, 9, (some (.int)), 0, 0, 1030),
  (⟨"FairBooksModel", "tear", "(I)I"⟩, prog_10_method_44_code, 5, (some (.int)), 0, 0, 1042),
  (⟨"FairBooksModel", "coins", "(II)I"⟩, prog_10_method_45_code, 4, (some (.int)), 0, 0, 1046),
  (⟨"FairBooksModel", "countedAt", "(II)I"⟩, prog_10_method_46_code, 7, (some (.int)), 0, 0, 1055),
  (⟨"FairBooksModel", "pageOf", "(III)I"⟩, prog_10_method_47_code, 7, (some (.int)), 0, 0, 1050),
  (⟨"FairBooksModel", "leafOf", "(II)I"⟩, prog_10_method_48_code, 5, (some (.int)), 0, 0, 1059),
  (⟨"FairBooksModel", "at", "(II)I"⟩, prog_10_method_49_code, 3, (some (.int)), 0, 0, 1063),
  (⟨"FairBooksModel", "bundlesOf", "(I)I"⟩, prog_10_method_50_code, 4, (some (.int)), 0, 0, 1087),
  (⟨"FairBooksModel", "entriesIn", "(III)I"⟩, prog_10_method_51_code, 8, (some (.int)), 0, 0, 1071),
  (⟨"FairBooksModel", "entriesInAll", "(II)I"⟩, prog_10_method_52_code, 5, (some (.int)), 0, 0, 1095),
  (⟨"FairBooksModel", "wholeThemes", "(I)I"⟩, prog_10_method_53_code, 4, (some (.int)), 0, 0, 1083),
  (⟨"FairBooksModel", "namesIn", "(I)I"⟩, prog_10_method_54_code, 2, (some (.int)), 0, 0, 1079),
  (⟨"FairBooksModel", "collectorOf", "(II)I"⟩, prog_10_method_55_code, 3, (some (.int)), 0, 0, 1067),
  (⟨"FairBooksModel", "booksWith", "(I)I"⟩, prog_10_method_56_code, 4, (some (.int)), 0, 0, 1099),
  (⟨"FairBooksModel", "nameOf", "(II)I"⟩, prog_10_method_57_code, 3, (some (.int)), 0, 0, 1091),
  (⟨"FairBooksModel", "more", "(IIII)I"⟩, prog_10_method_58_code, 6, (some (.int)), 0, 0, 1112),
  (⟨"FairBooksModel", "gainOf", "(II)I"⟩, prog_10_method_59_code, 5, (some (.int)), 0, 0, 1108),
  (⟨"FairBooksModel", "gain", "(IIII)I"⟩, prog_10_method_60_code, 5, (some (.int)), 0, 0, 1103),
  (⟨"FairBooksModel", "fair", "(II)I"⟩, prog_10_method_61_code, 4, (some (.int)), 0, 0, 1120),
  (⟨"FairBooksModel", "tries", "(IIII)V"⟩, prog_10_method_62_code, 6, none, 0, 0, 1132),
  (⟨"FairBooksModel", "findsBest", "(I)V"⟩, prog_10_method_63_code, 5, none, 0, 0, 1128),
  (⟨"FairBooksModel", "best", "(II)I"⟩, prog_10_method_64_code, 3, (some (.int)), 0, 0, 1124),
  (⟨"FairBooksModel", "missing", "(II)I"⟩, prog_10_method_65_code, 3, (some (.int)), 0, 0, 1136),
  (⟨"FairBooksModel", "mean", "(I)I"⟩, prog_10_method_66_code, 2, (some (.int)), 0, 0, 1140),
  (⟨"FairBooksModel", "leaves", "()I"⟩, prog_10_method_67_code, 3, (some (.int)), 0, 0, 1158),
  (⟨"FairBooksModel", "wealthiest", "()I"⟩, prog_10_method_68_code, 3, (some (.int)), 0, 0, 1162),
  (⟨"FairBooksModel", "allWorths", "()I"⟩, prog_10_method_69_code, 3, (some (.int)), 0, 0, 1166),
  (⟨"FairBooksModel", "count", "(I)I"⟩, prog_10_method_70_code, 2, (some (.int)), 0, 0, 1154),
  (⟨"FairBooksModel", "type", "(I)I"⟩, prog_10_method_71_code, 2, (some (.int)), 0, 0, 1170),
  (⟨"FairBooksModel", "clearText", "()I"⟩, prog_10_method_72_code, 2, (some (.int)), 0, 0, 1174),
  (⟨"FairBooksModel", "sees", "(II)Z"⟩, prog_10_method_73_code, 3, (some (.boolean)), 0, 0, 1193),
  (⟨"FairBooksModel", "takes", "(I)Z"⟩, prog_10_method_74_code, 3, (some (.boolean)), 0, 0, 1204),
  (⟨"FairBooksModel", "number", "(I)Z"⟩, prog_10_method_75_code, 3, (some (.boolean)), 0, 0, 1200),
  (⟨"FairBooksModel", "numbersOf", "(I)I"⟩, prog_10_method_76_code, 1, (some (.int)), 0, 0, 1196),
  (⟨"FairBooksModel", "reads", "()Z"⟩, prog_10_method_77_code, 4, (some (.boolean)), 0, 0, 1189)]
def ab_yl2 : List ab_Y := [(⟨"FairBooksModel", "calls", "()I"⟩, prog_10_method_78_code, 1, (some (.int)), 0, 0, 1208),
  (⟨"FairBooksModel", "plays", "()Z"⟩, prog_10_method_79_code, 4, (some (.boolean)), 0, 0, 1185),
  (⟨"FairBooksModel", "fault", "(I)I"⟩, prog_10_method_80_code, 3, (some (.int)), 0, 0, 1178),
  (⟨"FairBooksModel", "play", "()I"⟩, prog_10_method_81_code, 2, (some (.int)), 0, 0, 1216),
  (⟨"FairBooks$Names", "<init>", "()V"⟩, prog_6_method_1_code, 1, none, 2, 32, 87),
  (⟨"FairBooks$Names", "has", "(I)Z"⟩, prog_6_method_2_code, 2, (some (.boolean)), 0, 0, 416),
  (⟨"FairBooks$Names", "fameOf", "(I)I"⟩, prog_6_method_3_code, 2, (some (.int)), 0, 0, 309),
  (⟨"FairBooks$Names", "themeOf", "(I)I"⟩, prog_6_method_4_code, 2, (some (.int)), 0, 0, 313),
  (⟨"FairBooks$Names", "setOf", "(I)I"⟩, prog_6_method_5_code, 4, (some (.int)), 0, 0, 448),
  (⟨"FairBooks$Names", "add", "(II)V"⟩, prog_6_method_6_code, 3, none, 0, 0, 317),
  (⟨"FairBooks$Names", "copyFrom", "(LFairBooks$Names;)V"⟩, prog_6_method_7_code, 3, none, 0, 0, 305),
  (⟨"FairBooks$Book", "<init>", "(I)V"⟩, prog_4_method_1_code, 2, none, 4, 112, 106),
  (⟨"FairBooks$Book", "numberAt", "(I)I"⟩, prog_4_method_2_code, 2, (some (.int)), 0, 0, 337),
  (⟨"FairBooks$Book", "kindOf", "(I)I"⟩, prog_4_method_3_code, 2, (some (.int)), 0, 0, 341),
  (⟨"FairBooks$Book", "nameOn", "(I)I"⟩, prog_4_method_4_code, 2, (some (.int)), 0, 0, 345),
  (⟨"FairBooks$Book", "friendOn", "(I)I"⟩, prog_4_method_5_code, 2, (some (.int)), 0, 0, 349),
  (⟨"FairBooks$Book", "find", "(I)I"⟩, prog_4_method_6_code, 3, (some (.int)), 0, 0, 409),
  (⟨"FairBooks$Book", "startsEntry", "(I)Z"⟩, prog_4_method_7_code, 2, (some (.boolean)), 0, 0, 431),
  (⟨"FairBooks$Book", "countEntries", "()I"⟩, prog_4_method_8_code, 3, (some (.int)), 0, 0, 601),
  (⟨"FairBooks$Book", "countEntriesOf", "(I)I"⟩, prog_4_method_9_code, 4, (some (.int)), 0, 0, 638),
  (⟨"FairBooks$Book", "countDedicatedTo", "(I)I"⟩, prog_4_method_10_code, 4, (some (.int)), 0, 0, 623),
  (⟨"FairBooks$Book", "countDedicated", "()I"⟩, prog_4_method_11_code, 1, (some (.int)), 0, 0, 732),
  (⟨"FairBooks$Book", "nameSet", "()I"⟩, prog_4_method_12_code, 1, (some (.int)), 0, 0, 610),
  (⟨"FairBooks$Book", "namesAhead", "(I)I"⟩, prog_4_method_13_code, 4, (some (.int)), 0, 0, 444),
  (⟨"FairBooks$Book", "valueOn", "(ILFairBooks$Names;)I"⟩, prog_4_method_14_code, 4, (some (.int)), 0, 0, 579),
  (⟨"FairBooks$Book", "valueBehind", "(IILFairBooks$Names;)I"⟩, prog_4_method_15_code, 7, (some (.int)), 0, 0, 435),
  (⟨"FairBooks$Book", "sumOfValues", "(LFairBooks$Names;)I"⟩, prog_4_method_16_code, 5, (some (.int)), 0, 0, 427),
  (⟨"FairBooks$Book", "wholeThemes", "(LFairBooks$Names;)I"⟩, prog_4_method_17_code, 6, (some (.int)), 0, 0, 440),
  (⟨"FairBooks$Book", "worth", "(LFairBooks$Names;)I"⟩, prog_4_method_18_code, 5, (some (.int)), 0, 0, 423),
  (⟨"FairBooks$Book", "isJoined", "(I)Z"⟩, prog_4_method_19_code, 3, (some (.boolean)), 0, 0, 474),
  (⟨"FairBooks$Book", "startsBundle", "(I)Z"⟩, prog_4_method_20_code, 2, (some (.boolean)), 0, 0, 619),
  (⟨"FairBooks$Book", "bundleFirst", "(I)I"⟩, prog_4_method_21_code, 3, (some (.int)), 0, 0, 478),
  (⟨"FairBooks$Book", "bundleEnd", "(I)I"⟩, prog_4_method_22_code, 3, (some (.int)), 0, 0, 470),
  (⟨"FairBooks$Book", "bundleSize", "(I)I"⟩, prog_4_method_23_code, 2, (some (.int)), 0, 0, 466),
  (⟨"FairBooks$Book", "countBundles", "()I"⟩, prog_4_method_24_code, 3, (some (.int)), 0, 0, 615),
  (⟨"FairBooks$Book", "canShift", "(II)Z"⟩, prog_4_method_25_code, 5, (some (.boolean)), 0, 0, 503),
  (⟨"FairBooks$Book", "setEntry", "(IIII)V"⟩, prog_4_method_26_code, 5, none, 0, 0, 353),
  (⟨"FairBooks$Book", "setFriend", "(II)V"⟩, prog_4_method_27_code, 3, none, 0, 0, 491),
  (⟨"FairBooks$Book", "addLeaf", "(I)V"⟩, prog_4_method_28_code, 2, none, 0, 0, 393),
  (⟨"FairBooks$Book", "addLeaves", "(LFairBooks$Book;II)V"⟩, prog_4_method_29_code, 7, none, 0, 0, 333),
  (⟨"FairBooks$Book", "clearFor", "(I)V"⟩, prog_4_method_30_code, 2, none, 0, 0, 329)]
def ab_yl3 : List ab_Y := [(⟨"FairBooks$Book", "copyFrom", "(LFairBooks$Book;)V"⟩, prog_4_method_31_code, 2, none, 0, 0, 325),
  (⟨"FairBooks$Bench", "<init>", "()V"⟩, prog_2_method_1_code, 1, none, 10, 236, 231),
  (⟨"FairBooks$Bench", "takeOut", "(LFairBooks$Book;I)V"⟩, prog_2_method_2_code, 3, none, 0, 0, 517),
  (⟨"FairBooks$Bench", "shift", "(LFairBooks$Book;II)V"⟩, prog_2_method_3_code, 4, none, 0, 0, 509),
  (⟨"FairBooks$Bench", "layOut", "(LFairBooks$Book;ILFairBooks$Book;I)V"⟩, prog_2_method_4_code, 5, none, 0, 0, 533),
  (⟨"FairBooks$Bench", "layOutFor", "(LFairBooks$Book;LFairBooks$Book;ILFairBooks$Book;I)V"⟩, prog_2_method_5_code, 6, none, 0, 0, 537),
  (⟨"FairBooks$Bench", "fits", "()Z"⟩, prog_2_method_6_code, 1, (some (.boolean)), 0, 0, 542),
  (⟨"FairBooks$Bench", "gainOfOne", "(LFairBooks$Names;)I"⟩, prog_2_method_7_code, 2, (some (.int)), 0, 0, 653),
  (⟨"FairBooks$Bench", "gainOfOther", "(LFairBooks$Names;)I"⟩, prog_2_method_8_code, 2, (some (.int)), 0, 0, 658),
  (⟨"FairBooks$Bench", "settle", "()V"⟩, prog_2_method_9_code, 1, none, 0, 0, 546),
  (⟨"FairBooks$State", "<init>", "()V"⟩, prog_8_method_1_code, 1, none, 24, 511, 81),
  (⟨"FairBooks$State", "copyFrom", "(LFairBooks$State;)V"⟩, prog_8_method_2_code, 3, none, 0, 0, 301),
  (⟨"FairBooks$State", "bookOf", "(I)LFairBooks$Book;"⟩, prog_8_method_3_code, 2, (some (.object "FairBooks$Book")), 0, 0, 321),
  (⟨"FairBooks$State", "bookWith", "(I)LFairBooks$Book;"⟩, prog_8_method_4_code, 3, (some (.object "FairBooks$Book")), 0, 0, 405),
  (⟨"FairBooks$State", "purseOf", "(I)I"⟩, prog_8_method_5_code, 2, (some (.int)), 0, 0, 357),
  (⟨"FairBooks$State", "setPurse", "(II)V"⟩, prog_8_method_6_code, 3, none, 0, 0, 361),
  (⟨"FairBooks$State", "addName", "(II)I"⟩, prog_8_method_7_code, 3, (some (.int)), 0, 0, 365),
  (⟨"FairBooks$State", "addLeaf", "(I)I"⟩, prog_8_method_8_code, 3, (some (.int)), 0, 0, 386),
  (⟨"FairBooks$State", "addEntry", "(IIII)I"⟩, prog_8_method_9_code, 7, (some (.int)), 0, 0, 401),
  (⟨"FairBooks$State", "addWideEntry", "(II)I"⟩, prog_8_method_10_code, 6, (some (.int)), 0, 0, 462),
  (⟨"FairBooks$State", "setFriend", "(III)I"⟩, prog_8_method_11_code, 7, (some (.int)), 0, 0, 486),
  (⟨"FairBooks$State", "shiftBundle", "(IILFairBooks$Bench;)I"⟩, prog_8_method_12_code, 7, (some (.int)), 0, 0, 499),
  (⟨"FairBooks$State", "exchange", "(IIILFairBooks$Bench;)I"⟩, prog_8_method_13_code, 9, (some (.int)), 0, 0, 526),
  (⟨"FairBooks$State", "takeOut", "(ILFairBooks$Bench;)I"⟩, prog_8_method_14_code, 5, (some (.int)), 0, 0, 554),
  (⟨"FairBooks$State", "fillPurse", "(II)I"⟩, prog_8_method_15_code, 4, (some (.int)), 0, 0, 563),
  (⟨"FairBooks$State", "wealth", "(I)I"⟩, prog_8_method_16_code, 2, (some (.int)), 0, 0, 606),
  (⟨"FairBooks$State", "richest", "()I"⟩, prog_8_method_17_code, 3, (some (.int)), 0, 0, 719),
  (⟨"FairBooks$State", "sumOfWorths", "()I"⟩, prog_8_method_18_code, 3, (some (.int)), 0, 0, 724),
  (⟨"FairBooks$State", "countLeaves", "()I"⟩, prog_8_method_19_code, 1, (some (.int)), 0, 0, 710),
  (⟨"FairBooks$State", "countEntries", "()I"⟩, prog_8_method_20_code, 3, (some (.int)), 0, 0, 714),
  (⟨"FairBooks$State", "countDedicated", "()I"⟩, prog_8_method_21_code, 3, (some (.int)), 0, 0, 728),
  (⟨"FairBooks$State", "countEntriesOf", "(I)I"⟩, prog_8_method_22_code, 4, (some (.int)), 0, 0, 634),
  (⟨"FairBooks$State", "ownersOf", "(I)I"⟩, prog_8_method_23_code, 4, (some (.int)), 0, 0, 642),
  (⟨"FairBooks$BestTrade", "<init>", "()V"⟩, prog_3_method_1_code, 1, none, 0, 0, 256),
  (⟨"FairBooks$BestTrade", "search", "(LFairBooks$State;ILFairBooks$Bench;)V"⟩, prog_3_method_2_code, 7, none, 0, 0, 675),
  (⟨"FairBooks$BestTrade", "searchBook", "(LFairBooks$Names;LFairBooks$Book;ILFairBooks$Book;LFairBooks$Bench;)V"⟩, prog_3_method_3_code, 8, none, 0, 0, 681),
  (⟨"FairBooks$History", "<init>", "()V"⟩, prog_5_method_1_code, 1, none, 125, 2595, 167),
  (⟨"FairBooks$History", "prepare", "(LFairBooks$State;)V"⟩, prog_5_method_2_code, 2, none, 0, 0, 297),
  (⟨"FairBooks$History", "keep", "(I)I"⟩, prog_5_method_3_code, 3, (some (.int)), 0, 0, 375),
  (⟨"FairBooks$History", "restore", "(LFairBooks$State;)V"⟩, prog_5_method_4_code, 3, none, 0, 0, 742),
  (⟨"FairBooks$Orders", "<init>", "()V"⟩, prog_7_method_1_code, 1, none, 2, 64, 195)]
def ab_yl4 : List ab_Y := [(⟨"FairBooks$Orders", "append", "(I)V"⟩, prog_7_method_2_code, 2, none, 0, 0, 751),
  (⟨"FairBooks$Orders", "run", "(LFairBooks$State;LFairBooks$State;LFairBooks$Bench;)V"⟩, prog_7_method_3_code, 6, none, 0, 0, 763),
  (⟨"FairBooks$Orders", "characterAt", "(I)I"⟩, prog_7_method_4_code, 2, (some (.int)), 0, 0, 772),
  (⟨"FairBooks$Orders", "readOrder", "()Z"⟩, prog_7_method_5_code, 3, (some (.boolean)), 0, 0, 768),
  (⟨"FairBooks$Orders", "skip", "(C)Z"⟩, prog_7_method_6_code, 2, (some (.boolean)), 0, 0, 779),
  (⟨"FairBooks$Orders", "readNumber", "(I)V"⟩, prog_7_method_7_code, 3, none, 0, 0, 786),
  (⟨"FairBooks$Orders", "number", "(I)I"⟩, prog_7_method_8_code, 2, (some (.int)), 0, 0, 794),
  (⟨"FairBooks$Orders", "doOrder", "(LFairBooks$State;LFairBooks$Bench;)I"⟩, prog_7_method_9_code, 3, (some (.int)), 0, 0, 790),
  (⟨"FairBooks$Orders", "howManyNumbers", "(I)I"⟩, prog_7_method_10_code, 1, (some (.int)), 0, 0, 775),
  (⟨"FairBooks$Orders", "isDigit", "(I)Z"⟩, prog_7_method_11_code, 1, (some (.boolean)), 0, 0, 782),
  (⟨"FairBooks", "<init>", "()V"⟩, prog_1_method_1_code, 1, none, 191, 3955, 73),
  (⟨"FairBooks", "name", "(II)I"⟩, prog_1_method_2_code, 3, (some (.int)), 0, 0, 293),
  (⟨"FairBooks", "leaf", "(I)I"⟩, prog_1_method_3_code, 2, (some (.int)), 0, 0, 382),
  (⟨"FairBooks", "sign", "(III)I"⟩, prog_1_method_4_code, 4, (some (.int)), 0, 0, 397),
  (⟨"FairBooks", "over", "(II)I"⟩, prog_1_method_5_code, 3, (some (.int)), 0, 0, 458),
  (⟨"FairBooks", "dedicate", "(III)I"⟩, prog_1_method_6_code, 4, (some (.int)), 0, 0, 482),
  (⟨"FairBooks", "move", "(II)I"⟩, prog_1_method_7_code, 3, (some (.int)), 0, 0, 495),
  (⟨"FairBooks", "trade", "(III)I"⟩, prog_1_method_8_code, 4, (some (.int)), 0, 0, 522),
  (⟨"FairBooks", "tear", "(I)I"⟩, prog_1_method_9_code, 2, (some (.int)), 0, 0, 550),
  (⟨"FairBooks", "coins", "(II)I"⟩, prog_1_method_10_code, 3, (some (.int)), 0, 0, 559),
  (⟨"FairBooks", "pageOf", "(III)I"⟩, prog_1_method_11_code, 6, (some (.int)), 0, 0, 567),
  (⟨"FairBooks", "leafOf", "(II)I"⟩, prog_1_method_12_code, 5, (some (.int)), 0, 0, 583),
  (⟨"FairBooks", "at", "(II)I"⟩, prog_1_method_13_code, 4, (some (.int)), 0, 0, 589),
  (⟨"FairBooks", "collectorOf", "(II)I"⟩, prog_1_method_14_code, 4, (some (.int)), 0, 0, 596),
  (⟨"FairBooks", "nameOf", "(II)I"⟩, prog_1_method_15_code, 3, (some (.int)), 0, 0, 627),
  (⟨"FairBooks", "gain", "(IIII)I"⟩, prog_1_method_16_code, 8, (some (.int)), 0, 0, 646),
  (⟨"FairBooks", "fair", "(II)I"⟩, prog_1_method_17_code, 7, (some (.int)), 0, 0, 663),
  (⟨"FairBooks", "best", "(II)I"⟩, prog_1_method_18_code, 3, (some (.int)), 0, 0, 671),
  (⟨"FairBooks", "missing", "(II)I"⟩, prog_1_method_19_code, 3, (some (.int)), 0, 0, 690),
  (⟨"FairBooks", "mean", "(I)I"⟩, prog_1_method_20_code, 4, (some (.int)), 0, 0, 696),
  (⟨"FairBooks", "count", "(I)I"⟩, prog_1_method_21_code, 2, (some (.int)), 0, 0, 706),
  (⟨"FairBooks", "undo", "()I"⟩, prog_1_method_22_code, 1, (some (.int)), 0, 0, 738),
  (⟨"FairBooks", "type", "(I)I"⟩, prog_1_method_23_code, 2, (some (.int)), 0, 0, 746),
  (⟨"FairBooks", "clearText", "()I"⟩, prog_1_method_24_code, 2, (some (.int)), 0, 0, 755),
  (⟨"FairBooks", "fault", "(I)I"⟩, prog_1_method_25_code, 2, (some (.int)), 0, 0, 759),
  (⟨"FairBooks", "play", "()I"⟩, prog_1_method_26_code, 1, (some (.int)), 0, 0, 804),
  (⟨"FairBooks", "isCollector", "(I)Z"⟩, prog_1_method_27_code, 1, (some (.boolean)), 0, 0, 389),
  (⟨"FairBooks", "isTheme", "(I)Z"⟩, prog_1_method_28_code, 1, (some (.boolean)), 0, 0, 368),
  (⟨"FairBooks", "isSide", "(I)Z"⟩, prog_1_method_29_code, 1, (some (.boolean)), 0, 0, 412),
  (⟨"FairBooks", "arePaid", "(I)Z"⟩, prog_1_method_30_code, 1, (some (.boolean)), 0, 0, 529),
  (⟨"FairBooks", "bitsOf", "(F)I"⟩, prog_1_method_31_code, 4, (some (.int)), 0, 0, 700)]
def ab_yl : List ab_Y := ab_yl0 ++ ab_yl1 ++ ab_yl2 ++ ab_yl3 ++ ab_yl4
def ab_y (y : Nat) : ab_Y := ab_yl.getD y (⟨"", "", ""⟩, ⟨#[]⟩, 0, none, 0, 0, 0)
def ab_yn (y : Nat) : MethodName := (ab_y y).1
def ab_cod (y : Nat) : ByteArray := (ab_y y).2.1
def ab_ml (y : Nat) : Nat := (ab_y y).2.2.1
def ab_rt (y : Nat) : Option FieldType := (ab_y y).2.2.2.1
def ab_mc (y : Nat) : Nat := (ab_y y).2.2.2.2.1
def ab_ms (y : Nat) : Nat := (ab_y y).2.2.2.2.2.1
def ab_cp (y : Nat) : Nat := (ab_y y).2.2.2.2.2.2
theorem ab_t1 {w : Jvm.Cond} (h : w ∈ tables_1_1) : w ∈ lw_tbl := List.mem_append_right _ (show w ∈ tables_1 from (List.mem_append_left _ h))
theorem ab_t2 {w : Jvm.Cond} (h : w ∈ tables_1_2) : w ∈ lw_tbl := List.mem_append_right _ (show w ∈ tables_1 from (List.mem_append_right _ (List.mem_append_left _ h)))
theorem ab_t3 {w : Jvm.Cond} (h : w ∈ tables_1_3) : w ∈ lw_tbl := List.mem_append_right _ (show w ∈ tables_1 from (List.mem_append_right _ (List.mem_append_right _ (List.mem_append_left _ h))))
theorem ab_t4 {w : Jvm.Cond} (h : w ∈ tables_1_4) : w ∈ lw_tbl := List.mem_append_right _ (show w ∈ tables_1 from (List.mem_append_right _ (List.mem_append_right _ (List.mem_append_right _ (List.mem_append_left _ h)))))
theorem ab_t5 {w : Jvm.Cond} (h : w ∈ tables_1_5) : w ∈ lw_tbl := List.mem_append_right _ (show w ∈ tables_1 from (List.mem_append_right _ (List.mem_append_right _ (List.mem_append_right _ (List.mem_append_right _ h)))))
def ab_Tg : List Jvm.Cond := lw_tbl.filter goodWord
def ab_yP (q : ab_Y) : Prop := Jvm.Cond.code q.1 q.2.1 q.2.2.1 q.2.2.2.1 ∈ ab_Tg
theorem ab_cw0 : ab_yP (⟨"java/lang/Math", "max", "(II)I"⟩, prog_13_method_65_code, 2, (some (.int)), 0, 0, 666) := List.mem_filter.mpr ⟨ab_t3 (List.mem_of_getElem? (i := 130) rfl), rfl⟩
theorem ab_cw1 : ab_yP (⟨"java/lang/Math", "min", "(II)I"⟩, prog_13_method_69_code, 2, (some (.int)), 0, 0, 378) := List.mem_filter.mpr ⟨ab_t2 (List.mem_of_getElem? (i := 82) rfl), rfl⟩
theorem ab_cw2 : ab_yP (⟨"java/lang/Integer", "bitCount", "(I)I"⟩, prog_12_method_49_code, 1, (some (.int)), 0, 0, 451) := List.mem_filter.mpr ⟨ab_t2 (List.mem_of_getElem? (i := 155) rfl), rfl⟩
theorem ab_cw3 : ab_yP (⟨"java/lang/Float", "isNaN", "(F)Z"⟩, prog_11_method_6_code, 1, (some (.boolean)), 0, 0, 1146) := List.mem_filter.mpr ⟨ab_t5 (List.mem_of_getElem? (i := 130) rfl), rfl⟩
theorem ab_cw4 : ab_yP (⟨"java/lang/Float", "floatToIntBits", "(F)I"⟩, prog_11_method_24_code, 1, (some (.int)), 0, 0, 1143) := List.mem_filter.mpr ⟨ab_t5 (List.mem_of_getElem? (i := 127) rfl), rfl⟩
theorem ab_cw5 : ab_yP (⟨"FairBooksModel", "<init>", "()V"⟩, prog_10_method_1_code, 2, none, 7, 1588, 810) := List.mem_filter.mpr ⟨ab_t4 (List.mem_of_getElem? (i := 34) rfl), rfl⟩
theorem ab_cw6 : ab_yP (⟨"FairBooksModel", "in", "(III)Z"⟩, prog_10_method_2_code, 3, (some (.boolean)), 0, 0, 896) := List.mem_filter.mpr ⟨ab_t4 (List.mem_of_getElem? (i := 120) rfl), rfl⟩
theorem ab_cw7 : ab_yP (⟨"FairBooksModel", "lays", "([I[I)V"⟩, prog_10_method_3_code, 3, none, 0, 0, 1181) := List.mem_filter.mpr ⟨ab_t5 (List.mem_of_getElem? (i := 165) rfl), rfl⟩
theorem ab_cw8 : ab_yP (⟨"FairBooksModel", "records", "()V"⟩, prog_10_method_4_code, 2, none, 0, 0, 902) := List.mem_filter.mpr ⟨ab_t4 (List.mem_of_getElem? (i := 126) rfl), rfl⟩
theorem ab_cw9 : ab_yP (⟨"FairBooksModel", "undo", "()I"⟩, prog_10_method_5_code, 2, (some (.int)), 0, 0, 888) := List.mem_filter.mpr ⟨ab_t4 (List.mem_of_getElem? (i := 112) rfl), rfl⟩
theorem ab_cw10 : ab_yP (⟨"FairBooksModel", "isName", "(I)Z"⟩, prog_10_method_6_code, 2, (some (.boolean)), 0, 0, 939) := List.mem_filter.mpr ⟨ab_t4 (List.mem_of_getElem? (i := 163) rfl), rfl⟩
theorem ab_cw11 : ab_yP (⟨"FairBooksModel", "isCollector", "(I)Z"⟩, prog_10_method_7_code, 1, (some (.boolean)), 0, 0, 909) := List.mem_filter.mpr ⟨ab_t4 (List.mem_of_getElem? (i := 133) rfl), rfl⟩
theorem ab_cw12 : ab_yP (⟨"FairBooksModel", "isSide", "(I)Z"⟩, prog_10_method_8_code, 1, (some (.boolean)), 0, 0, 935) := List.mem_filter.mpr ⟨ab_t4 (List.mem_of_getElem? (i := 159) rfl), rfl⟩
theorem ab_cw13 : ab_yP (⟨"FairBooksModel", "fameOf", "(I)I"⟩, prog_10_method_9_code, 2, (some (.int)), 0, 0, 983) := List.mem_filter.mpr ⟨ab_t4 (List.mem_of_getElem? (i := 207) rfl), rfl⟩
theorem ab_cw14 : ab_yP (⟨"FairBooksModel", "themeOf", "(I)I"⟩, prog_10_method_10_code, 2, (some (.int)), 0, 0, 995) := List.mem_filter.mpr ⟨ab_t4 (List.mem_of_getElem? (i := 219) rfl), rfl⟩
theorem ab_cw15 : ab_yP (⟨"FairBooksModel", "leavesOf", "(I)I"⟩, prog_10_method_11_code, 2, (some (.int)), 0, 0, 913) := List.mem_filter.mpr ⟨ab_t4 (List.mem_of_getElem? (i := 137) rfl), rfl⟩
theorem ab_cw16 : ab_yP (⟨"FairBooksModel", "placed", "(II)I"⟩, prog_10_method_12_code, 2, (some (.int)), 0, 0, 916) := List.mem_filter.mpr ⟨ab_t4 (List.mem_of_getElem? (i := 140) rfl), rfl⟩
theorem ab_cw17 : ab_yP (⟨"FairBooksModel", "find", "(I)I"⟩, prog_10_method_13_code, 5, (some (.int)), 0, 0, 932) := List.mem_filter.mpr ⟨ab_t4 (List.mem_of_getElem? (i := 156) rfl), rfl⟩
theorem ab_cw18 : ab_yP (⟨"FairBooksModel", "isLeaf", "(I)Z"⟩, prog_10_method_14_code, 2, (some (.boolean)), 0, 0, 928) := List.mem_filter.mpr ⟨ab_t4 (List.mem_of_getElem? (i := 152) rfl), rfl⟩
theorem ab_cw19 : ab_yP (⟨"FairBooksModel", "ownerOf", "(I)I"⟩, prog_10_method_15_code, 2, (some (.int)), 0, 0, 943) := List.mem_filter.mpr ⟨ab_t4 (List.mem_of_getElem? (i := 167) rfl), rfl⟩
theorem ab_cw20 : ab_yP (⟨"FairBooksModel", "placeOf", "(I)I"⟩, prog_10_method_16_code, 2, (some (.int)), 0, 0, 947) := List.mem_filter.mpr ⟨ab_t4 (List.mem_of_getElem? (i := 171) rfl), rfl⟩
theorem ab_cw21 : ab_yP (⟨"FairBooksModel", "firstOf", "(II)I"⟩, prog_10_method_17_code, 4, (some (.int)), 0, 0, 1006) := List.mem_filter.mpr ⟨ab_t4 (List.mem_of_getElem? (i := 230) rfl), rfl⟩
theorem ab_cw22 : ab_yP (⟨"FairBooksModel", "sizeOf", "(II)I"⟩, prog_10_method_18_code, 4, (some (.int)), 0, 0, 1010) := List.mem_filter.mpr ⟨ab_t4 (List.mem_of_getElem? (i := 234) rfl), rfl⟩
theorem ab_cw23 : ab_yP (⟨"FairBooksModel", "entryAt", "(III)I"⟩, prog_10_method_19_code, 5, (some (.int)), 0, 0, 951) := List.mem_filter.mpr ⟨ab_t4 (List.mem_of_getElem? (i := 175) rfl), rfl⟩
theorem ab_cw24 : ab_yP (⟨"FairBooksModel", "valueFor", "(IIZI)I"⟩, prog_10_method_20_code, 6, (some (.int)), 0, 0, 979) := List.mem_filter.mpr ⟨ab_t4 (List.mem_of_getElem? (i := 203) rfl), rfl⟩
theorem ab_cw25 : ab_yP (⟨"FairBooksModel", "lists", "(III)V"⟩, prog_10_method_21_code, 5, none, 0, 0, 963) := List.mem_filter.mpr ⟨ab_t4 (List.mem_of_getElem? (i := 187) rfl), rfl⟩
theorem ab_cw26 : ab_yP (⟨"FairBooksModel", "listsBook", "(I)V"⟩, prog_10_method_22_code, 2, none, 0, 0, 959) := List.mem_filter.mpr ⟨ab_t4 (List.mem_of_getElem? (i := 183) rfl), rfl⟩
theorem ab_cw27 : ab_yP (⟨"FairBooksModel", "listsTraded", "(IIII)V"⟩, prog_10_method_23_code, 5, none, 0, 0, 1116) := List.mem_filter.mpr ⟨ab_t5 (List.mem_of_getElem? (i := 100) rfl), rfl⟩
theorem ab_cw28 : ab_yP (⟨"FairBooksModel", "counts", "(IZI)V"⟩, prog_10_method_24_code, 6, none, 0, 0, 975) := List.mem_filter.mpr ⟨ab_t4 (List.mem_of_getElem? (i := 199) rfl), rfl⟩
theorem ab_cw29 : ab_yP (⟨"FairBooksModel", "goesThrough", "(I)V"⟩, prog_10_method_25_code, 3, none, 0, 0, 971) := List.mem_filter.mpr ⟨ab_t4 (List.mem_of_getElem? (i := 195) rfl), rfl⟩
theorem ab_cw30 : ab_yP (⟨"FairBooksModel", "namesOf", "(I)I"⟩, prog_10_method_26_code, 4, (some (.int)), 0, 0, 991) := List.mem_filter.mpr ⟨ab_t4 (List.mem_of_getElem? (i := 215) rfl), rfl⟩
theorem ab_cw31 : ab_yP (⟨"FairBooksModel", "ones", "(I)I"⟩, prog_10_method_27_code, 3, (some (.int)), 0, 0, 998) := List.mem_filter.mpr ⟨ab_t4 (List.mem_of_getElem? (i := 222) rfl), rfl⟩
theorem ab_cw32 : ab_yP (⟨"FairBooksModel", "isWhole", "(I)Z"⟩, prog_10_method_28_code, 3, (some (.boolean)), 0, 0, 987) := List.mem_filter.mpr ⟨ab_t4 (List.mem_of_getElem? (i := 211) rfl), rfl⟩
theorem ab_cw33 : ab_yP (⟨"FairBooksModel", "worthListed", "(I)I"⟩, prog_10_method_29_code, 4, (some (.int)), 0, 0, 967) := List.mem_filter.mpr ⟨ab_t4 (List.mem_of_getElem? (i := 191) rfl), rfl⟩
theorem ab_cw34 : ab_yP (⟨"FairBooksModel", "worthOf", "(I)I"⟩, prog_10_method_30_code, 2, (some (.int)), 0, 0, 955) := List.mem_filter.mpr ⟨ab_t4 (List.mem_of_getElem? (i := 179) rfl), rfl⟩
theorem ab_cw35 : ab_yP (⟨"FairBooksModel", "wealthOf", "(I)I"⟩, prog_10_method_31_code, 2, (some (.int)), 0, 0, 1075) := List.mem_filter.mpr ⟨ab_t5 (List.mem_of_getElem? (i := 59) rfl), rfl⟩
theorem ab_cw36 : ab_yP (⟨"FairBooksModel", "name", "(II)I"⟩, prog_10_method_32_code, 4, (some (.int)), 0, 0, 893) := List.mem_filter.mpr ⟨ab_t4 (List.mem_of_getElem? (i := 117) rfl), rfl⟩
theorem ab_cw37 : ab_yP (⟨"FairBooksModel", "leaf", "(I)I"⟩, prog_10_method_33_code, 4, (some (.int)), 0, 0, 906) := List.mem_filter.mpr ⟨ab_t4 (List.mem_of_getElem? (i := 130) rfl), rfl⟩
theorem ab_cw38 : ab_yP (⟨"FairBooksModel", "signs", "(IIII)I"⟩, prog_10_method_34_code, 7, (some (.int)), 0, 0, 924) := List.mem_filter.mpr ⟨ab_t4 (List.mem_of_getElem? (i := 148) rfl), rfl⟩
theorem ab_cw39 : ab_yP (⟨"FairBooksModel", "sign", "(III)I"⟩, prog_10_method_35_code, 4, (some (.int)), 0, 0, 920) := List.mem_filter.mpr ⟨ab_t4 (List.mem_of_getElem? (i := 144) rfl), rfl⟩
theorem ab_cw40 : ab_yP (⟨"FairBooksModel", "over", "(II)I"⟩, prog_10_method_36_code, 5, (some (.int)), 0, 0, 1002) := List.mem_filter.mpr ⟨ab_t4 (List.mem_of_getElem? (i := 226) rfl), rfl⟩
theorem ab_yq0 : ∀ q ∈ ab_yl0, ab_yP q := (List.forall_mem_cons.mpr ⟨ab_cw0, (List.forall_mem_cons.mpr ⟨ab_cw1, (List.forall_mem_cons.mpr ⟨ab_cw2, (List.forall_mem_cons.mpr ⟨ab_cw3, (List.forall_mem_cons.mpr ⟨ab_cw4, (List.forall_mem_cons.mpr ⟨ab_cw5, (List.forall_mem_cons.mpr ⟨ab_cw6, (List.forall_mem_cons.mpr ⟨ab_cw7, (List.forall_mem_cons.mpr ⟨ab_cw8, (List.forall_mem_cons.mpr ⟨ab_cw9, (List.forall_mem_cons.mpr ⟨ab_cw10, (List.forall_mem_cons.mpr ⟨ab_cw11, (List.forall_mem_cons.mpr ⟨ab_cw12, (List.forall_mem_cons.mpr ⟨ab_cw13, (List.forall_mem_cons.mpr ⟨ab_cw14, (List.forall_mem_cons.mpr ⟨ab_cw15, (List.forall_mem_cons.mpr ⟨ab_cw16, (List.forall_mem_cons.mpr ⟨ab_cw17, (List.forall_mem_cons.mpr ⟨ab_cw18, (List.forall_mem_cons.mpr ⟨ab_cw19, (List.forall_mem_cons.mpr ⟨ab_cw20, (List.forall_mem_cons.mpr ⟨ab_cw21, (List.forall_mem_cons.mpr ⟨ab_cw22, (List.forall_mem_cons.mpr ⟨ab_cw23, (List.forall_mem_cons.mpr ⟨ab_cw24, (List.forall_mem_cons.mpr ⟨ab_cw25, (List.forall_mem_cons.mpr ⟨ab_cw26, (List.forall_mem_cons.mpr ⟨ab_cw27, (List.forall_mem_cons.mpr ⟨ab_cw28, (List.forall_mem_cons.mpr ⟨ab_cw29, (List.forall_mem_cons.mpr ⟨ab_cw30, (List.forall_mem_cons.mpr ⟨ab_cw31, (List.forall_mem_cons.mpr ⟨ab_cw32, (List.forall_mem_cons.mpr ⟨ab_cw33, (List.forall_mem_cons.mpr ⟨ab_cw34, (List.forall_mem_cons.mpr ⟨ab_cw35, (List.forall_mem_cons.mpr ⟨ab_cw36, (List.forall_mem_cons.mpr ⟨ab_cw37, (List.forall_mem_cons.mpr ⟨ab_cw38, (List.forall_mem_cons.mpr ⟨ab_cw39, (List.forall_mem_cons.mpr ⟨ab_cw40, (fun _ h => absurd h List.not_mem_nil)⟩)⟩)⟩)⟩)⟩)⟩)⟩)⟩)⟩)⟩)⟩)⟩)⟩)⟩)⟩)⟩)⟩)⟩)⟩)⟩)⟩)⟩)⟩)⟩)⟩)⟩)⟩)⟩)⟩)⟩)⟩)⟩)⟩)⟩)⟩)⟩)⟩)⟩)⟩)⟩)⟩)
theorem ab_cw41 : ab_yP (⟨"FairBooksModel", "dedicate", "(III)I"⟩, prog_10_method_37_code, 6, (some (.int)), 0, 0, 1014) := List.mem_filter.mpr ⟨ab_t4 (List.mem_of_getElem? (i := 238) rfl), rfl⟩
theorem ab_cw42 : ab_yP (⟨"FairBooksModel", "laysOld", "(II)V"⟩, prog_10_method_38_code, 4, none, 0, 0, 1022) := List.mem_filter.mpr ⟨ab_t5 (List.mem_of_getElem? (i := 6) rfl), rfl⟩
theorem ab_cw43 : ab_yP (⟨"FairBooksModel", "laysLeaves", "(IIIII)I"⟩, prog_10_method_39_code, 7, (some (.int)), 0, 0, 1026) := List.mem_filter.mpr ⟨ab_t5 (List.mem_of_getElem? (i := 10) rfl), rfl⟩
theorem ab_cw44 : ab_yP (⟨"FairBooksModel", "move", "(II)I"⟩, prog_10_method_40_code, 10, (some (.int)), 0, 0, 1018) := List.mem_filter.mpr ⟨ab_t5 (List.mem_of_getElem? (i := 2) rfl), rfl⟩
theorem ab_cw45 : ab_yP (⟨"FairBooksModel", "trades", "(IIII)V"⟩, prog_10_method_41_code, 10, none, 0, 0, 1038) := List.mem_filter.mpr ⟨ab_t5 (List.mem_of_getElem? (i := 22) rfl), rfl⟩
theorem ab_cw46 : ab_yP (⟨"FairBooksModel", "fits", "(IIII)Z"⟩, prog_10_method_42_code, 6, (some (.boolean)), 0, 0, 1034) := List.mem_filter.mpr ⟨ab_t5 (List.mem_of_getElem? (i := 18) rfl), rfl⟩
theorem ab_cw47 : ab_yP (⟨"FairBooksModel", "trade", "(III)I"⟩, prog_10_method_43_code, 9, (some (.int)), 0, 0, 1030) := List.mem_filter.mpr ⟨ab_t5 (List.mem_of_getElem? (i := 14) rfl), rfl⟩
theorem ab_cw48 : ab_yP (⟨"FairBooksModel", "tear", "(I)I"⟩, prog_10_method_44_code, 5, (some (.int)), 0, 0, 1042) := List.mem_filter.mpr ⟨ab_t5 (List.mem_of_getElem? (i := 26) rfl), rfl⟩
theorem ab_cw49 : ab_yP (⟨"FairBooksModel", "coins", "(II)I"⟩, prog_10_method_45_code, 4, (some (.int)), 0, 0, 1046) := List.mem_filter.mpr ⟨ab_t5 (List.mem_of_getElem? (i := 30) rfl), rfl⟩
theorem ab_cw50 : ab_yP (⟨"FairBooksModel", "countedAt", "(II)I"⟩, prog_10_method_46_code, 7, (some (.int)), 0, 0, 1055) := List.mem_filter.mpr ⟨ab_t5 (List.mem_of_getElem? (i := 39) rfl), rfl⟩
theorem ab_cw51 : ab_yP (⟨"FairBooksModel", "pageOf", "(III)I"⟩, prog_10_method_47_code, 7, (some (.int)), 0, 0, 1050) := List.mem_filter.mpr ⟨ab_t5 (List.mem_of_getElem? (i := 34) rfl), rfl⟩
theorem ab_cw52 : ab_yP (⟨"FairBooksModel", "leafOf", "(II)I"⟩, prog_10_method_48_code, 5, (some (.int)), 0, 0, 1059) := List.mem_filter.mpr ⟨ab_t5 (List.mem_of_getElem? (i := 43) rfl), rfl⟩
theorem ab_cw53 : ab_yP (⟨"FairBooksModel", "at", "(II)I"⟩, prog_10_method_49_code, 3, (some (.int)), 0, 0, 1063) := List.mem_filter.mpr ⟨ab_t5 (List.mem_of_getElem? (i := 47) rfl), rfl⟩
theorem ab_cw54 : ab_yP (⟨"FairBooksModel", "bundlesOf", "(I)I"⟩, prog_10_method_50_code, 4, (some (.int)), 0, 0, 1087) := List.mem_filter.mpr ⟨ab_t5 (List.mem_of_getElem? (i := 71) rfl), rfl⟩
theorem ab_cw55 : ab_yP (⟨"FairBooksModel", "entriesIn", "(III)I"⟩, prog_10_method_51_code, 8, (some (.int)), 0, 0, 1071) := List.mem_filter.mpr ⟨ab_t5 (List.mem_of_getElem? (i := 55) rfl), rfl⟩
theorem ab_cw56 : ab_yP (⟨"FairBooksModel", "entriesInAll", "(II)I"⟩, prog_10_method_52_code, 5, (some (.int)), 0, 0, 1095) := List.mem_filter.mpr ⟨ab_t5 (List.mem_of_getElem? (i := 79) rfl), rfl⟩
theorem ab_cw57 : ab_yP (⟨"FairBooksModel", "wholeThemes", "(I)I"⟩, prog_10_method_53_code, 4, (some (.int)), 0, 0, 1083) := List.mem_filter.mpr ⟨ab_t5 (List.mem_of_getElem? (i := 67) rfl), rfl⟩
theorem ab_cw58 : ab_yP (⟨"FairBooksModel", "namesIn", "(I)I"⟩, prog_10_method_54_code, 2, (some (.int)), 0, 0, 1079) := List.mem_filter.mpr ⟨ab_t5 (List.mem_of_getElem? (i := 63) rfl), rfl⟩
theorem ab_cw59 : ab_yP (⟨"FairBooksModel", "collectorOf", "(II)I"⟩, prog_10_method_55_code, 3, (some (.int)), 0, 0, 1067) := List.mem_filter.mpr ⟨ab_t5 (List.mem_of_getElem? (i := 51) rfl), rfl⟩
theorem ab_cw60 : ab_yP (⟨"FairBooksModel", "booksWith", "(I)I"⟩, prog_10_method_56_code, 4, (some (.int)), 0, 0, 1099) := List.mem_filter.mpr ⟨ab_t5 (List.mem_of_getElem? (i := 83) rfl), rfl⟩
theorem ab_cw61 : ab_yP (⟨"FairBooksModel", "nameOf", "(II)I"⟩, prog_10_method_57_code, 3, (some (.int)), 0, 0, 1091) := List.mem_filter.mpr ⟨ab_t5 (List.mem_of_getElem? (i := 75) rfl), rfl⟩
theorem ab_cw62 : ab_yP (⟨"FairBooksModel", "more", "(IIII)I"⟩, prog_10_method_58_code, 6, (some (.int)), 0, 0, 1112) := List.mem_filter.mpr ⟨ab_t5 (List.mem_of_getElem? (i := 96) rfl), rfl⟩
theorem ab_cw63 : ab_yP (⟨"FairBooksModel", "gainOf", "(II)I"⟩, prog_10_method_59_code, 5, (some (.int)), 0, 0, 1108) := List.mem_filter.mpr ⟨ab_t5 (List.mem_of_getElem? (i := 92) rfl), rfl⟩
theorem ab_cw64 : ab_yP (⟨"FairBooksModel", "gain", "(IIII)I"⟩, prog_10_method_60_code, 5, (some (.int)), 0, 0, 1103) := List.mem_filter.mpr ⟨ab_t5 (List.mem_of_getElem? (i := 87) rfl), rfl⟩
theorem ab_cw65 : ab_yP (⟨"FairBooksModel", "fair", "(II)I"⟩, prog_10_method_61_code, 4, (some (.int)), 0, 0, 1120) := List.mem_filter.mpr ⟨ab_t5 (List.mem_of_getElem? (i := 104) rfl), rfl⟩
theorem ab_cw66 : ab_yP (⟨"FairBooksModel", "tries", "(IIII)V"⟩, prog_10_method_62_code, 6, none, 0, 0, 1132) := List.mem_filter.mpr ⟨ab_t5 (List.mem_of_getElem? (i := 116) rfl), rfl⟩
theorem ab_cw67 : ab_yP (⟨"FairBooksModel", "findsBest", "(I)V"⟩, prog_10_method_63_code, 5, none, 0, 0, 1128) := List.mem_filter.mpr ⟨ab_t5 (List.mem_of_getElem? (i := 112) rfl), rfl⟩
theorem ab_cw68 : ab_yP (⟨"FairBooksModel", "best", "(II)I"⟩, prog_10_method_64_code, 3, (some (.int)), 0, 0, 1124) := List.mem_filter.mpr ⟨ab_t5 (List.mem_of_getElem? (i := 108) rfl), rfl⟩
theorem ab_cw69 : ab_yP (⟨"FairBooksModel", "missing", "(II)I"⟩, prog_10_method_65_code, 3, (some (.int)), 0, 0, 1136) := List.mem_filter.mpr ⟨ab_t5 (List.mem_of_getElem? (i := 120) rfl), rfl⟩
theorem ab_cw70 : ab_yP (⟨"FairBooksModel", "mean", "(I)I"⟩, prog_10_method_66_code, 2, (some (.int)), 0, 0, 1140) := List.mem_filter.mpr ⟨ab_t5 (List.mem_of_getElem? (i := 124) rfl), rfl⟩
theorem ab_cw71 : ab_yP (⟨"FairBooksModel", "leaves", "()I"⟩, prog_10_method_67_code, 3, (some (.int)), 0, 0, 1158) := List.mem_filter.mpr ⟨ab_t5 (List.mem_of_getElem? (i := 142) rfl), rfl⟩
theorem ab_cw72 : ab_yP (⟨"FairBooksModel", "wealthiest", "()I"⟩, prog_10_method_68_code, 3, (some (.int)), 0, 0, 1162) := List.mem_filter.mpr ⟨ab_t5 (List.mem_of_getElem? (i := 146) rfl), rfl⟩
theorem ab_cw73 : ab_yP (⟨"FairBooksModel", "allWorths", "()I"⟩, prog_10_method_69_code, 3, (some (.int)), 0, 0, 1166) := List.mem_filter.mpr ⟨ab_t5 (List.mem_of_getElem? (i := 150) rfl), rfl⟩
theorem ab_cw74 : ab_yP (⟨"FairBooksModel", "count", "(I)I"⟩, prog_10_method_70_code, 2, (some (.int)), 0, 0, 1154) := List.mem_filter.mpr ⟨ab_t5 (List.mem_of_getElem? (i := 138) rfl), rfl⟩
theorem ab_cw75 : ab_yP (⟨"FairBooksModel", "type", "(I)I"⟩, prog_10_method_71_code, 2, (some (.int)), 0, 0, 1170) := List.mem_filter.mpr ⟨ab_t5 (List.mem_of_getElem? (i := 154) rfl), rfl⟩
theorem ab_cw76 : ab_yP (⟨"FairBooksModel", "clearText", "()I"⟩, prog_10_method_72_code, 2, (some (.int)), 0, 0, 1174) := List.mem_filter.mpr ⟨ab_t5 (List.mem_of_getElem? (i := 158) rfl), rfl⟩
theorem ab_cw77 : ab_yP (⟨"FairBooksModel", "sees", "(II)Z"⟩, prog_10_method_73_code, 3, (some (.boolean)), 0, 0, 1193) := List.mem_filter.mpr ⟨ab_t5 (List.mem_of_getElem? (i := 177) rfl), rfl⟩
theorem ab_cw78 : ab_yP (⟨"FairBooksModel", "takes", "(I)Z"⟩, prog_10_method_74_code, 3, (some (.boolean)), 0, 0, 1204) := List.mem_filter.mpr ⟨ab_t5 (List.mem_of_getElem? (i := 188) rfl), rfl⟩
theorem ab_cw79 : ab_yP (⟨"FairBooksModel", "number", "(I)Z"⟩, prog_10_method_75_code, 3, (some (.boolean)), 0, 0, 1200) := List.mem_filter.mpr ⟨ab_t5 (List.mem_of_getElem? (i := 184) rfl), rfl⟩
theorem ab_cw80 : ab_yP (⟨"FairBooksModel", "numbersOf", "(I)I"⟩, prog_10_method_76_code, 1, (some (.int)), 0, 0, 1196) := List.mem_filter.mpr ⟨ab_t5 (List.mem_of_getElem? (i := 180) rfl), rfl⟩
theorem ab_cw81 : ab_yP (⟨"FairBooksModel", "reads", "()Z"⟩, prog_10_method_77_code, 4, (some (.boolean)), 0, 0, 1189) := List.mem_filter.mpr ⟨ab_t5 (List.mem_of_getElem? (i := 173) rfl), rfl⟩
theorem ab_yq1 : ∀ q ∈ ab_yl1, ab_yP q := (List.forall_mem_cons.mpr ⟨ab_cw41, (List.forall_mem_cons.mpr ⟨ab_cw42, (List.forall_mem_cons.mpr ⟨ab_cw43, (List.forall_mem_cons.mpr ⟨ab_cw44, (List.forall_mem_cons.mpr ⟨ab_cw45, (List.forall_mem_cons.mpr ⟨ab_cw46, (List.forall_mem_cons.mpr ⟨ab_cw47, (List.forall_mem_cons.mpr ⟨ab_cw48, (List.forall_mem_cons.mpr ⟨ab_cw49, (List.forall_mem_cons.mpr ⟨ab_cw50, (List.forall_mem_cons.mpr ⟨ab_cw51, (List.forall_mem_cons.mpr ⟨ab_cw52, (List.forall_mem_cons.mpr ⟨ab_cw53, (List.forall_mem_cons.mpr ⟨ab_cw54, (List.forall_mem_cons.mpr ⟨ab_cw55, (List.forall_mem_cons.mpr ⟨ab_cw56, (List.forall_mem_cons.mpr ⟨ab_cw57, (List.forall_mem_cons.mpr ⟨ab_cw58, (List.forall_mem_cons.mpr ⟨ab_cw59, (List.forall_mem_cons.mpr ⟨ab_cw60, (List.forall_mem_cons.mpr ⟨ab_cw61, (List.forall_mem_cons.mpr ⟨ab_cw62, (List.forall_mem_cons.mpr ⟨ab_cw63, (List.forall_mem_cons.mpr ⟨ab_cw64, (List.forall_mem_cons.mpr ⟨ab_cw65, (List.forall_mem_cons.mpr ⟨ab_cw66, (List.forall_mem_cons.mpr ⟨ab_cw67, (List.forall_mem_cons.mpr ⟨ab_cw68, (List.forall_mem_cons.mpr ⟨ab_cw69, (List.forall_mem_cons.mpr ⟨ab_cw70, (List.forall_mem_cons.mpr ⟨ab_cw71, (List.forall_mem_cons.mpr ⟨ab_cw72, (List.forall_mem_cons.mpr ⟨ab_cw73, (List.forall_mem_cons.mpr ⟨ab_cw74, (List.forall_mem_cons.mpr ⟨ab_cw75, (List.forall_mem_cons.mpr ⟨ab_cw76, (List.forall_mem_cons.mpr ⟨ab_cw77, (List.forall_mem_cons.mpr ⟨ab_cw78, (List.forall_mem_cons.mpr ⟨ab_cw79, (List.forall_mem_cons.mpr ⟨ab_cw80, (List.forall_mem_cons.mpr ⟨ab_cw81, (fun _ h => absurd h List.not_mem_nil)⟩)⟩)⟩)⟩)⟩)⟩)⟩)⟩)⟩)⟩)⟩)⟩)⟩)⟩)⟩)⟩)⟩)⟩)⟩)⟩)⟩)⟩)⟩)⟩)⟩)⟩)⟩)⟩)⟩)⟩)⟩)⟩)⟩)⟩)⟩)⟩)⟩)⟩)⟩)⟩)⟩)
theorem ab_cw82 : ab_yP (⟨"FairBooksModel", "calls", "()I"⟩, prog_10_method_78_code, 1, (some (.int)), 0, 0, 1208) := List.mem_filter.mpr ⟨ab_t5 (List.mem_of_getElem? (i := 192) rfl), rfl⟩
theorem ab_cw83 : ab_yP (⟨"FairBooksModel", "plays", "()Z"⟩, prog_10_method_79_code, 4, (some (.boolean)), 0, 0, 1185) := List.mem_filter.mpr ⟨ab_t5 (List.mem_of_getElem? (i := 169) rfl), rfl⟩
theorem ab_cw84 : ab_yP (⟨"FairBooksModel", "fault", "(I)I"⟩, prog_10_method_80_code, 3, (some (.int)), 0, 0, 1178) := List.mem_filter.mpr ⟨ab_t5 (List.mem_of_getElem? (i := 162) rfl), rfl⟩
theorem ab_cw85 : ab_yP (⟨"FairBooksModel", "play", "()I"⟩, prog_10_method_81_code, 2, (some (.int)), 0, 0, 1216) := List.mem_filter.mpr ⟨ab_t5 (List.mem_of_getElem? (i := 200) rfl), rfl⟩
theorem ab_cw86 : ab_yP (⟨"FairBooks$Names", "<init>", "()V"⟩, prog_6_method_1_code, 1, none, 2, 32, 87) := List.mem_filter.mpr ⟨ab_t1 (List.mem_of_getElem? (i := 31) rfl), rfl⟩
theorem ab_cw87 : ab_yP (⟨"FairBooks$Names", "has", "(I)Z"⟩, prog_6_method_2_code, 2, (some (.boolean)), 0, 0, 416) := List.mem_filter.mpr ⟨ab_t2 (List.mem_of_getElem? (i := 120) rfl), rfl⟩
theorem ab_cw88 : ab_yP (⟨"FairBooks$Names", "fameOf", "(I)I"⟩, prog_6_method_3_code, 2, (some (.int)), 0, 0, 309) := List.mem_filter.mpr ⟨ab_t2 (List.mem_of_getElem? (i := 13) rfl), rfl⟩
theorem ab_cw89 : ab_yP (⟨"FairBooks$Names", "themeOf", "(I)I"⟩, prog_6_method_4_code, 2, (some (.int)), 0, 0, 313) := List.mem_filter.mpr ⟨ab_t2 (List.mem_of_getElem? (i := 17) rfl), rfl⟩
theorem ab_cw90 : ab_yP (⟨"FairBooks$Names", "setOf", "(I)I"⟩, prog_6_method_5_code, 4, (some (.int)), 0, 0, 448) := List.mem_filter.mpr ⟨ab_t2 (List.mem_of_getElem? (i := 152) rfl), rfl⟩
theorem ab_cw91 : ab_yP (⟨"FairBooks$Names", "add", "(II)V"⟩, prog_6_method_6_code, 3, none, 0, 0, 317) := List.mem_filter.mpr ⟨ab_t2 (List.mem_of_getElem? (i := 21) rfl), rfl⟩
theorem ab_cw92 : ab_yP (⟨"FairBooks$Names", "copyFrom", "(LFairBooks$Names;)V"⟩, prog_6_method_7_code, 3, none, 0, 0, 305) := List.mem_filter.mpr ⟨ab_t2 (List.mem_of_getElem? (i := 9) rfl), rfl⟩
theorem ab_cw93 : ab_yP (⟨"FairBooks$Book", "<init>", "(I)V"⟩, prog_4_method_1_code, 2, none, 4, 112, 106) := List.mem_filter.mpr ⟨ab_t1 (List.mem_of_getElem? (i := 50) rfl), rfl⟩
theorem ab_cw94 : ab_yP (⟨"FairBooks$Book", "numberAt", "(I)I"⟩, prog_4_method_2_code, 2, (some (.int)), 0, 0, 337) := List.mem_filter.mpr ⟨ab_t2 (List.mem_of_getElem? (i := 41) rfl), rfl⟩
theorem ab_cw95 : ab_yP (⟨"FairBooks$Book", "kindOf", "(I)I"⟩, prog_4_method_3_code, 2, (some (.int)), 0, 0, 341) := List.mem_filter.mpr ⟨ab_t2 (List.mem_of_getElem? (i := 45) rfl), rfl⟩
theorem ab_cw96 : ab_yP (⟨"FairBooks$Book", "nameOn", "(I)I"⟩, prog_4_method_4_code, 2, (some (.int)), 0, 0, 345) := List.mem_filter.mpr ⟨ab_t2 (List.mem_of_getElem? (i := 49) rfl), rfl⟩
theorem ab_cw97 : ab_yP (⟨"FairBooks$Book", "friendOn", "(I)I"⟩, prog_4_method_5_code, 2, (some (.int)), 0, 0, 349) := List.mem_filter.mpr ⟨ab_t2 (List.mem_of_getElem? (i := 53) rfl), rfl⟩
theorem ab_cw98 : ab_yP (⟨"FairBooks$Book", "find", "(I)I"⟩, prog_4_method_6_code, 3, (some (.int)), 0, 0, 409) := List.mem_filter.mpr ⟨ab_t2 (List.mem_of_getElem? (i := 113) rfl), rfl⟩
theorem ab_cw99 : ab_yP (⟨"FairBooks$Book", "startsEntry", "(I)Z"⟩, prog_4_method_7_code, 2, (some (.boolean)), 0, 0, 431) := List.mem_filter.mpr ⟨ab_t2 (List.mem_of_getElem? (i := 135) rfl), rfl⟩
theorem ab_cw100 : ab_yP (⟨"FairBooks$Book", "countEntries", "()I"⟩, prog_4_method_8_code, 3, (some (.int)), 0, 0, 601) := List.mem_filter.mpr ⟨ab_t3 (List.mem_of_getElem? (i := 65) rfl), rfl⟩
theorem ab_cw101 : ab_yP (⟨"FairBooks$Book", "countEntriesOf", "(I)I"⟩, prog_4_method_9_code, 4, (some (.int)), 0, 0, 638) := List.mem_filter.mpr ⟨ab_t3 (List.mem_of_getElem? (i := 102) rfl), rfl⟩
theorem ab_cw102 : ab_yP (⟨"FairBooks$Book", "countDedicatedTo", "(I)I"⟩, prog_4_method_10_code, 4, (some (.int)), 0, 0, 623) := List.mem_filter.mpr ⟨ab_t3 (List.mem_of_getElem? (i := 87) rfl), rfl⟩
theorem ab_cw103 : ab_yP (⟨"FairBooks$Book", "countDedicated", "()I"⟩, prog_4_method_11_code, 1, (some (.int)), 0, 0, 732) := List.mem_filter.mpr ⟨ab_t3 (List.mem_of_getElem? (i := 196) rfl), rfl⟩
theorem ab_cw104 : ab_yP (⟨"FairBooks$Book", "nameSet", "()I"⟩, prog_4_method_12_code, 1, (some (.int)), 0, 0, 610) := List.mem_filter.mpr ⟨ab_t3 (List.mem_of_getElem? (i := 74) rfl), rfl⟩
theorem ab_cw105 : ab_yP (⟨"FairBooks$Book", "namesAhead", "(I)I"⟩, prog_4_method_13_code, 4, (some (.int)), 0, 0, 444) := List.mem_filter.mpr ⟨ab_t2 (List.mem_of_getElem? (i := 148) rfl), rfl⟩
theorem ab_cw106 : ab_yP (⟨"FairBooks$Book", "valueOn", "(ILFairBooks$Names;)I"⟩, prog_4_method_14_code, 4, (some (.int)), 0, 0, 579) := List.mem_filter.mpr ⟨ab_t3 (List.mem_of_getElem? (i := 43) rfl), rfl⟩
theorem ab_cw107 : ab_yP (⟨"FairBooks$Book", "valueBehind", "(IILFairBooks$Names;)I"⟩, prog_4_method_15_code, 7, (some (.int)), 0, 0, 435) := List.mem_filter.mpr ⟨ab_t2 (List.mem_of_getElem? (i := 139) rfl), rfl⟩
theorem ab_cw108 : ab_yP (⟨"FairBooks$Book", "sumOfValues", "(LFairBooks$Names;)I"⟩, prog_4_method_16_code, 5, (some (.int)), 0, 0, 427) := List.mem_filter.mpr ⟨ab_t2 (List.mem_of_getElem? (i := 131) rfl), rfl⟩
theorem ab_cw109 : ab_yP (⟨"FairBooks$Book", "wholeThemes", "(LFairBooks$Names;)I"⟩, prog_4_method_17_code, 6, (some (.int)), 0, 0, 440) := List.mem_filter.mpr ⟨ab_t2 (List.mem_of_getElem? (i := 144) rfl), rfl⟩
theorem ab_cw110 : ab_yP (⟨"FairBooks$Book", "worth", "(LFairBooks$Names;)I"⟩, prog_4_method_18_code, 5, (some (.int)), 0, 0, 423) := List.mem_filter.mpr ⟨ab_t2 (List.mem_of_getElem? (i := 127) rfl), rfl⟩
theorem ab_cw111 : ab_yP (⟨"FairBooks$Book", "isJoined", "(I)Z"⟩, prog_4_method_19_code, 3, (some (.boolean)), 0, 0, 474) := List.mem_filter.mpr ⟨ab_t2 (List.mem_of_getElem? (i := 178) rfl), rfl⟩
theorem ab_cw112 : ab_yP (⟨"FairBooks$Book", "startsBundle", "(I)Z"⟩, prog_4_method_20_code, 2, (some (.boolean)), 0, 0, 619) := List.mem_filter.mpr ⟨ab_t3 (List.mem_of_getElem? (i := 83) rfl), rfl⟩
theorem ab_cw113 : ab_yP (⟨"FairBooks$Book", "bundleFirst", "(I)I"⟩, prog_4_method_21_code, 3, (some (.int)), 0, 0, 478) := List.mem_filter.mpr ⟨ab_t2 (List.mem_of_getElem? (i := 182) rfl), rfl⟩
theorem ab_cw114 : ab_yP (⟨"FairBooks$Book", "bundleEnd", "(I)I"⟩, prog_4_method_22_code, 3, (some (.int)), 0, 0, 470) := List.mem_filter.mpr ⟨ab_t2 (List.mem_of_getElem? (i := 174) rfl), rfl⟩
theorem ab_cw115 : ab_yP (⟨"FairBooks$Book", "bundleSize", "(I)I"⟩, prog_4_method_23_code, 2, (some (.int)), 0, 0, 466) := List.mem_filter.mpr ⟨ab_t2 (List.mem_of_getElem? (i := 170) rfl), rfl⟩
theorem ab_cw116 : ab_yP (⟨"FairBooks$Book", "countBundles", "()I"⟩, prog_4_method_24_code, 3, (some (.int)), 0, 0, 615) := List.mem_filter.mpr ⟨ab_t3 (List.mem_of_getElem? (i := 79) rfl), rfl⟩
theorem ab_cw117 : ab_yP (⟨"FairBooks$Book", "canShift", "(II)Z"⟩, prog_4_method_25_code, 5, (some (.boolean)), 0, 0, 503) := List.mem_filter.mpr ⟨ab_t2 (List.mem_of_getElem? (i := 207) rfl), rfl⟩
theorem ab_cw118 : ab_yP (⟨"FairBooks$Book", "setEntry", "(IIII)V"⟩, prog_4_method_26_code, 5, none, 0, 0, 353) := List.mem_filter.mpr ⟨ab_t2 (List.mem_of_getElem? (i := 57) rfl), rfl⟩
theorem ab_cw119 : ab_yP (⟨"FairBooks$Book", "setFriend", "(II)V"⟩, prog_4_method_27_code, 3, none, 0, 0, 491) := List.mem_filter.mpr ⟨ab_t2 (List.mem_of_getElem? (i := 195) rfl), rfl⟩
theorem ab_cw120 : ab_yP (⟨"FairBooks$Book", "addLeaf", "(I)V"⟩, prog_4_method_28_code, 2, none, 0, 0, 393) := List.mem_filter.mpr ⟨ab_t2 (List.mem_of_getElem? (i := 97) rfl), rfl⟩
theorem ab_cw121 : ab_yP (⟨"FairBooks$Book", "addLeaves", "(LFairBooks$Book;II)V"⟩, prog_4_method_29_code, 7, none, 0, 0, 333) := List.mem_filter.mpr ⟨ab_t2 (List.mem_of_getElem? (i := 37) rfl), rfl⟩
theorem ab_cw122 : ab_yP (⟨"FairBooks$Book", "clearFor", "(I)V"⟩, prog_4_method_30_code, 2, none, 0, 0, 329) := List.mem_filter.mpr ⟨ab_t2 (List.mem_of_getElem? (i := 33) rfl), rfl⟩
theorem ab_yq2 : ∀ q ∈ ab_yl2, ab_yP q := (List.forall_mem_cons.mpr ⟨ab_cw82, (List.forall_mem_cons.mpr ⟨ab_cw83, (List.forall_mem_cons.mpr ⟨ab_cw84, (List.forall_mem_cons.mpr ⟨ab_cw85, (List.forall_mem_cons.mpr ⟨ab_cw86, (List.forall_mem_cons.mpr ⟨ab_cw87, (List.forall_mem_cons.mpr ⟨ab_cw88, (List.forall_mem_cons.mpr ⟨ab_cw89, (List.forall_mem_cons.mpr ⟨ab_cw90, (List.forall_mem_cons.mpr ⟨ab_cw91, (List.forall_mem_cons.mpr ⟨ab_cw92, (List.forall_mem_cons.mpr ⟨ab_cw93, (List.forall_mem_cons.mpr ⟨ab_cw94, (List.forall_mem_cons.mpr ⟨ab_cw95, (List.forall_mem_cons.mpr ⟨ab_cw96, (List.forall_mem_cons.mpr ⟨ab_cw97, (List.forall_mem_cons.mpr ⟨ab_cw98, (List.forall_mem_cons.mpr ⟨ab_cw99, (List.forall_mem_cons.mpr ⟨ab_cw100, (List.forall_mem_cons.mpr ⟨ab_cw101, (List.forall_mem_cons.mpr ⟨ab_cw102, (List.forall_mem_cons.mpr ⟨ab_cw103, (List.forall_mem_cons.mpr ⟨ab_cw104, (List.forall_mem_cons.mpr ⟨ab_cw105, (List.forall_mem_cons.mpr ⟨ab_cw106, (List.forall_mem_cons.mpr ⟨ab_cw107, (List.forall_mem_cons.mpr ⟨ab_cw108, (List.forall_mem_cons.mpr ⟨ab_cw109, (List.forall_mem_cons.mpr ⟨ab_cw110, (List.forall_mem_cons.mpr ⟨ab_cw111, (List.forall_mem_cons.mpr ⟨ab_cw112, (List.forall_mem_cons.mpr ⟨ab_cw113, (List.forall_mem_cons.mpr ⟨ab_cw114, (List.forall_mem_cons.mpr ⟨ab_cw115, (List.forall_mem_cons.mpr ⟨ab_cw116, (List.forall_mem_cons.mpr ⟨ab_cw117, (List.forall_mem_cons.mpr ⟨ab_cw118, (List.forall_mem_cons.mpr ⟨ab_cw119, (List.forall_mem_cons.mpr ⟨ab_cw120, (List.forall_mem_cons.mpr ⟨ab_cw121, (List.forall_mem_cons.mpr ⟨ab_cw122, (fun _ h => absurd h List.not_mem_nil)⟩)⟩)⟩)⟩)⟩)⟩)⟩)⟩)⟩)⟩)⟩)⟩)⟩)⟩)⟩)⟩)⟩)⟩)⟩)⟩)⟩)⟩)⟩)⟩)⟩)⟩)⟩)⟩)⟩)⟩)⟩)⟩)⟩)⟩)⟩)⟩)⟩)⟩)⟩)⟩)⟩)
theorem ab_cw123 : ab_yP (⟨"FairBooks$Book", "copyFrom", "(LFairBooks$Book;)V"⟩, prog_4_method_31_code, 2, none, 0, 0, 325) := List.mem_filter.mpr ⟨ab_t2 (List.mem_of_getElem? (i := 29) rfl), rfl⟩
theorem ab_cw124 : ab_yP (⟨"FairBooks$Bench", "<init>", "()V"⟩, prog_2_method_1_code, 1, none, 10, 236, 231) := List.mem_filter.mpr ⟨ab_t1 (List.mem_of_getElem? (i := 175) rfl), rfl⟩
theorem ab_cw125 : ab_yP (⟨"FairBooks$Bench", "takeOut", "(LFairBooks$Book;I)V"⟩, prog_2_method_2_code, 3, none, 0, 0, 517) := List.mem_filter.mpr ⟨ab_t2 (List.mem_of_getElem? (i := 221) rfl), rfl⟩
theorem ab_cw126 : ab_yP (⟨"FairBooks$Bench", "shift", "(LFairBooks$Book;II)V"⟩, prog_2_method_3_code, 4, none, 0, 0, 509) := List.mem_filter.mpr ⟨ab_t2 (List.mem_of_getElem? (i := 213) rfl), rfl⟩
theorem ab_cw127 : ab_yP (⟨"FairBooks$Bench", "layOut", "(LFairBooks$Book;ILFairBooks$Book;I)V"⟩, prog_2_method_4_code, 5, none, 0, 0, 533) := List.mem_filter.mpr ⟨ab_t2 (List.mem_of_getElem? (i := 237) rfl), rfl⟩
theorem ab_cw128 : ab_yP (⟨"FairBooks$Bench", "layOutFor", "(LFairBooks$Book;LFairBooks$Book;ILFairBooks$Book;I)V"⟩, prog_2_method_5_code, 6, none, 0, 0, 537) := List.mem_filter.mpr ⟨ab_t3 (List.mem_of_getElem? (i := 1) rfl), rfl⟩
theorem ab_cw129 : ab_yP (⟨"FairBooks$Bench", "fits", "()Z"⟩, prog_2_method_6_code, 1, (some (.boolean)), 0, 0, 542) := List.mem_filter.mpr ⟨ab_t3 (List.mem_of_getElem? (i := 6) rfl), rfl⟩
theorem ab_cw130 : ab_yP (⟨"FairBooks$Bench", "gainOfOne", "(LFairBooks$Names;)I"⟩, prog_2_method_7_code, 2, (some (.int)), 0, 0, 653) := List.mem_filter.mpr ⟨ab_t3 (List.mem_of_getElem? (i := 117) rfl), rfl⟩
theorem ab_cw131 : ab_yP (⟨"FairBooks$Bench", "gainOfOther", "(LFairBooks$Names;)I"⟩, prog_2_method_8_code, 2, (some (.int)), 0, 0, 658) := List.mem_filter.mpr ⟨ab_t3 (List.mem_of_getElem? (i := 122) rfl), rfl⟩
theorem ab_cw132 : ab_yP (⟨"FairBooks$Bench", "settle", "()V"⟩, prog_2_method_9_code, 1, none, 0, 0, 546) := List.mem_filter.mpr ⟨ab_t3 (List.mem_of_getElem? (i := 10) rfl), rfl⟩
theorem ab_cw133 : ab_yP (⟨"FairBooks$State", "<init>", "()V"⟩, prog_8_method_1_code, 1, none, 24, 511, 81) := List.mem_filter.mpr ⟨ab_t1 (List.mem_of_getElem? (i := 25) rfl), rfl⟩
theorem ab_cw134 : ab_yP (⟨"FairBooks$State", "copyFrom", "(LFairBooks$State;)V"⟩, prog_8_method_2_code, 3, none, 0, 0, 301) := List.mem_filter.mpr ⟨ab_t2 (List.mem_of_getElem? (i := 5) rfl), rfl⟩
theorem ab_cw135 : ab_yP (⟨"FairBooks$State", "bookOf", "(I)LFairBooks$Book;"⟩, prog_8_method_3_code, 2, (some (.object "FairBooks$Book")), 0, 0, 321) := List.mem_filter.mpr ⟨ab_t2 (List.mem_of_getElem? (i := 25) rfl), rfl⟩
theorem ab_cw136 : ab_yP (⟨"FairBooks$State", "bookWith", "(I)LFairBooks$Book;"⟩, prog_8_method_4_code, 3, (some (.object "FairBooks$Book")), 0, 0, 405) := List.mem_filter.mpr ⟨ab_t2 (List.mem_of_getElem? (i := 109) rfl), rfl⟩
theorem ab_cw137 : ab_yP (⟨"FairBooks$State", "purseOf", "(I)I"⟩, prog_8_method_5_code, 2, (some (.int)), 0, 0, 357) := List.mem_filter.mpr ⟨ab_t2 (List.mem_of_getElem? (i := 61) rfl), rfl⟩
theorem ab_cw138 : ab_yP (⟨"FairBooks$State", "setPurse", "(II)V"⟩, prog_8_method_6_code, 3, none, 0, 0, 361) := List.mem_filter.mpr ⟨ab_t2 (List.mem_of_getElem? (i := 65) rfl), rfl⟩
theorem ab_cw139 : ab_yP (⟨"FairBooks$State", "addName", "(II)I"⟩, prog_8_method_7_code, 3, (some (.int)), 0, 0, 365) := List.mem_filter.mpr ⟨ab_t2 (List.mem_of_getElem? (i := 69) rfl), rfl⟩
theorem ab_cw140 : ab_yP (⟨"FairBooks$State", "addLeaf", "(I)I"⟩, prog_8_method_8_code, 3, (some (.int)), 0, 0, 386) := List.mem_filter.mpr ⟨ab_t2 (List.mem_of_getElem? (i := 90) rfl), rfl⟩
theorem ab_cw141 : ab_yP (⟨"FairBooks$State", "addEntry", "(IIII)I"⟩, prog_8_method_9_code, 7, (some (.int)), 0, 0, 401) := List.mem_filter.mpr ⟨ab_t2 (List.mem_of_getElem? (i := 105) rfl), rfl⟩
theorem ab_cw142 : ab_yP (⟨"FairBooks$State", "addWideEntry", "(II)I"⟩, prog_8_method_10_code, 6, (some (.int)), 0, 0, 462) := List.mem_filter.mpr ⟨ab_t2 (List.mem_of_getElem? (i := 166) rfl), rfl⟩
theorem ab_cw143 : ab_yP (⟨"FairBooks$State", "setFriend", "(III)I"⟩, prog_8_method_11_code, 7, (some (.int)), 0, 0, 486) := List.mem_filter.mpr ⟨ab_t2 (List.mem_of_getElem? (i := 190) rfl), rfl⟩
theorem ab_cw144 : ab_yP (⟨"FairBooks$State", "shiftBundle", "(IILFairBooks$Bench;)I"⟩, prog_8_method_12_code, 7, (some (.int)), 0, 0, 499) := List.mem_filter.mpr ⟨ab_t2 (List.mem_of_getElem? (i := 203) rfl), rfl⟩
theorem ab_cw145 : ab_yP (⟨"FairBooks$State", "exchange", "(IIILFairBooks$Bench;)I"⟩, prog_8_method_13_code, 9, (some (.int)), 0, 0, 526) := List.mem_filter.mpr ⟨ab_t2 (List.mem_of_getElem? (i := 230) rfl), rfl⟩
theorem ab_cw146 : ab_yP (⟨"FairBooks$State", "takeOut", "(ILFairBooks$Bench;)I"⟩, prog_8_method_14_code, 5, (some (.int)), 0, 0, 554) := List.mem_filter.mpr ⟨ab_t3 (List.mem_of_getElem? (i := 18) rfl), rfl⟩
theorem ab_cw147 : ab_yP (⟨"FairBooks$State", "fillPurse", "(II)I"⟩, prog_8_method_15_code, 4, (some (.int)), 0, 0, 563) := List.mem_filter.mpr ⟨ab_t3 (List.mem_of_getElem? (i := 27) rfl), rfl⟩
theorem ab_cw148 : ab_yP (⟨"FairBooks$State", "wealth", "(I)I"⟩, prog_8_method_16_code, 2, (some (.int)), 0, 0, 606) := List.mem_filter.mpr ⟨ab_t3 (List.mem_of_getElem? (i := 70) rfl), rfl⟩
theorem ab_cw149 : ab_yP (⟨"FairBooks$State", "richest", "()I"⟩, prog_8_method_17_code, 3, (some (.int)), 0, 0, 719) := List.mem_filter.mpr ⟨ab_t3 (List.mem_of_getElem? (i := 183) rfl), rfl⟩
theorem ab_cw150 : ab_yP (⟨"FairBooks$State", "sumOfWorths", "()I"⟩, prog_8_method_18_code, 3, (some (.int)), 0, 0, 724) := List.mem_filter.mpr ⟨ab_t3 (List.mem_of_getElem? (i := 188) rfl), rfl⟩
theorem ab_cw151 : ab_yP (⟨"FairBooks$State", "countLeaves", "()I"⟩, prog_8_method_19_code, 1, (some (.int)), 0, 0, 710) := List.mem_filter.mpr ⟨ab_t3 (List.mem_of_getElem? (i := 174) rfl), rfl⟩
theorem ab_cw152 : ab_yP (⟨"FairBooks$State", "countEntries", "()I"⟩, prog_8_method_20_code, 3, (some (.int)), 0, 0, 714) := List.mem_filter.mpr ⟨ab_t3 (List.mem_of_getElem? (i := 178) rfl), rfl⟩
theorem ab_cw153 : ab_yP (⟨"FairBooks$State", "countDedicated", "()I"⟩, prog_8_method_21_code, 3, (some (.int)), 0, 0, 728) := List.mem_filter.mpr ⟨ab_t3 (List.mem_of_getElem? (i := 192) rfl), rfl⟩
theorem ab_cw154 : ab_yP (⟨"FairBooks$State", "countEntriesOf", "(I)I"⟩, prog_8_method_22_code, 4, (some (.int)), 0, 0, 634) := List.mem_filter.mpr ⟨ab_t3 (List.mem_of_getElem? (i := 98) rfl), rfl⟩
theorem ab_cw155 : ab_yP (⟨"FairBooks$State", "ownersOf", "(I)I"⟩, prog_8_method_23_code, 4, (some (.int)), 0, 0, 642) := List.mem_filter.mpr ⟨ab_t3 (List.mem_of_getElem? (i := 106) rfl), rfl⟩
theorem ab_cw156 : ab_yP (⟨"FairBooks$BestTrade", "<init>", "()V"⟩, prog_3_method_1_code, 1, none, 0, 0, 256) := List.mem_filter.mpr ⟨ab_t1 (List.mem_of_getElem? (i := 200) rfl), rfl⟩
theorem ab_cw157 : ab_yP (⟨"FairBooks$BestTrade", "search", "(LFairBooks$State;ILFairBooks$Bench;)V"⟩, prog_3_method_2_code, 7, none, 0, 0, 675) := List.mem_filter.mpr ⟨ab_t3 (List.mem_of_getElem? (i := 139) rfl), rfl⟩
theorem ab_cw158 : ab_yP (⟨"FairBooks$BestTrade", "searchBook", "(LFairBooks$Names;LFairBooks$Book;ILFairBooks$Book;LFairBooks$Bench;)V"⟩, prog_3_method_3_code, 8, none, 0, 0, 681) := List.mem_filter.mpr ⟨ab_t3 (List.mem_of_getElem? (i := 145) rfl), rfl⟩
theorem ab_cw159 : ab_yP (⟨"FairBooks$History", "<init>", "()V"⟩, prog_5_method_1_code, 1, none, 125, 2595, 167) := List.mem_filter.mpr ⟨ab_t1 (List.mem_of_getElem? (i := 111) rfl), rfl⟩
theorem ab_cw160 : ab_yP (⟨"FairBooks$History", "prepare", "(LFairBooks$State;)V"⟩, prog_5_method_2_code, 2, none, 0, 0, 297) := List.mem_filter.mpr ⟨ab_t2 (List.mem_of_getElem? (i := 1) rfl), rfl⟩
theorem ab_cw161 : ab_yP (⟨"FairBooks$History", "keep", "(I)I"⟩, prog_5_method_3_code, 3, (some (.int)), 0, 0, 375) := List.mem_filter.mpr ⟨ab_t2 (List.mem_of_getElem? (i := 79) rfl), rfl⟩
theorem ab_cw162 : ab_yP (⟨"FairBooks$History", "restore", "(LFairBooks$State;)V"⟩, prog_5_method_4_code, 3, none, 0, 0, 742) := List.mem_filter.mpr ⟨ab_t3 (List.mem_of_getElem? (i := 206) rfl), rfl⟩
theorem ab_cw163 : ab_yP (⟨"FairBooks$Orders", "<init>", "()V"⟩, prog_7_method_1_code, 1, none, 2, 64, 195) := List.mem_filter.mpr ⟨ab_t1 (List.mem_of_getElem? (i := 139) rfl), rfl⟩
theorem ab_yq3 : ∀ q ∈ ab_yl3, ab_yP q := (List.forall_mem_cons.mpr ⟨ab_cw123, (List.forall_mem_cons.mpr ⟨ab_cw124, (List.forall_mem_cons.mpr ⟨ab_cw125, (List.forall_mem_cons.mpr ⟨ab_cw126, (List.forall_mem_cons.mpr ⟨ab_cw127, (List.forall_mem_cons.mpr ⟨ab_cw128, (List.forall_mem_cons.mpr ⟨ab_cw129, (List.forall_mem_cons.mpr ⟨ab_cw130, (List.forall_mem_cons.mpr ⟨ab_cw131, (List.forall_mem_cons.mpr ⟨ab_cw132, (List.forall_mem_cons.mpr ⟨ab_cw133, (List.forall_mem_cons.mpr ⟨ab_cw134, (List.forall_mem_cons.mpr ⟨ab_cw135, (List.forall_mem_cons.mpr ⟨ab_cw136, (List.forall_mem_cons.mpr ⟨ab_cw137, (List.forall_mem_cons.mpr ⟨ab_cw138, (List.forall_mem_cons.mpr ⟨ab_cw139, (List.forall_mem_cons.mpr ⟨ab_cw140, (List.forall_mem_cons.mpr ⟨ab_cw141, (List.forall_mem_cons.mpr ⟨ab_cw142, (List.forall_mem_cons.mpr ⟨ab_cw143, (List.forall_mem_cons.mpr ⟨ab_cw144, (List.forall_mem_cons.mpr ⟨ab_cw145, (List.forall_mem_cons.mpr ⟨ab_cw146, (List.forall_mem_cons.mpr ⟨ab_cw147, (List.forall_mem_cons.mpr ⟨ab_cw148, (List.forall_mem_cons.mpr ⟨ab_cw149, (List.forall_mem_cons.mpr ⟨ab_cw150, (List.forall_mem_cons.mpr ⟨ab_cw151, (List.forall_mem_cons.mpr ⟨ab_cw152, (List.forall_mem_cons.mpr ⟨ab_cw153, (List.forall_mem_cons.mpr ⟨ab_cw154, (List.forall_mem_cons.mpr ⟨ab_cw155, (List.forall_mem_cons.mpr ⟨ab_cw156, (List.forall_mem_cons.mpr ⟨ab_cw157, (List.forall_mem_cons.mpr ⟨ab_cw158, (List.forall_mem_cons.mpr ⟨ab_cw159, (List.forall_mem_cons.mpr ⟨ab_cw160, (List.forall_mem_cons.mpr ⟨ab_cw161, (List.forall_mem_cons.mpr ⟨ab_cw162, (List.forall_mem_cons.mpr ⟨ab_cw163, (fun _ h => absurd h List.not_mem_nil)⟩)⟩)⟩)⟩)⟩)⟩)⟩)⟩)⟩)⟩)⟩)⟩)⟩)⟩)⟩)⟩)⟩)⟩)⟩)⟩)⟩)⟩)⟩)⟩)⟩)⟩)⟩)⟩)⟩)⟩)⟩)⟩)⟩)⟩)⟩)⟩)⟩)⟩)⟩)⟩)⟩)
theorem ab_cw164 : ab_yP (⟨"FairBooks$Orders", "append", "(I)V"⟩, prog_7_method_2_code, 2, none, 0, 0, 751) := List.mem_filter.mpr ⟨ab_t3 (List.mem_of_getElem? (i := 215) rfl), rfl⟩
theorem ab_cw165 : ab_yP (⟨"FairBooks$Orders", "run", "(LFairBooks$State;LFairBooks$State;LFairBooks$Bench;)V"⟩, prog_7_method_3_code, 6, none, 0, 0, 763) := List.mem_filter.mpr ⟨ab_t3 (List.mem_of_getElem? (i := 227) rfl), rfl⟩
theorem ab_cw166 : ab_yP (⟨"FairBooks$Orders", "characterAt", "(I)I"⟩, prog_7_method_4_code, 2, (some (.int)), 0, 0, 772) := List.mem_filter.mpr ⟨ab_t3 (List.mem_of_getElem? (i := 236) rfl), rfl⟩
theorem ab_cw167 : ab_yP (⟨"FairBooks$Orders", "readOrder", "()Z"⟩, prog_7_method_5_code, 3, (some (.boolean)), 0, 0, 768) := List.mem_filter.mpr ⟨ab_t3 (List.mem_of_getElem? (i := 232) rfl), rfl⟩
theorem ab_cw168 : ab_yP (⟨"FairBooks$Orders", "skip", "(C)Z"⟩, prog_7_method_6_code, 2, (some (.boolean)), 0, 0, 779) := List.mem_filter.mpr ⟨ab_t4 (List.mem_of_getElem? (i := 3) rfl), rfl⟩
theorem ab_cw169 : ab_yP (⟨"FairBooks$Orders", "readNumber", "(I)V"⟩, prog_7_method_7_code, 3, none, 0, 0, 786) := List.mem_filter.mpr ⟨ab_t4 (List.mem_of_getElem? (i := 10) rfl), rfl⟩
theorem ab_cw170 : ab_yP (⟨"FairBooks$Orders", "number", "(I)I"⟩, prog_7_method_8_code, 2, (some (.int)), 0, 0, 794) := List.mem_filter.mpr ⟨ab_t4 (List.mem_of_getElem? (i := 18) rfl), rfl⟩
theorem ab_cw171 : ab_yP (⟨"FairBooks$Orders", "doOrder", "(LFairBooks$State;LFairBooks$Bench;)I"⟩, prog_7_method_9_code, 3, (some (.int)), 0, 0, 790) := List.mem_filter.mpr ⟨ab_t4 (List.mem_of_getElem? (i := 14) rfl), rfl⟩
theorem ab_cw172 : ab_yP (⟨"FairBooks$Orders", "howManyNumbers", "(I)I"⟩, prog_7_method_10_code, 1, (some (.int)), 0, 0, 775) := List.mem_filter.mpr ⟨ab_t3 (List.mem_of_getElem? (i := 239) rfl), rfl⟩
theorem ab_cw173 : ab_yP (⟨"FairBooks$Orders", "isDigit", "(I)Z"⟩, prog_7_method_11_code, 1, (some (.boolean)), 0, 0, 782) := List.mem_filter.mpr ⟨ab_t4 (List.mem_of_getElem? (i := 6) rfl), rfl⟩
theorem ab_cw174 : ab_yP (⟨"FairBooks", "<init>", "()V"⟩, prog_1_method_1_code, 1, none, 191, 3955, 73) := List.mem_filter.mpr ⟨ab_t1 (List.mem_of_getElem? (i := 17) rfl), rfl⟩
theorem ab_cw175 : ab_yP (⟨"FairBooks", "name", "(II)I"⟩, prog_1_method_2_code, 3, (some (.int)), 0, 0, 293) := List.mem_filter.mpr ⟨ab_t1 (List.mem_of_getElem? (i := 237) rfl), rfl⟩
theorem ab_cw176 : ab_yP (⟨"FairBooks", "leaf", "(I)I"⟩, prog_1_method_3_code, 2, (some (.int)), 0, 0, 382) := List.mem_filter.mpr ⟨ab_t2 (List.mem_of_getElem? (i := 86) rfl), rfl⟩
theorem ab_cw177 : ab_yP (⟨"FairBooks", "sign", "(III)I"⟩, prog_1_method_4_code, 4, (some (.int)), 0, 0, 397) := List.mem_filter.mpr ⟨ab_t2 (List.mem_of_getElem? (i := 101) rfl), rfl⟩
theorem ab_cw178 : ab_yP (⟨"FairBooks", "over", "(II)I"⟩, prog_1_method_5_code, 3, (some (.int)), 0, 0, 458) := List.mem_filter.mpr ⟨ab_t2 (List.mem_of_getElem? (i := 162) rfl), rfl⟩
theorem ab_cw179 : ab_yP (⟨"FairBooks", "dedicate", "(III)I"⟩, prog_1_method_6_code, 4, (some (.int)), 0, 0, 482) := List.mem_filter.mpr ⟨ab_t2 (List.mem_of_getElem? (i := 186) rfl), rfl⟩
theorem ab_cw180 : ab_yP (⟨"FairBooks", "move", "(II)I"⟩, prog_1_method_7_code, 3, (some (.int)), 0, 0, 495) := List.mem_filter.mpr ⟨ab_t2 (List.mem_of_getElem? (i := 199) rfl), rfl⟩
theorem ab_cw181 : ab_yP (⟨"FairBooks", "trade", "(III)I"⟩, prog_1_method_8_code, 4, (some (.int)), 0, 0, 522) := List.mem_filter.mpr ⟨ab_t2 (List.mem_of_getElem? (i := 226) rfl), rfl⟩
theorem ab_cw182 : ab_yP (⟨"FairBooks", "tear", "(I)I"⟩, prog_1_method_9_code, 2, (some (.int)), 0, 0, 550) := List.mem_filter.mpr ⟨ab_t3 (List.mem_of_getElem? (i := 14) rfl), rfl⟩
theorem ab_cw183 : ab_yP (⟨"FairBooks", "coins", "(II)I"⟩, prog_1_method_10_code, 3, (some (.int)), 0, 0, 559) := List.mem_filter.mpr ⟨ab_t3 (List.mem_of_getElem? (i := 23) rfl), rfl⟩
theorem ab_cw184 : ab_yP (⟨"FairBooks", "pageOf", "(III)I"⟩, prog_1_method_11_code, 6, (some (.int)), 0, 0, 567) := List.mem_filter.mpr ⟨ab_t3 (List.mem_of_getElem? (i := 31) rfl), rfl⟩
theorem ab_cw185 : ab_yP (⟨"FairBooks", "leafOf", "(II)I"⟩, prog_1_method_12_code, 5, (some (.int)), 0, 0, 583) := List.mem_filter.mpr ⟨ab_t3 (List.mem_of_getElem? (i := 47) rfl), rfl⟩
theorem ab_cw186 : ab_yP (⟨"FairBooks", "at", "(II)I"⟩, prog_1_method_13_code, 4, (some (.int)), 0, 0, 589) := List.mem_filter.mpr ⟨ab_t3 (List.mem_of_getElem? (i := 53) rfl), rfl⟩
theorem ab_cw187 : ab_yP (⟨"FairBooks", "collectorOf", "(II)I"⟩, prog_1_method_14_code, 4, (some (.int)), 0, 0, 596) := List.mem_filter.mpr ⟨ab_t3 (List.mem_of_getElem? (i := 60) rfl), rfl⟩
theorem ab_cw188 : ab_yP (⟨"FairBooks", "nameOf", "(II)I"⟩, prog_1_method_15_code, 3, (some (.int)), 0, 0, 627) := List.mem_filter.mpr ⟨ab_t3 (List.mem_of_getElem? (i := 91) rfl), rfl⟩
theorem ab_cw189 : ab_yP (⟨"FairBooks", "gain", "(IIII)I"⟩, prog_1_method_16_code, 8, (some (.int)), 0, 0, 646) := List.mem_filter.mpr ⟨ab_t3 (List.mem_of_getElem? (i := 110) rfl), rfl⟩
theorem ab_cw190 : ab_yP (⟨"FairBooks", "fair", "(II)I"⟩, prog_1_method_17_code, 7, (some (.int)), 0, 0, 663) := List.mem_filter.mpr ⟨ab_t3 (List.mem_of_getElem? (i := 127) rfl), rfl⟩
theorem ab_cw191 : ab_yP (⟨"FairBooks", "best", "(II)I"⟩, prog_1_method_18_code, 3, (some (.int)), 0, 0, 671) := List.mem_filter.mpr ⟨ab_t3 (List.mem_of_getElem? (i := 135) rfl), rfl⟩
theorem ab_cw192 : ab_yP (⟨"FairBooks", "missing", "(II)I"⟩, prog_1_method_19_code, 3, (some (.int)), 0, 0, 690) := List.mem_filter.mpr ⟨ab_t3 (List.mem_of_getElem? (i := 154) rfl), rfl⟩
theorem ab_cw193 : ab_yP (⟨"FairBooks", "mean", "(I)I"⟩, prog_1_method_20_code, 4, (some (.int)), 0, 0, 696) := List.mem_filter.mpr ⟨ab_t3 (List.mem_of_getElem? (i := 160) rfl), rfl⟩
theorem ab_cw194 : ab_yP (⟨"FairBooks", "count", "(I)I"⟩, prog_1_method_21_code, 2, (some (.int)), 0, 0, 706) := List.mem_filter.mpr ⟨ab_t3 (List.mem_of_getElem? (i := 170) rfl), rfl⟩
theorem ab_cw195 : ab_yP (⟨"FairBooks", "undo", "()I"⟩, prog_1_method_22_code, 1, (some (.int)), 0, 0, 738) := List.mem_filter.mpr ⟨ab_t3 (List.mem_of_getElem? (i := 202) rfl), rfl⟩
theorem ab_cw196 : ab_yP (⟨"FairBooks", "type", "(I)I"⟩, prog_1_method_23_code, 2, (some (.int)), 0, 0, 746) := List.mem_filter.mpr ⟨ab_t3 (List.mem_of_getElem? (i := 210) rfl), rfl⟩
theorem ab_cw197 : ab_yP (⟨"FairBooks", "clearText", "()I"⟩, prog_1_method_24_code, 2, (some (.int)), 0, 0, 755) := List.mem_filter.mpr ⟨ab_t3 (List.mem_of_getElem? (i := 219) rfl), rfl⟩
theorem ab_cw198 : ab_yP (⟨"FairBooks", "fault", "(I)I"⟩, prog_1_method_25_code, 2, (some (.int)), 0, 0, 759) := List.mem_filter.mpr ⟨ab_t3 (List.mem_of_getElem? (i := 223) rfl), rfl⟩
theorem ab_cw199 : ab_yP (⟨"FairBooks", "play", "()I"⟩, prog_1_method_26_code, 1, (some (.int)), 0, 0, 804) := List.mem_filter.mpr ⟨ab_t4 (List.mem_of_getElem? (i := 28) rfl), rfl⟩
theorem ab_cw200 : ab_yP (⟨"FairBooks", "isCollector", "(I)Z"⟩, prog_1_method_27_code, 1, (some (.boolean)), 0, 0, 389) := List.mem_filter.mpr ⟨ab_t2 (List.mem_of_getElem? (i := 93) rfl), rfl⟩
theorem ab_cw201 : ab_yP (⟨"FairBooks", "isTheme", "(I)Z"⟩, prog_1_method_28_code, 1, (some (.boolean)), 0, 0, 368) := List.mem_filter.mpr ⟨ab_t2 (List.mem_of_getElem? (i := 72) rfl), rfl⟩
theorem ab_cw202 : ab_yP (⟨"FairBooks", "isSide", "(I)Z"⟩, prog_1_method_29_code, 1, (some (.boolean)), 0, 0, 412) := List.mem_filter.mpr ⟨ab_t2 (List.mem_of_getElem? (i := 116) rfl), rfl⟩
theorem ab_cw203 : ab_yP (⟨"FairBooks", "arePaid", "(I)Z"⟩, prog_1_method_30_code, 1, (some (.boolean)), 0, 0, 529) := List.mem_filter.mpr ⟨ab_t2 (List.mem_of_getElem? (i := 233) rfl), rfl⟩
theorem ab_cw204 : ab_yP (⟨"FairBooks", "bitsOf", "(F)I"⟩, prog_1_method_31_code, 4, (some (.int)), 0, 0, 700) := List.mem_filter.mpr ⟨ab_t3 (List.mem_of_getElem? (i := 164) rfl), rfl⟩
theorem ab_yq4 : ∀ q ∈ ab_yl4, ab_yP q := (List.forall_mem_cons.mpr ⟨ab_cw164, (List.forall_mem_cons.mpr ⟨ab_cw165, (List.forall_mem_cons.mpr ⟨ab_cw166, (List.forall_mem_cons.mpr ⟨ab_cw167, (List.forall_mem_cons.mpr ⟨ab_cw168, (List.forall_mem_cons.mpr ⟨ab_cw169, (List.forall_mem_cons.mpr ⟨ab_cw170, (List.forall_mem_cons.mpr ⟨ab_cw171, (List.forall_mem_cons.mpr ⟨ab_cw172, (List.forall_mem_cons.mpr ⟨ab_cw173, (List.forall_mem_cons.mpr ⟨ab_cw174, (List.forall_mem_cons.mpr ⟨ab_cw175, (List.forall_mem_cons.mpr ⟨ab_cw176, (List.forall_mem_cons.mpr ⟨ab_cw177, (List.forall_mem_cons.mpr ⟨ab_cw178, (List.forall_mem_cons.mpr ⟨ab_cw179, (List.forall_mem_cons.mpr ⟨ab_cw180, (List.forall_mem_cons.mpr ⟨ab_cw181, (List.forall_mem_cons.mpr ⟨ab_cw182, (List.forall_mem_cons.mpr ⟨ab_cw183, (List.forall_mem_cons.mpr ⟨ab_cw184, (List.forall_mem_cons.mpr ⟨ab_cw185, (List.forall_mem_cons.mpr ⟨ab_cw186, (List.forall_mem_cons.mpr ⟨ab_cw187, (List.forall_mem_cons.mpr ⟨ab_cw188, (List.forall_mem_cons.mpr ⟨ab_cw189, (List.forall_mem_cons.mpr ⟨ab_cw190, (List.forall_mem_cons.mpr ⟨ab_cw191, (List.forall_mem_cons.mpr ⟨ab_cw192, (List.forall_mem_cons.mpr ⟨ab_cw193, (List.forall_mem_cons.mpr ⟨ab_cw194, (List.forall_mem_cons.mpr ⟨ab_cw195, (List.forall_mem_cons.mpr ⟨ab_cw196, (List.forall_mem_cons.mpr ⟨ab_cw197, (List.forall_mem_cons.mpr ⟨ab_cw198, (List.forall_mem_cons.mpr ⟨ab_cw199, (List.forall_mem_cons.mpr ⟨ab_cw200, (List.forall_mem_cons.mpr ⟨ab_cw201, (List.forall_mem_cons.mpr ⟨ab_cw202, (List.forall_mem_cons.mpr ⟨ab_cw203, (List.forall_mem_cons.mpr ⟨ab_cw204, (fun _ h => absurd h List.not_mem_nil)⟩)⟩)⟩)⟩)⟩)⟩)⟩)⟩)⟩)⟩)⟩)⟩)⟩)⟩)⟩)⟩)⟩)⟩)⟩)⟩)⟩)⟩)⟩)⟩)⟩)⟩)⟩)⟩)⟩)⟩)⟩)⟩)⟩)⟩)⟩)⟩)⟩)⟩)⟩)⟩)⟩)
theorem ab_yq : ∀ q ∈ ab_yl, ab_yP q := by
  intro q hq
  simp only [ab_yl, List.mem_append] at hq
  rcases hq with (((hq | hq) | hq) | hq) | hq
  · exact ab_yq0 q hq
  · exact ab_yq1 q hq
  · exact ab_yq2 q hq
  · exact ab_yq3 q hq
  · exact ab_yq4 q hq
