section
-- ===== PART A: goes FIRST, ahead of the names: the tables' words, and 'selects' of the private methods out of them =====
/-- a private method of a class that the tables say can be made, by its rows of tables_1 -/
def lw_okq (q : MethodName × Nat) : Prop := (q.1.cls ≠ "java/lang/invoke/MethodHandle" ∧ q.1.cls ≠ "java/lang/invoke/VarHandle") ∧ Cond.instantiable q.1.cls q.2 ∈ tables_1 ∧ Cond.privateMethod q.1 ∈ tables_1 ∧ Cond.instanceMethod q.1 ∈ tables_1
theorem lw_p0 : lw_okq (⟨"FairBooks$Bench", "layOutFor", "(LFairBooks$Book;LFairBooks$Book;ILFairBooks$Book;I)V"⟩, 5) := ⟨⟨by decide +kernel, by decide +kernel⟩, List.mem_of_getElem? (i := 170) (by decide +kernel), List.mem_of_getElem? (i := 477) (by decide +kernel), List.mem_of_getElem? (i := 478) (by decide +kernel)⟩
theorem lw_p1 : lw_okq (⟨"FairBooks$BestTrade", "searchBook", "(LFairBooks$Names;LFairBooks$Book;ILFairBooks$Book;LFairBooks$Bench;)V"⟩, 3) := ⟨⟨by decide +kernel, by decide +kernel⟩, List.mem_of_getElem? (i := 195) (by decide +kernel), List.mem_of_getElem? (i := 683) (by decide +kernel), List.mem_of_getElem? (i := 684) (by decide +kernel)⟩
theorem lw_p2 : lw_okq (⟨"FairBooks$Orders", "readOrder", "()Z"⟩, 8) := ⟨⟨by decide +kernel, by decide +kernel⟩, List.mem_of_getElem? (i := 134) (by decide +kernel), List.mem_of_getElem? (i := 726) (by decide +kernel), List.mem_of_getElem? (i := 727) (by decide +kernel)⟩
theorem lw_p3 : lw_okq (⟨"FairBooks$Orders", "characterAt", "(I)I"⟩, 8) := ⟨⟨by decide +kernel, by decide +kernel⟩, List.mem_of_getElem? (i := 134) (by decide +kernel), List.mem_of_getElem? (i := 730) (by decide +kernel), List.mem_of_getElem? (i := 731) (by decide +kernel)⟩
theorem lw_p4 : lw_okq (⟨"FairBooks$Orders", "skip", "(C)Z"⟩, 8) := ⟨⟨by decide +kernel, by decide +kernel⟩, List.mem_of_getElem? (i := 134) (by decide +kernel), List.mem_of_getElem? (i := 737) (by decide +kernel), List.mem_of_getElem? (i := 738) (by decide +kernel)⟩
theorem lw_p5 : lw_okq (⟨"FairBooks$Orders", "readNumber", "(I)V"⟩, 8) := ⟨⟨by decide +kernel, by decide +kernel⟩, List.mem_of_getElem? (i := 134) (by decide +kernel), List.mem_of_getElem? (i := 744) (by decide +kernel), List.mem_of_getElem? (i := 745) (by decide +kernel)⟩
theorem lw_p6 : lw_okq (⟨"FairBooks$Orders", "doOrder", "(LFairBooks$State;LFairBooks$Bench;)I"⟩, 8) := ⟨⟨by decide +kernel, by decide +kernel⟩, List.mem_of_getElem? (i := 134) (by decide +kernel), List.mem_of_getElem? (i := 748) (by decide +kernel), List.mem_of_getElem? (i := 749) (by decide +kernel)⟩
theorem lw_p7 : lw_okq (⟨"FairBooks$Orders", "number", "(I)I"⟩, 8) := ⟨⟨by decide +kernel, by decide +kernel⟩, List.mem_of_getElem? (i := 134) (by decide +kernel), List.mem_of_getElem? (i := 752) (by decide +kernel), List.mem_of_getElem? (i := 753) (by decide +kernel)⟩
def lw_privs_1 : List (MethodName × Nat) := [(⟨"FairBooks$Bench", "layOutFor", "(LFairBooks$Book;LFairBooks$Book;ILFairBooks$Book;I)V"⟩, 5), (⟨"FairBooks$BestTrade", "searchBook", "(LFairBooks$Names;LFairBooks$Book;ILFairBooks$Book;LFairBooks$Bench;)V"⟩, 3), (⟨"FairBooks$Orders", "readOrder", "()Z"⟩, 8), (⟨"FairBooks$Orders", "characterAt", "(I)I"⟩, 8), (⟨"FairBooks$Orders", "skip", "(C)Z"⟩, 8), (⟨"FairBooks$Orders", "readNumber", "(I)V"⟩, 8), (⟨"FairBooks$Orders", "doOrder", "(LFairBooks$State;LFairBooks$Bench;)I"⟩, 8), (⟨"FairBooks$Orders", "number", "(I)I"⟩, 8)]
theorem lw_r1 : ∀ q ∈ lw_privs_1, lw_okq q := List.forall_mem_cons.mpr ⟨lw_p0, List.forall_mem_cons.mpr ⟨lw_p1, List.forall_mem_cons.mpr ⟨lw_p2, List.forall_mem_cons.mpr ⟨lw_p3, List.forall_mem_cons.mpr ⟨lw_p4, List.forall_mem_cons.mpr ⟨lw_p5, List.forall_mem_cons.mpr ⟨lw_p6, List.forall_mem_cons.mpr ⟨lw_p7, fun _ h => absurd h List.not_mem_nil⟩⟩⟩⟩⟩⟩⟩⟩
def lw_privs : List (MethodName × Nat) := lw_privs_1
def lw_tbl : List Cond := k2_sels lw_privs ++ tables_1
theorem lw_privs_ok : ∀ q ∈ lw_privs, lw_okq q := lw_r1
/-- the streams that the claim lets the run draw from -/
abbrev lw_cs : List Choice := [Jvm.Choice.named "NaN.bits"]
theorem lw_bits : nanBits ∈ lw_cs := by first | decide | exact List.mem_cons_self | simp [lw_cs, nanBits]
end
section
def RX0 : String := "FairBooks$Bench"
def TX0 : u_T := fun k => match k with
  | 0 => ("FairBooks$Bench", "spareOne", "LFairBooks$Book;", true)
  | 1 => ("FairBooks$Bench", "spareOther", "LFairBooks$Book;", true)
  | 2 => ("FairBooks$Bench", "one", "LFairBooks$Book;", false)
  | 3 => ("FairBooks$Bench", "other", "LFairBooks$Book;", false)
  | _ => ("FairBooks$Bench", "traded", "I", false)
def tyX0 : Nat → FieldType := fun k => match k with
  | 0 => .object "FairBooks$Book"
  | 1 => .object "FairBooks$Book"
  | 2 => .object "FairBooks$Book"
  | 3 => .object "FairBooks$Book"
  | _ => .int
theorem nmX0 : ∀ a, a < 5 → ∀ b, b < 5 → a ≠ b → (TX0 a).2.1 ≠ (TX0 b).2.1 := by decide +kernel
theorem tyX0_ok : ∀ k, k < 5 → parseFieldDescriptor (TX0 k).2.2.1 = some (tyX0 k) := by decide +kernel
def RX1 : String := "FairBooks$BestTrade"
def TX1 : u_T := fun k => match k with
  | 0 => ("FairBooks$BestTrade", "ownLeaf", "I", false)
  | 1 => ("FairBooks$BestTrade", "otherLeaf", "I", false)
  | _ => ("FairBooks$BestTrade", "gained", "I", false)
def tyX1 : Nat → FieldType := fun k => match k with
  | 0 => .int
  | 1 => .int
  | _ => .int
theorem nmX1 : ∀ a, a < 3 → ∀ b, b < 3 → a ≠ b → (TX1 a).2.1 ≠ (TX1 b).2.1 := by decide +kernel
theorem tyX1_ok : ∀ k, k < 3 → parseFieldDescriptor (TX1 k).2.2.1 = some (tyX1 k) := by decide +kernel
def RX2 : String := "FairBooks$Book"
def TX2 : u_T := fun k => match k with
  | 0 => ("FairBooks$Book", "numbers", "[I", true)
  | 1 => ("FairBooks$Book", "kinds", "[I", true)
  | 2 => ("FairBooks$Book", "signers", "[I", true)
  | 3 => ("FairBooks$Book", "friends", "[I", true)
  | 4 => ("FairBooks$Book", "owner", "I", false)
  | _ => ("FairBooks$Book", "size", "I", false)
def tyX2 : Nat → FieldType := fun k => match k with
  | 0 => .array .int
  | 1 => .array .int
  | 2 => .array .int
  | 3 => .array .int
  | 4 => .int
  | _ => .int
theorem nmX2 : ∀ a, a < 6 → ∀ b, b < 6 → a ≠ b → (TX2 a).2.1 ≠ (TX2 b).2.1 := by decide +kernel
theorem tyX2_ok : ∀ k, k < 6 → parseFieldDescriptor (TX2 k).2.2.1 = some (tyX2 k) := by decide +kernel
def RX3 : String := "FairBooks$History"
def TX3 : u_T := fun k => match k with
  | 0 => ("FairBooks$History", "spare", "LFairBooks$State;", false)
  | 1 => ("FairBooks$History", "first", "LFairBooks$State;", false)
  | 2 => ("FairBooks$History", "second", "LFairBooks$State;", false)
  | 3 => ("FairBooks$History", "third", "LFairBooks$State;", false)
  | 4 => ("FairBooks$History", "fourth", "LFairBooks$State;", false)
  | _ => ("FairBooks$History", "size", "I", false)
def tyX3 : Nat → FieldType := fun k => match k with
  | 0 => .object "FairBooks$State"
  | 1 => .object "FairBooks$State"
  | 2 => .object "FairBooks$State"
  | 3 => .object "FairBooks$State"
  | 4 => .object "FairBooks$State"
  | _ => .int
theorem nmX3 : ∀ a, a < 6 → ∀ b, b < 6 → a ≠ b → (TX3 a).2.1 ≠ (TX3 b).2.1 := by decide +kernel
theorem tyX3_ok : ∀ k, k < 6 → parseFieldDescriptor (TX3 k).2.2.1 = some (tyX3 k) := by decide +kernel
def RX4 : String := "FairBooks$Names"
def TX4 : u_T := fun k => match k with
  | 0 => ("FairBooks$Names", "fames", "[I", true)
  | 1 => ("FairBooks$Names", "themes", "[I", true)
  | _ => ("FairBooks$Names", "size", "I", false)
def tyX4 : Nat → FieldType := fun k => match k with
  | 0 => .array .int
  | 1 => .array .int
  | _ => .int
theorem nmX4 : ∀ a, a < 3 → ∀ b, b < 3 → a ≠ b → (TX4 a).2.1 ≠ (TX4 b).2.1 := by decide +kernel
theorem tyX4_ok : ∀ k, k < 3 → parseFieldDescriptor (TX4 k).2.2.1 = some (tyX4 k) := by decide +kernel
def RX5 : String := "FairBooks$Orders"
def TX5 : u_T := fun k => match k with
  | 0 => ("FairBooks$Orders", "characters", "[I", true)
  | 1 => ("FairBooks$Orders", "numbers", "[I", true)
  | 2 => ("FairBooks$Orders", "length", "I", false)
  | 3 => ("FairBooks$Orders", "start", "I", false)
  | 4 => ("FairBooks$Orders", "next", "I", false)
  | 5 => ("FairBooks$Orders", "done", "I", false)
  | 6 => ("FairBooks$Orders", "reason", "I", false)
  | _ => ("FairBooks$Orders", "cause", "I", false)
def tyX5 : Nat → FieldType := fun k => match k with
  | 0 => .array .int
  | 1 => .array .int
  | 2 => .int
  | 3 => .int
  | 4 => .int
  | 5 => .int
  | 6 => .int
  | _ => .int
theorem nmX5 : ∀ a, a < 8 → ∀ b, b < 8 → a ≠ b → (TX5 a).2.1 ≠ (TX5 b).2.1 := by decide +kernel
theorem tyX5_ok : ∀ k, k < 8 → parseFieldDescriptor (TX5 k).2.2.1 = some (tyX5 k) := by decide +kernel
def RX6 : String := "FairBooks$State"
def TX6 : u_T := fun k => match k with
  | 0 => ("FairBooks$State", "names", "LFairBooks$Names;", true)
  | 1 => ("FairBooks$State", "book0", "LFairBooks$Book;", true)
  | 2 => ("FairBooks$State", "book1", "LFairBooks$Book;", true)
  | 3 => ("FairBooks$State", "book2", "LFairBooks$Book;", true)
  | 4 => ("FairBooks$State", "book3", "LFairBooks$Book;", true)
  | 5 => ("FairBooks$State", "purses", "[I", true)
  | 6 => ("FairBooks$State", "tradesSoFar", "I", false)
  | _ => ("FairBooks$State", "leavesSoFar", "I", false)
def tyX6 : Nat → FieldType := fun k => match k with
  | 0 => .object "FairBooks$Names"
  | 1 => .object "FairBooks$Book"
  | 2 => .object "FairBooks$Book"
  | 3 => .object "FairBooks$Book"
  | 4 => .object "FairBooks$Book"
  | 5 => .array .int
  | 6 => .int
  | _ => .int
theorem nmX6 : ∀ a, a < 8 → ∀ b, b < 8 → a ≠ b → (TX6 a).2.1 ≠ (TX6 b).2.1 := by decide +kernel
theorem tyX6_ok : ∀ k, k < 8 → parseFieldDescriptor (TX6 k).2.2.1 = some (tyX6 k) := by decide +kernel
def RX7 : String := "FairBooks"
def TX7 : u_T := fun k => match k with
  | 0 => ("FairBooks", "now", "LFairBooks$State;", true)
  | 1 => ("FairBooks", "trial", "LFairBooks$State;", true)
  | 2 => ("FairBooks", "history", "LFairBooks$History;", true)
  | 3 => ("FairBooks", "orders", "LFairBooks$Orders;", true)
  | 4 => ("FairBooks", "bench", "LFairBooks$Bench;", true)
  | _ => ("FairBooks", "bestTrade", "LFairBooks$BestTrade;", true)
def tyX7 : Nat → FieldType := fun k => match k with
  | 0 => .object "FairBooks$State"
  | 1 => .object "FairBooks$State"
  | 2 => .object "FairBooks$History"
  | 3 => .object "FairBooks$Orders"
  | 4 => .object "FairBooks$Bench"
  | _ => .object "FairBooks$BestTrade"
theorem nmX7 : ∀ a, a < 6 → ∀ b, b < 6 → a ≠ b → (TX7 a).2.1 ≠ (TX7 b).2.1 := by decide +kernel
theorem tyX7_ok : ∀ k, k < 6 → parseFieldDescriptor (TX7 k).2.2.1 = some (tyX7 k) := by decide +kernel
abbrev vwCl : List vw_C := [(RX0, TX0, 5), (RX1, TX1, 3), (RX2, TX2, 6), (RX3, TX3, 6), (RX4, TX4, 3), (RX5, TX5, 8), (RX6, TX6, 8), (RX7, TX7, 6)]
def ab_tx : Nat → u_T := fun ci => match ci with
  | 0 => TX0
  | 1 => TX1
  | 2 => TX2
  | 3 => TX3
  | 4 => TX4
  | 5 => TX5
  | 6 => TX6
  | 7 => TX7
  | _ => TX0
def ab_ty : Nat → Nat → FieldType := fun ci => match ci with
  | 0 => tyX0
  | 1 => tyX1
  | 2 => tyX2
  | 3 => tyX3
  | 4 => tyX4
  | 5 => tyX5
  | 6 => tyX6
  | 7 => tyX7
  | _ => tyX0
def ab_nf : Nat → Nat := fun ci => match ci with
  | 0 => 5
  | 1 => 3
  | 2 => 6
  | 3 => 6
  | 4 => 3
  | 5 => 8
  | 6 => 8
  | 7 => 6
  | _ => 0
def ab_cn : Nat → String := fun ci => match ci with
  | 0 => RX0
  | 1 => RX1
  | 2 => RX2
  | 3 => RX3
  | 4 => RX4
  | 5 => RX5
  | 6 => RX6
  | 7 => RX7
  | _ => ""
/-- a field: 0 an int, 1 a reference, 2 a boolean -/
def ab_fk : Nat → Nat → Nat := fun ci f => match ab_ty ci f with
  | .int => 0
  | .boolean => 2
  | _ => 1
/-- the cells in the order in which they are made: a class, or 100 and an array's length -/
def ab_shl : List Nat := [7, 6, 4, 116, 116, 2, 116, 132, 132, 132, 2, 116, 132, 132, 132, 2, 116, 132, 132, 132, 2, 116, 132, 132, 132, 104, 6, 4, 116, 116, 2, 116, 132, 132, 132, 2, 116, 132, 132, 132, 2, 116, 132, 132, 132, 2, 116, 132, 132, 132, 104, 3, 6, 4, 116, 116, 2, 116, 132, 132, 132, 2, 116, 132, 132, 132, 2, 116, 132, 132, 132, 2, 116, 132, 132, 132, 104, 6, 4, 116, 116, 2, 116, 132, 132, 132, 2, 116, 132, 132, 132, 2, 116, 132, 132, 132, 2, 116, 132, 132, 132, 104, 6, 4, 116, 116, 2, 116, 132, 132, 132, 2, 116, 132, 132, 132, 2, 116, 132, 132, 132, 2, 116, 132, 132, 132, 104, 6, 4, 116, 116, 2, 116, 132, 132, 132, 2, 116, 132, 132, 132, 2, 116, 132, 132, 132, 2, 116, 132, 132, 132, 104, 6, 4, 116, 116, 2, 116, 132, 132, 132, 2, 116, 132, 132, 132, 2, 116, 132, 132, 132, 2, 116, 132, 132, 132, 104, 5, 160, 104, 0, 2, 116, 132, 132, 132, 2, 116, 132, 132, 132, 1]
def ab_sh (k : Nat) : Nat := ab_shl.getD k 9999
abbrev ab_Y : Type := MethodName × ByteArray × Nat × Option FieldType × Nat × Nat × Nat
def ab_yl0 : List ab_Y := [(⟨"java/lang/Math", "max", "(II)I"⟩, prog_12_method_65_code, 2, (some (.int)), 0, 0, 678),
  (⟨"java/lang/Math", "min", "(II)I"⟩, prog_12_method_69_code, 2, (some (.int)), 0, 0, 328),
  (⟨"java/lang/Integer", "bitCount", "(I)I"⟩, prog_11_method_49_code, 1, (some (.int)), 0, 0, 401),
  (⟨"FairBooks$Names", "<init>", "()V"⟩, prog_6_method_1_code, 1, none, 2, 32, 37),
  (⟨"FairBooks$Names", "has", "(I)Z"⟩, prog_6_method_2_code, 2, (some (.boolean)), 0, 0, 366),
  (⟨"FairBooks$Names", "fameOf", "(I)I"⟩, prog_6_method_3_code, 2, (some (.int)), 0, 0, 259),
  (⟨"FairBooks$Names", "themeOf", "(I)I"⟩, prog_6_method_4_code, 2, (some (.int)), 0, 0, 263),
  (⟨"FairBooks$Names", "setOf", "(I)I"⟩, prog_6_method_5_code, 4, (some (.int)), 0, 0, 398),
  (⟨"FairBooks$Names", "add", "(II)V"⟩, prog_6_method_6_code, 3, none, 0, 0, 267),
  (⟨"FairBooks$Names", "copyFrom", "(LFairBooks$Names;)V"⟩, prog_6_method_7_code, 3, none, 0, 0, 255),
  (⟨"FairBooks$Book", "<init>", "(I)V"⟩, prog_4_method_1_code, 2, none, 4, 112, 56),
  (⟨"FairBooks$Book", "numberAt", "(I)I"⟩, prog_4_method_2_code, 2, (some (.int)), 0, 0, 287),
  (⟨"FairBooks$Book", "kindOf", "(I)I"⟩, prog_4_method_3_code, 2, (some (.int)), 0, 0, 291),
  (⟨"FairBooks$Book", "nameOn", "(I)I"⟩, prog_4_method_4_code, 2, (some (.int)), 0, 0, 295),
  (⟨"FairBooks$Book", "friendOn", "(I)I"⟩, prog_4_method_5_code, 2, (some (.int)), 0, 0, 299),
  (⟨"FairBooks$Book", "find", "(I)I"⟩, prog_4_method_6_code, 3, (some (.int)), 0, 0, 359),
  (⟨"FairBooks$Book", "startsEntry", "(I)Z"⟩, prog_4_method_7_code, 2, (some (.boolean)), 0, 0, 381),
  (⟨"FairBooks$Book", "countEntries", "()I"⟩, prog_4_method_8_code, 3, (some (.int)), 0, 0, 538),
  (⟨"FairBooks$Book", "countEntriesOf", "(I)I"⟩, prog_4_method_9_code, 4, (some (.int)), 0, 0, 624),
  (⟨"FairBooks$Book", "countDedicatedTo", "(I)I"⟩, prog_4_method_10_code, 4, (some (.int)), 0, 0, 563),
  (⟨"FairBooks$Book", "countDedicated", "()I"⟩, prog_4_method_11_code, 1, (some (.int)), 0, 0, 558),
  (⟨"FairBooks$Book", "nameSet", "()I"⟩, prog_4_method_12_code, 1, (some (.int)), 0, 0, 599),
  (⟨"FairBooks$Book", "namesAhead", "(I)I"⟩, prog_4_method_13_code, 4, (some (.int)), 0, 0, 394),
  (⟨"FairBooks$Book", "valueOn", "(ILFairBooks$Names;)I"⟩, prog_4_method_14_code, 4, (some (.int)), 0, 0, 646),
  (⟨"FairBooks$Book", "valueBehind", "(IILFairBooks$Names;)I"⟩, prog_4_method_15_code, 7, (some (.int)), 0, 0, 385),
  (⟨"FairBooks$Book", "sumOfValues", "(LFairBooks$Names;)I"⟩, prog_4_method_16_code, 5, (some (.int)), 0, 0, 377),
  (⟨"FairBooks$Book", "wholeThemes", "(LFairBooks$Names;)I"⟩, prog_4_method_17_code, 6, (some (.int)), 0, 0, 390),
  (⟨"FairBooks$Book", "worth", "(LFairBooks$Names;)I"⟩, prog_4_method_18_code, 5, (some (.int)), 0, 0, 373),
  (⟨"FairBooks$Book", "isJoined", "(I)Z"⟩, prog_4_method_19_code, 3, (some (.boolean)), 0, 0, 424),
  (⟨"FairBooks$Book", "startsBundle", "(I)Z"⟩, prog_4_method_20_code, 2, (some (.boolean)), 0, 0, 608),
  (⟨"FairBooks$Book", "bundleFirst", "(I)I"⟩, prog_4_method_21_code, 3, (some (.int)), 0, 0, 428),
  (⟨"FairBooks$Book", "bundleEnd", "(I)I"⟩, prog_4_method_22_code, 3, (some (.int)), 0, 0, 420),
  (⟨"FairBooks$Book", "bundleSize", "(I)I"⟩, prog_4_method_23_code, 2, (some (.int)), 0, 0, 416),
  (⟨"FairBooks$Book", "countBundles", "()I"⟩, prog_4_method_24_code, 3, (some (.int)), 0, 0, 604),
  (⟨"FairBooks$Book", "canShift", "(II)Z"⟩, prog_4_method_25_code, 5, (some (.boolean)), 0, 0, 453),
  (⟨"FairBooks$Book", "setEntry", "(IIII)V"⟩, prog_4_method_26_code, 5, none, 0, 0, 303),
  (⟨"FairBooks$Book", "setFriend", "(II)V"⟩, prog_4_method_27_code, 3, none, 0, 0, 441),
  (⟨"FairBooks$Book", "addLeaf", "(I)V"⟩, prog_4_method_28_code, 2, none, 0, 0, 343),
  (⟨"FairBooks$Book", "addLeaves", "(LFairBooks$Book;II)V"⟩, prog_4_method_29_code, 7, none, 0, 0, 283),
  (⟨"FairBooks$Book", "clearFor", "(I)V"⟩, prog_4_method_30_code, 2, none, 0, 0, 279),
  (⟨"FairBooks$Book", "copyFrom", "(LFairBooks$Book;)V"⟩, prog_4_method_31_code, 2, none, 0, 0, 275)]
def ab_yl1 : List ab_Y := [(⟨"FairBooks$Bench", "<init>", "()V"⟩, prog_2_method_1_code, 1, none, 10, 236, 181),
  (⟨"FairBooks$Bench", "takeOut", "(LFairBooks$Book;I)V"⟩, prog_2_method_2_code, 3, none, 0, 0, 467),
  (⟨"FairBooks$Bench", "shift", "(LFairBooks$Book;II)V"⟩, prog_2_method_3_code, 4, none, 0, 0, 459),
  (⟨"FairBooks$Bench", "layOut", "(LFairBooks$Book;ILFairBooks$Book;I)V"⟩, prog_2_method_4_code, 5, none, 0, 0, 483),
  (⟨"FairBooks$Bench", "layOutFor", "(LFairBooks$Book;LFairBooks$Book;ILFairBooks$Book;I)V"⟩, prog_2_method_5_code, 6, none, 0, 0, 487),
  (⟨"FairBooks$Bench", "fits", "()Z"⟩, prog_2_method_6_code, 1, (some (.boolean)), 0, 0, 492),
  (⟨"FairBooks$Bench", "gainOfOne", "(LFairBooks$Names;)I"⟩, prog_2_method_7_code, 2, (some (.int)), 0, 0, 665),
  (⟨"FairBooks$Bench", "gainOfOther", "(LFairBooks$Names;)I"⟩, prog_2_method_8_code, 2, (some (.int)), 0, 0, 670),
  (⟨"FairBooks$Bench", "settle", "()V"⟩, prog_2_method_9_code, 1, none, 0, 0, 496),
  (⟨"FairBooks$State", "<init>", "()V"⟩, prog_8_method_1_code, 1, none, 24, 511, 31),
  (⟨"FairBooks$State", "copyFrom", "(LFairBooks$State;)V"⟩, prog_8_method_2_code, 3, none, 0, 0, 251),
  (⟨"FairBooks$State", "bookOf", "(I)LFairBooks$Book;"⟩, prog_8_method_3_code, 2, (some (.object "FairBooks$Book")), 0, 0, 271),
  (⟨"FairBooks$State", "bookWith", "(I)LFairBooks$Book;"⟩, prog_8_method_4_code, 3, (some (.object "FairBooks$Book")), 0, 0, 355),
  (⟨"FairBooks$State", "purseOf", "(I)I"⟩, prog_8_method_5_code, 2, (some (.int)), 0, 0, 307),
  (⟨"FairBooks$State", "setPurse", "(II)V"⟩, prog_8_method_6_code, 3, none, 0, 0, 311),
  (⟨"FairBooks$State", "addName", "(II)I"⟩, prog_8_method_7_code, 3, (some (.int)), 0, 0, 315),
  (⟨"FairBooks$State", "addLeaf", "(I)I"⟩, prog_8_method_8_code, 3, (some (.int)), 0, 0, 336),
  (⟨"FairBooks$State", "addEntry", "(IIII)I"⟩, prog_8_method_9_code, 7, (some (.int)), 0, 0, 351),
  (⟨"FairBooks$State", "addWideEntry", "(II)I"⟩, prog_8_method_10_code, 6, (some (.int)), 0, 0, 412),
  (⟨"FairBooks$State", "setFriend", "(III)I"⟩, prog_8_method_11_code, 7, (some (.int)), 0, 0, 436),
  (⟨"FairBooks$State", "shiftBundle", "(IILFairBooks$Bench;)I"⟩, prog_8_method_12_code, 7, (some (.int)), 0, 0, 449),
  (⟨"FairBooks$State", "exchange", "(IIILFairBooks$Bench;)I"⟩, prog_8_method_13_code, 9, (some (.int)), 0, 0, 476),
  (⟨"FairBooks$State", "takeOut", "(ILFairBooks$Bench;)I"⟩, prog_8_method_14_code, 5, (some (.int)), 0, 0, 504),
  (⟨"FairBooks$State", "fillPurse", "(II)I"⟩, prog_8_method_15_code, 4, (some (.int)), 0, 0, 513),
  (⟨"FairBooks$State", "wealth", "(I)I"⟩, prog_8_method_16_code, 2, (some (.int)), 0, 0, 546),
  (⟨"FairBooks$State", "richest", "()I"⟩, prog_8_method_17_code, 3, (some (.int)), 0, 0, 542),
  (⟨"FairBooks$State", "sumOfWorths", "()I"⟩, prog_8_method_18_code, 3, (some (.int)), 0, 0, 550),
  (⟨"FairBooks$State", "countLeaves", "()I"⟩, prog_8_method_19_code, 1, (some (.int)), 0, 0, 530),
  (⟨"FairBooks$State", "countEntries", "()I"⟩, prog_8_method_20_code, 3, (some (.int)), 0, 0, 534),
  (⟨"FairBooks$State", "countDedicated", "()I"⟩, prog_8_method_21_code, 3, (some (.int)), 0, 0, 554),
  (⟨"FairBooks$State", "countEntriesOf", "(I)I"⟩, prog_8_method_22_code, 4, (some (.int)), 0, 0, 620),
  (⟨"FairBooks$State", "ownersOf", "(I)I"⟩, prog_8_method_23_code, 4, (some (.int)), 0, 0, 628),
  (⟨"FairBooks$BestTrade", "<init>", "()V"⟩, prog_3_method_1_code, 1, none, 0, 0, 206),
  (⟨"FairBooks$BestTrade", "search", "(LFairBooks$State;ILFairBooks$Bench;)V"⟩, prog_3_method_2_code, 7, none, 0, 0, 687),
  (⟨"FairBooks$BestTrade", "searchBook", "(LFairBooks$Names;LFairBooks$Book;ILFairBooks$Book;LFairBooks$Bench;)V"⟩, prog_3_method_3_code, 8, none, 0, 0, 693),
  (⟨"FairBooks$History", "<init>", "()V"⟩, prog_5_method_1_code, 1, none, 125, 2595, 117),
  (⟨"FairBooks$History", "prepare", "(LFairBooks$State;)V"⟩, prog_5_method_2_code, 2, none, 0, 0, 247),
  (⟨"FairBooks$History", "keep", "(I)I"⟩, prog_5_method_3_code, 3, (some (.int)), 0, 0, 325),
  (⟨"FairBooks$History", "restore", "(LFairBooks$State;)V"⟩, prog_5_method_4_code, 3, none, 0, 0, 572),
  (⟨"FairBooks$Orders", "<init>", "()V"⟩, prog_7_method_1_code, 1, none, 2, 64, 145),
  (⟨"FairBooks$Orders", "append", "(I)V"⟩, prog_7_method_2_code, 2, none, 0, 0, 723)]
def ab_yl2 : List ab_Y := [(⟨"FairBooks$Orders", "run", "(LFairBooks$State;LFairBooks$State;LFairBooks$Bench;)V"⟩, prog_7_method_3_code, 6, none, 0, 0, 731),
  (⟨"FairBooks$Orders", "characterAt", "(I)I"⟩, prog_7_method_4_code, 2, (some (.int)), 0, 0, 740),
  (⟨"FairBooks$Orders", "readOrder", "()Z"⟩, prog_7_method_5_code, 3, (some (.boolean)), 0, 0, 736),
  (⟨"FairBooks$Orders", "skip", "(C)Z"⟩, prog_7_method_6_code, 2, (some (.boolean)), 0, 0, 747),
  (⟨"FairBooks$Orders", "readNumber", "(I)V"⟩, prog_7_method_7_code, 3, none, 0, 0, 754),
  (⟨"FairBooks$Orders", "number", "(I)I"⟩, prog_7_method_8_code, 2, (some (.int)), 0, 0, 762),
  (⟨"FairBooks$Orders", "doOrder", "(LFairBooks$State;LFairBooks$Bench;)I"⟩, prog_7_method_9_code, 3, (some (.int)), 0, 0, 758),
  (⟨"FairBooks$Orders", "howManyNumbers", "(I)I"⟩, prog_7_method_10_code, 1, (some (.int)), 0, 0, 743),
  (⟨"FairBooks$Orders", "isDigit", "(I)Z"⟩, prog_7_method_11_code, 1, (some (.boolean)), 0, 0, 750),
  (⟨"FairBooks", "<init>", "()V"⟩, prog_1_method_1_code, 1, none, 191, 3955, 23),
  (⟨"FairBooks", "name", "(II)I"⟩, prog_1_method_2_code, 3, (some (.int)), 0, 0, 243),
  (⟨"FairBooks", "leaf", "(I)I"⟩, prog_1_method_3_code, 2, (some (.int)), 0, 0, 332),
  (⟨"FairBooks", "sign", "(III)I"⟩, prog_1_method_4_code, 4, (some (.int)), 0, 0, 347),
  (⟨"FairBooks", "over", "(II)I"⟩, prog_1_method_5_code, 3, (some (.int)), 0, 0, 408),
  (⟨"FairBooks", "dedicate", "(III)I"⟩, prog_1_method_6_code, 4, (some (.int)), 0, 0, 432),
  (⟨"FairBooks", "move", "(II)I"⟩, prog_1_method_7_code, 3, (some (.int)), 0, 0, 445),
  (⟨"FairBooks", "trade", "(III)I"⟩, prog_1_method_8_code, 4, (some (.int)), 0, 0, 472),
  (⟨"FairBooks", "tear", "(I)I"⟩, prog_1_method_9_code, 2, (some (.int)), 0, 0, 500),
  (⟨"FairBooks", "coins", "(II)I"⟩, prog_1_method_10_code, 3, (some (.int)), 0, 0, 509),
  (⟨"FairBooks", "pageOf", "(III)I"⟩, prog_1_method_11_code, 6, (some (.int)), 0, 0, 638),
  (⟨"FairBooks", "leafOf", "(II)I"⟩, prog_1_method_12_code, 5, (some (.int)), 0, 0, 517),
  (⟨"FairBooks", "at", "(II)I"⟩, prog_1_method_13_code, 4, (some (.int)), 0, 0, 632),
  (⟨"FairBooks", "collectorOf", "(II)I"⟩, prog_1_method_14_code, 4, (some (.int)), 0, 0, 589),
  (⟨"FairBooks", "nameOf", "(II)I"⟩, prog_1_method_15_code, 3, (some (.int)), 0, 0, 613),
  (⟨"FairBooks", "gain", "(IIII)I"⟩, prog_1_method_16_code, 8, (some (.int)), 0, 0, 659),
  (⟨"FairBooks", "fair", "(II)I"⟩, prog_1_method_17_code, 7, (some (.int)), 0, 0, 675),
  (⟨"FairBooks", "best", "(II)I"⟩, prog_1_method_18_code, 3, (some (.int)), 0, 0, 683),
  (⟨"FairBooks", "missing", "(II)I"⟩, prog_1_method_19_code, 3, (some (.int)), 0, 0, 702),
  (⟨"FairBooks", "mean", "(I)I"⟩, prog_1_method_20_code, 4, (some (.int)), 0, 0, 708),
  (⟨"FairBooks", "count", "(I)I"⟩, prog_1_method_21_code, 2, (some (.int)), 0, 0, 526),
  (⟨"FairBooks", "undo", "()I"⟩, prog_1_method_22_code, 1, (some (.int)), 0, 0, 567),
  (⟨"FairBooks", "type", "(I)I"⟩, prog_1_method_23_code, 2, (some (.int)), 0, 0, 718),
  (⟨"FairBooks", "clearText", "()I"⟩, prog_1_method_24_code, 2, (some (.int)), 0, 0, 815),
  (⟨"FairBooks", "fault", "(I)I"⟩, prog_1_method_25_code, 2, (some (.int)), 0, 0, 727),
  (⟨"FairBooks", "play", "()I"⟩, prog_1_method_26_code, 1, (some (.int)), 0, 0, 793),
  (⟨"FairBooks", "isCollector", "(I)Z"⟩, prog_1_method_27_code, 1, (some (.boolean)), 0, 0, 339),
  (⟨"FairBooks", "isTheme", "(I)Z"⟩, prog_1_method_28_code, 1, (some (.boolean)), 0, 0, 318),
  (⟨"FairBooks", "isSide", "(I)Z"⟩, prog_1_method_29_code, 1, (some (.boolean)), 0, 0, 362),
  (⟨"FairBooks", "arePaid", "(I)Z"⟩, prog_1_method_30_code, 1, (some (.boolean)), 0, 0, 479),
  (⟨"FairBooks", "bitsOf", "(F)I"⟩, prog_1_method_31_code, 4, (some (.int)), 0, 0, 712),
  (⟨"FairBooksLaw", "part", "(II)I"⟩, method_2_code, 2, (some (.int)), 0, 0, 575)]
def ab_yl3 : List ab_Y := [(⟨"FairBooksLaw", "drawn", "([II)I"⟩, method_3_code, 2, (some (.int)), 0, 0, 579),
  (⟨"FairBooksLaw", "seen", "(LFairBooks;)J"⟩, method_4_code, 6, (some (.long)), 0, 0, 583),
  (⟨"FairBooksLaw", "refusesAny", "(LFairBooks;I)Z"⟩, method_5_code, 7, (some (.boolean)), 0, 0, 652),
  (⟨"FairBooksLaw", "refused", "(LFairBooks;)Z"⟩, method_6_code, 4, (some (.boolean)), 0, 0, 649),
  (⟨"FairBooksLaw", "books", "()Z"⟩, method_7_code, 2, (some (.boolean)), 192, 3961, 771),
  (⟨"FairBooksLaw", "types", "(LFairBooks;J)Z"⟩, method_8_code, 6, (some (.boolean)), 0, 0, 788),
  (⟨"FairBooksLaw", "isFault", "(JJIII)Z"⟩, method_9_code, 8, (some (.boolean)), 192, 3961, 785),
  (⟨"FairBooksLaw", "texts", "()Z"⟩, method_10_code, 2, (some (.boolean)), 2880, 59415, 781)]
def ab_yl : List ab_Y := ab_yl0 ++ ab_yl1 ++ ab_yl2 ++ ab_yl3
def ab_y (y : Nat) : ab_Y := ab_yl.getD y (⟨"", "", ""⟩, ⟨#[]⟩, 0, none, 0, 0, 0)
def ab_yn (y : Nat) : MethodName := (ab_y y).1
def ab_cod (y : Nat) : ByteArray := (ab_y y).2.1
def ab_ml (y : Nat) : Nat := (ab_y y).2.2.1
def ab_rt (y : Nat) : Option FieldType := (ab_y y).2.2.2.1
def ab_mc (y : Nat) : Nat := (ab_y y).2.2.2.2.1
def ab_ms (y : Nat) : Nat := (ab_y y).2.2.2.2.2.1
def ab_cp (y : Nat) : Nat := (ab_y y).2.2.2.2.2.2
theorem ab_t1 {w : Jvm.Cond} (h : w ∈ tables_1_1) : w ∈ lw_tbl := List.mem_append_right _ (show w ∈ tables_1 from (List.mem_append_left _ h))
theorem ab_t2 {w : Jvm.Cond} (h : w ∈ tables_1_2) : w ∈ lw_tbl := List.mem_append_right _ (show w ∈ tables_1 from (List.mem_append_right _ (List.mem_append_left _ h)))
theorem ab_t3 {w : Jvm.Cond} (h : w ∈ tables_1_3) : w ∈ lw_tbl := List.mem_append_right _ (show w ∈ tables_1 from (List.mem_append_right _ (List.mem_append_right _ (List.mem_append_left _ h))))
theorem ab_t4 {w : Jvm.Cond} (h : w ∈ tables_1_4) : w ∈ lw_tbl := List.mem_append_right _ (show w ∈ tables_1 from (List.mem_append_right _ (List.mem_append_right _ (List.mem_append_right _ h))))
def ab_Tg : List Jvm.Cond := lw_tbl.filter goodWord
def ab_yP (q : ab_Y) : Prop := Jvm.Cond.code q.1 q.2.1 q.2.2.1 q.2.2.2.1 ∈ ab_Tg
theorem ab_cw0 : ab_yP (⟨"java/lang/Math", "max", "(II)I"⟩, prog_12_method_65_code, 2, (some (.int)), 0, 0, 678) := List.mem_filter.mpr ⟨ab_t3 (List.mem_of_getElem? (i := 190) rfl), rfl⟩
theorem ab_cw1 : ab_yP (⟨"java/lang/Math", "min", "(II)I"⟩, prog_12_method_69_code, 2, (some (.int)), 0, 0, 328) := List.mem_filter.mpr ⟨ab_t2 (List.mem_of_getElem? (i := 80) rfl), rfl⟩
theorem ab_cw2 : ab_yP (⟨"java/lang/Integer", "bitCount", "(I)I"⟩, prog_11_method_49_code, 1, (some (.int)), 0, 0, 401) := List.mem_filter.mpr ⟨ab_t2 (List.mem_of_getElem? (i := 153) rfl), rfl⟩
theorem ab_cw3 : ab_yP (⟨"FairBooks$Names", "<init>", "()V"⟩, prog_6_method_1_code, 1, none, 2, 32, 37) := List.mem_filter.mpr ⟨ab_t1 (List.mem_of_getElem? (i := 29) rfl), rfl⟩
theorem ab_cw4 : ab_yP (⟨"FairBooks$Names", "has", "(I)Z"⟩, prog_6_method_2_code, 2, (some (.boolean)), 0, 0, 366) := List.mem_filter.mpr ⟨ab_t2 (List.mem_of_getElem? (i := 118) rfl), rfl⟩
theorem ab_cw5 : ab_yP (⟨"FairBooks$Names", "fameOf", "(I)I"⟩, prog_6_method_3_code, 2, (some (.int)), 0, 0, 259) := List.mem_filter.mpr ⟨ab_t2 (List.mem_of_getElem? (i := 11) rfl), rfl⟩
theorem ab_cw6 : ab_yP (⟨"FairBooks$Names", "themeOf", "(I)I"⟩, prog_6_method_4_code, 2, (some (.int)), 0, 0, 263) := List.mem_filter.mpr ⟨ab_t2 (List.mem_of_getElem? (i := 15) rfl), rfl⟩
theorem ab_cw7 : ab_yP (⟨"FairBooks$Names", "setOf", "(I)I"⟩, prog_6_method_5_code, 4, (some (.int)), 0, 0, 398) := List.mem_filter.mpr ⟨ab_t2 (List.mem_of_getElem? (i := 150) rfl), rfl⟩
theorem ab_cw8 : ab_yP (⟨"FairBooks$Names", "add", "(II)V"⟩, prog_6_method_6_code, 3, none, 0, 0, 267) := List.mem_filter.mpr ⟨ab_t2 (List.mem_of_getElem? (i := 19) rfl), rfl⟩
theorem ab_cw9 : ab_yP (⟨"FairBooks$Names", "copyFrom", "(LFairBooks$Names;)V"⟩, prog_6_method_7_code, 3, none, 0, 0, 255) := List.mem_filter.mpr ⟨ab_t2 (List.mem_of_getElem? (i := 7) rfl), rfl⟩
theorem ab_cw10 : ab_yP (⟨"FairBooks$Book", "<init>", "(I)V"⟩, prog_4_method_1_code, 2, none, 4, 112, 56) := List.mem_filter.mpr ⟨ab_t1 (List.mem_of_getElem? (i := 48) rfl), rfl⟩
theorem ab_cw11 : ab_yP (⟨"FairBooks$Book", "numberAt", "(I)I"⟩, prog_4_method_2_code, 2, (some (.int)), 0, 0, 287) := List.mem_filter.mpr ⟨ab_t2 (List.mem_of_getElem? (i := 39) rfl), rfl⟩
theorem ab_cw12 : ab_yP (⟨"FairBooks$Book", "kindOf", "(I)I"⟩, prog_4_method_3_code, 2, (some (.int)), 0, 0, 291) := List.mem_filter.mpr ⟨ab_t2 (List.mem_of_getElem? (i := 43) rfl), rfl⟩
theorem ab_cw13 : ab_yP (⟨"FairBooks$Book", "nameOn", "(I)I"⟩, prog_4_method_4_code, 2, (some (.int)), 0, 0, 295) := List.mem_filter.mpr ⟨ab_t2 (List.mem_of_getElem? (i := 47) rfl), rfl⟩
theorem ab_cw14 : ab_yP (⟨"FairBooks$Book", "friendOn", "(I)I"⟩, prog_4_method_5_code, 2, (some (.int)), 0, 0, 299) := List.mem_filter.mpr ⟨ab_t2 (List.mem_of_getElem? (i := 51) rfl), rfl⟩
theorem ab_cw15 : ab_yP (⟨"FairBooks$Book", "find", "(I)I"⟩, prog_4_method_6_code, 3, (some (.int)), 0, 0, 359) := List.mem_filter.mpr ⟨ab_t2 (List.mem_of_getElem? (i := 111) rfl), rfl⟩
theorem ab_cw16 : ab_yP (⟨"FairBooks$Book", "startsEntry", "(I)Z"⟩, prog_4_method_7_code, 2, (some (.boolean)), 0, 0, 381) := List.mem_filter.mpr ⟨ab_t2 (List.mem_of_getElem? (i := 133) rfl), rfl⟩
theorem ab_cw17 : ab_yP (⟨"FairBooks$Book", "countEntries", "()I"⟩, prog_4_method_8_code, 3, (some (.int)), 0, 0, 538) := List.mem_filter.mpr ⟨ab_t3 (List.mem_of_getElem? (i := 50) rfl), rfl⟩
theorem ab_cw18 : ab_yP (⟨"FairBooks$Book", "countEntriesOf", "(I)I"⟩, prog_4_method_9_code, 4, (some (.int)), 0, 0, 624) := List.mem_filter.mpr ⟨ab_t3 (List.mem_of_getElem? (i := 136) rfl), rfl⟩
theorem ab_cw19 : ab_yP (⟨"FairBooks$Book", "countDedicatedTo", "(I)I"⟩, prog_4_method_10_code, 4, (some (.int)), 0, 0, 563) := List.mem_filter.mpr ⟨ab_t3 (List.mem_of_getElem? (i := 75) rfl), rfl⟩
theorem ab_cw20 : ab_yP (⟨"FairBooks$Book", "countDedicated", "()I"⟩, prog_4_method_11_code, 1, (some (.int)), 0, 0, 558) := List.mem_filter.mpr ⟨ab_t3 (List.mem_of_getElem? (i := 70) rfl), rfl⟩
theorem ab_cw21 : ab_yP (⟨"FairBooks$Book", "nameSet", "()I"⟩, prog_4_method_12_code, 1, (some (.int)), 0, 0, 599) := List.mem_filter.mpr ⟨ab_t3 (List.mem_of_getElem? (i := 111) rfl), rfl⟩
theorem ab_cw22 : ab_yP (⟨"FairBooks$Book", "namesAhead", "(I)I"⟩, prog_4_method_13_code, 4, (some (.int)), 0, 0, 394) := List.mem_filter.mpr ⟨ab_t2 (List.mem_of_getElem? (i := 146) rfl), rfl⟩
theorem ab_cw23 : ab_yP (⟨"FairBooks$Book", "valueOn", "(ILFairBooks$Names;)I"⟩, prog_4_method_14_code, 4, (some (.int)), 0, 0, 646) := List.mem_filter.mpr ⟨ab_t3 (List.mem_of_getElem? (i := 158) rfl), rfl⟩
theorem ab_cw24 : ab_yP (⟨"FairBooks$Book", "valueBehind", "(IILFairBooks$Names;)I"⟩, prog_4_method_15_code, 7, (some (.int)), 0, 0, 385) := List.mem_filter.mpr ⟨ab_t2 (List.mem_of_getElem? (i := 137) rfl), rfl⟩
theorem ab_cw25 : ab_yP (⟨"FairBooks$Book", "sumOfValues", "(LFairBooks$Names;)I"⟩, prog_4_method_16_code, 5, (some (.int)), 0, 0, 377) := List.mem_filter.mpr ⟨ab_t2 (List.mem_of_getElem? (i := 129) rfl), rfl⟩
theorem ab_cw26 : ab_yP (⟨"FairBooks$Book", "wholeThemes", "(LFairBooks$Names;)I"⟩, prog_4_method_17_code, 6, (some (.int)), 0, 0, 390) := List.mem_filter.mpr ⟨ab_t2 (List.mem_of_getElem? (i := 142) rfl), rfl⟩
theorem ab_cw27 : ab_yP (⟨"FairBooks$Book", "worth", "(LFairBooks$Names;)I"⟩, prog_4_method_18_code, 5, (some (.int)), 0, 0, 373) := List.mem_filter.mpr ⟨ab_t2 (List.mem_of_getElem? (i := 125) rfl), rfl⟩
theorem ab_cw28 : ab_yP (⟨"FairBooks$Book", "isJoined", "(I)Z"⟩, prog_4_method_19_code, 3, (some (.boolean)), 0, 0, 424) := List.mem_filter.mpr ⟨ab_t2 (List.mem_of_getElem? (i := 176) rfl), rfl⟩
theorem ab_cw29 : ab_yP (⟨"FairBooks$Book", "startsBundle", "(I)Z"⟩, prog_4_method_20_code, 2, (some (.boolean)), 0, 0, 608) := List.mem_filter.mpr ⟨ab_t3 (List.mem_of_getElem? (i := 120) rfl), rfl⟩
theorem ab_cw30 : ab_yP (⟨"FairBooks$Book", "bundleFirst", "(I)I"⟩, prog_4_method_21_code, 3, (some (.int)), 0, 0, 428) := List.mem_filter.mpr ⟨ab_t2 (List.mem_of_getElem? (i := 180) rfl), rfl⟩
theorem ab_cw31 : ab_yP (⟨"FairBooks$Book", "bundleEnd", "(I)I"⟩, prog_4_method_22_code, 3, (some (.int)), 0, 0, 420) := List.mem_filter.mpr ⟨ab_t2 (List.mem_of_getElem? (i := 172) rfl), rfl⟩
theorem ab_cw32 : ab_yP (⟨"FairBooks$Book", "bundleSize", "(I)I"⟩, prog_4_method_23_code, 2, (some (.int)), 0, 0, 416) := List.mem_filter.mpr ⟨ab_t2 (List.mem_of_getElem? (i := 168) rfl), rfl⟩
theorem ab_cw33 : ab_yP (⟨"FairBooks$Book", "countBundles", "()I"⟩, prog_4_method_24_code, 3, (some (.int)), 0, 0, 604) := List.mem_filter.mpr ⟨ab_t3 (List.mem_of_getElem? (i := 116) rfl), rfl⟩
theorem ab_cw34 : ab_yP (⟨"FairBooks$Book", "canShift", "(II)Z"⟩, prog_4_method_25_code, 5, (some (.boolean)), 0, 0, 453) := List.mem_filter.mpr ⟨ab_t2 (List.mem_of_getElem? (i := 205) rfl), rfl⟩
theorem ab_cw35 : ab_yP (⟨"FairBooks$Book", "setEntry", "(IIII)V"⟩, prog_4_method_26_code, 5, none, 0, 0, 303) := List.mem_filter.mpr ⟨ab_t2 (List.mem_of_getElem? (i := 55) rfl), rfl⟩
theorem ab_cw36 : ab_yP (⟨"FairBooks$Book", "setFriend", "(II)V"⟩, prog_4_method_27_code, 3, none, 0, 0, 441) := List.mem_filter.mpr ⟨ab_t2 (List.mem_of_getElem? (i := 193) rfl), rfl⟩
theorem ab_cw37 : ab_yP (⟨"FairBooks$Book", "addLeaf", "(I)V"⟩, prog_4_method_28_code, 2, none, 0, 0, 343) := List.mem_filter.mpr ⟨ab_t2 (List.mem_of_getElem? (i := 95) rfl), rfl⟩
theorem ab_cw38 : ab_yP (⟨"FairBooks$Book", "addLeaves", "(LFairBooks$Book;II)V"⟩, prog_4_method_29_code, 7, none, 0, 0, 283) := List.mem_filter.mpr ⟨ab_t2 (List.mem_of_getElem? (i := 35) rfl), rfl⟩
theorem ab_cw39 : ab_yP (⟨"FairBooks$Book", "clearFor", "(I)V"⟩, prog_4_method_30_code, 2, none, 0, 0, 279) := List.mem_filter.mpr ⟨ab_t2 (List.mem_of_getElem? (i := 31) rfl), rfl⟩
theorem ab_cw40 : ab_yP (⟨"FairBooks$Book", "copyFrom", "(LFairBooks$Book;)V"⟩, prog_4_method_31_code, 2, none, 0, 0, 275) := List.mem_filter.mpr ⟨ab_t2 (List.mem_of_getElem? (i := 27) rfl), rfl⟩
theorem ab_yq0 : ∀ q ∈ ab_yl0, ab_yP q := (List.forall_mem_cons.mpr ⟨ab_cw0, (List.forall_mem_cons.mpr ⟨ab_cw1, (List.forall_mem_cons.mpr ⟨ab_cw2, (List.forall_mem_cons.mpr ⟨ab_cw3, (List.forall_mem_cons.mpr ⟨ab_cw4, (List.forall_mem_cons.mpr ⟨ab_cw5, (List.forall_mem_cons.mpr ⟨ab_cw6, (List.forall_mem_cons.mpr ⟨ab_cw7, (List.forall_mem_cons.mpr ⟨ab_cw8, (List.forall_mem_cons.mpr ⟨ab_cw9, (List.forall_mem_cons.mpr ⟨ab_cw10, (List.forall_mem_cons.mpr ⟨ab_cw11, (List.forall_mem_cons.mpr ⟨ab_cw12, (List.forall_mem_cons.mpr ⟨ab_cw13, (List.forall_mem_cons.mpr ⟨ab_cw14, (List.forall_mem_cons.mpr ⟨ab_cw15, (List.forall_mem_cons.mpr ⟨ab_cw16, (List.forall_mem_cons.mpr ⟨ab_cw17, (List.forall_mem_cons.mpr ⟨ab_cw18, (List.forall_mem_cons.mpr ⟨ab_cw19, (List.forall_mem_cons.mpr ⟨ab_cw20, (List.forall_mem_cons.mpr ⟨ab_cw21, (List.forall_mem_cons.mpr ⟨ab_cw22, (List.forall_mem_cons.mpr ⟨ab_cw23, (List.forall_mem_cons.mpr ⟨ab_cw24, (List.forall_mem_cons.mpr ⟨ab_cw25, (List.forall_mem_cons.mpr ⟨ab_cw26, (List.forall_mem_cons.mpr ⟨ab_cw27, (List.forall_mem_cons.mpr ⟨ab_cw28, (List.forall_mem_cons.mpr ⟨ab_cw29, (List.forall_mem_cons.mpr ⟨ab_cw30, (List.forall_mem_cons.mpr ⟨ab_cw31, (List.forall_mem_cons.mpr ⟨ab_cw32, (List.forall_mem_cons.mpr ⟨ab_cw33, (List.forall_mem_cons.mpr ⟨ab_cw34, (List.forall_mem_cons.mpr ⟨ab_cw35, (List.forall_mem_cons.mpr ⟨ab_cw36, (List.forall_mem_cons.mpr ⟨ab_cw37, (List.forall_mem_cons.mpr ⟨ab_cw38, (List.forall_mem_cons.mpr ⟨ab_cw39, (List.forall_mem_cons.mpr ⟨ab_cw40, (fun _ h => absurd h List.not_mem_nil)⟩)⟩)⟩)⟩)⟩)⟩)⟩)⟩)⟩)⟩)⟩)⟩)⟩)⟩)⟩)⟩)⟩)⟩)⟩)⟩)⟩)⟩)⟩)⟩)⟩)⟩)⟩)⟩)⟩)⟩)⟩)⟩)⟩)⟩)⟩)⟩)⟩)⟩)⟩)⟩)⟩)
theorem ab_cw41 : ab_yP (⟨"FairBooks$Bench", "<init>", "()V"⟩, prog_2_method_1_code, 1, none, 10, 236, 181) := List.mem_filter.mpr ⟨ab_t1 (List.mem_of_getElem? (i := 173) rfl), rfl⟩
theorem ab_cw42 : ab_yP (⟨"FairBooks$Bench", "takeOut", "(LFairBooks$Book;I)V"⟩, prog_2_method_2_code, 3, none, 0, 0, 467) := List.mem_filter.mpr ⟨ab_t2 (List.mem_of_getElem? (i := 219) rfl), rfl⟩
theorem ab_cw43 : ab_yP (⟨"FairBooks$Bench", "shift", "(LFairBooks$Book;II)V"⟩, prog_2_method_3_code, 4, none, 0, 0, 459) := List.mem_filter.mpr ⟨ab_t2 (List.mem_of_getElem? (i := 211) rfl), rfl⟩
theorem ab_cw44 : ab_yP (⟨"FairBooks$Bench", "layOut", "(LFairBooks$Book;ILFairBooks$Book;I)V"⟩, prog_2_method_4_code, 5, none, 0, 0, 483) := List.mem_filter.mpr ⟨ab_t2 (List.mem_of_getElem? (i := 235) rfl), rfl⟩
theorem ab_cw45 : ab_yP (⟨"FairBooks$Bench", "layOutFor", "(LFairBooks$Book;LFairBooks$Book;ILFairBooks$Book;I)V"⟩, prog_2_method_5_code, 6, none, 0, 0, 487) := List.mem_filter.mpr ⟨ab_t2 (List.mem_of_getElem? (i := 239) rfl), rfl⟩
theorem ab_cw46 : ab_yP (⟨"FairBooks$Bench", "fits", "()Z"⟩, prog_2_method_6_code, 1, (some (.boolean)), 0, 0, 492) := List.mem_filter.mpr ⟨ab_t3 (List.mem_of_getElem? (i := 4) rfl), rfl⟩
theorem ab_cw47 : ab_yP (⟨"FairBooks$Bench", "gainOfOne", "(LFairBooks$Names;)I"⟩, prog_2_method_7_code, 2, (some (.int)), 0, 0, 665) := List.mem_filter.mpr ⟨ab_t3 (List.mem_of_getElem? (i := 177) rfl), rfl⟩
theorem ab_cw48 : ab_yP (⟨"FairBooks$Bench", "gainOfOther", "(LFairBooks$Names;)I"⟩, prog_2_method_8_code, 2, (some (.int)), 0, 0, 670) := List.mem_filter.mpr ⟨ab_t3 (List.mem_of_getElem? (i := 182) rfl), rfl⟩
theorem ab_cw49 : ab_yP (⟨"FairBooks$Bench", "settle", "()V"⟩, prog_2_method_9_code, 1, none, 0, 0, 496) := List.mem_filter.mpr ⟨ab_t3 (List.mem_of_getElem? (i := 8) rfl), rfl⟩
theorem ab_cw50 : ab_yP (⟨"FairBooks$State", "<init>", "()V"⟩, prog_8_method_1_code, 1, none, 24, 511, 31) := List.mem_filter.mpr ⟨ab_t1 (List.mem_of_getElem? (i := 23) rfl), rfl⟩
theorem ab_cw51 : ab_yP (⟨"FairBooks$State", "copyFrom", "(LFairBooks$State;)V"⟩, prog_8_method_2_code, 3, none, 0, 0, 251) := List.mem_filter.mpr ⟨ab_t2 (List.mem_of_getElem? (i := 3) rfl), rfl⟩
theorem ab_cw52 : ab_yP (⟨"FairBooks$State", "bookOf", "(I)LFairBooks$Book;"⟩, prog_8_method_3_code, 2, (some (.object "FairBooks$Book")), 0, 0, 271) := List.mem_filter.mpr ⟨ab_t2 (List.mem_of_getElem? (i := 23) rfl), rfl⟩
theorem ab_cw53 : ab_yP (⟨"FairBooks$State", "bookWith", "(I)LFairBooks$Book;"⟩, prog_8_method_4_code, 3, (some (.object "FairBooks$Book")), 0, 0, 355) := List.mem_filter.mpr ⟨ab_t2 (List.mem_of_getElem? (i := 107) rfl), rfl⟩
theorem ab_cw54 : ab_yP (⟨"FairBooks$State", "purseOf", "(I)I"⟩, prog_8_method_5_code, 2, (some (.int)), 0, 0, 307) := List.mem_filter.mpr ⟨ab_t2 (List.mem_of_getElem? (i := 59) rfl), rfl⟩
theorem ab_cw55 : ab_yP (⟨"FairBooks$State", "setPurse", "(II)V"⟩, prog_8_method_6_code, 3, none, 0, 0, 311) := List.mem_filter.mpr ⟨ab_t2 (List.mem_of_getElem? (i := 63) rfl), rfl⟩
theorem ab_cw56 : ab_yP (⟨"FairBooks$State", "addName", "(II)I"⟩, prog_8_method_7_code, 3, (some (.int)), 0, 0, 315) := List.mem_filter.mpr ⟨ab_t2 (List.mem_of_getElem? (i := 67) rfl), rfl⟩
theorem ab_cw57 : ab_yP (⟨"FairBooks$State", "addLeaf", "(I)I"⟩, prog_8_method_8_code, 3, (some (.int)), 0, 0, 336) := List.mem_filter.mpr ⟨ab_t2 (List.mem_of_getElem? (i := 88) rfl), rfl⟩
theorem ab_cw58 : ab_yP (⟨"FairBooks$State", "addEntry", "(IIII)I"⟩, prog_8_method_9_code, 7, (some (.int)), 0, 0, 351) := List.mem_filter.mpr ⟨ab_t2 (List.mem_of_getElem? (i := 103) rfl), rfl⟩
theorem ab_cw59 : ab_yP (⟨"FairBooks$State", "addWideEntry", "(II)I"⟩, prog_8_method_10_code, 6, (some (.int)), 0, 0, 412) := List.mem_filter.mpr ⟨ab_t2 (List.mem_of_getElem? (i := 164) rfl), rfl⟩
theorem ab_cw60 : ab_yP (⟨"FairBooks$State", "setFriend", "(III)I"⟩, prog_8_method_11_code, 7, (some (.int)), 0, 0, 436) := List.mem_filter.mpr ⟨ab_t2 (List.mem_of_getElem? (i := 188) rfl), rfl⟩
theorem ab_cw61 : ab_yP (⟨"FairBooks$State", "shiftBundle", "(IILFairBooks$Bench;)I"⟩, prog_8_method_12_code, 7, (some (.int)), 0, 0, 449) := List.mem_filter.mpr ⟨ab_t2 (List.mem_of_getElem? (i := 201) rfl), rfl⟩
theorem ab_cw62 : ab_yP (⟨"FairBooks$State", "exchange", "(IIILFairBooks$Bench;)I"⟩, prog_8_method_13_code, 9, (some (.int)), 0, 0, 476) := List.mem_filter.mpr ⟨ab_t2 (List.mem_of_getElem? (i := 228) rfl), rfl⟩
theorem ab_cw63 : ab_yP (⟨"FairBooks$State", "takeOut", "(ILFairBooks$Bench;)I"⟩, prog_8_method_14_code, 5, (some (.int)), 0, 0, 504) := List.mem_filter.mpr ⟨ab_t3 (List.mem_of_getElem? (i := 16) rfl), rfl⟩
theorem ab_cw64 : ab_yP (⟨"FairBooks$State", "fillPurse", "(II)I"⟩, prog_8_method_15_code, 4, (some (.int)), 0, 0, 513) := List.mem_filter.mpr ⟨ab_t3 (List.mem_of_getElem? (i := 25) rfl), rfl⟩
theorem ab_cw65 : ab_yP (⟨"FairBooks$State", "wealth", "(I)I"⟩, prog_8_method_16_code, 2, (some (.int)), 0, 0, 546) := List.mem_filter.mpr ⟨ab_t3 (List.mem_of_getElem? (i := 58) rfl), rfl⟩
theorem ab_cw66 : ab_yP (⟨"FairBooks$State", "richest", "()I"⟩, prog_8_method_17_code, 3, (some (.int)), 0, 0, 542) := List.mem_filter.mpr ⟨ab_t3 (List.mem_of_getElem? (i := 54) rfl), rfl⟩
theorem ab_cw67 : ab_yP (⟨"FairBooks$State", "sumOfWorths", "()I"⟩, prog_8_method_18_code, 3, (some (.int)), 0, 0, 550) := List.mem_filter.mpr ⟨ab_t3 (List.mem_of_getElem? (i := 62) rfl), rfl⟩
theorem ab_cw68 : ab_yP (⟨"FairBooks$State", "countLeaves", "()I"⟩, prog_8_method_19_code, 1, (some (.int)), 0, 0, 530) := List.mem_filter.mpr ⟨ab_t3 (List.mem_of_getElem? (i := 42) rfl), rfl⟩
theorem ab_cw69 : ab_yP (⟨"FairBooks$State", "countEntries", "()I"⟩, prog_8_method_20_code, 3, (some (.int)), 0, 0, 534) := List.mem_filter.mpr ⟨ab_t3 (List.mem_of_getElem? (i := 46) rfl), rfl⟩
theorem ab_cw70 : ab_yP (⟨"FairBooks$State", "countDedicated", "()I"⟩, prog_8_method_21_code, 3, (some (.int)), 0, 0, 554) := List.mem_filter.mpr ⟨ab_t3 (List.mem_of_getElem? (i := 66) rfl), rfl⟩
theorem ab_cw71 : ab_yP (⟨"FairBooks$State", "countEntriesOf", "(I)I"⟩, prog_8_method_22_code, 4, (some (.int)), 0, 0, 620) := List.mem_filter.mpr ⟨ab_t3 (List.mem_of_getElem? (i := 132) rfl), rfl⟩
theorem ab_cw72 : ab_yP (⟨"FairBooks$State", "ownersOf", "(I)I"⟩, prog_8_method_23_code, 4, (some (.int)), 0, 0, 628) := List.mem_filter.mpr ⟨ab_t3 (List.mem_of_getElem? (i := 140) rfl), rfl⟩
theorem ab_cw73 : ab_yP (⟨"FairBooks$BestTrade", "<init>", "()V"⟩, prog_3_method_1_code, 1, none, 0, 0, 206) := List.mem_filter.mpr ⟨ab_t1 (List.mem_of_getElem? (i := 198) rfl), rfl⟩
theorem ab_cw74 : ab_yP (⟨"FairBooks$BestTrade", "search", "(LFairBooks$State;ILFairBooks$Bench;)V"⟩, prog_3_method_2_code, 7, none, 0, 0, 687) := List.mem_filter.mpr ⟨ab_t3 (List.mem_of_getElem? (i := 199) rfl), rfl⟩
theorem ab_cw75 : ab_yP (⟨"FairBooks$BestTrade", "searchBook", "(LFairBooks$Names;LFairBooks$Book;ILFairBooks$Book;LFairBooks$Bench;)V"⟩, prog_3_method_3_code, 8, none, 0, 0, 693) := List.mem_filter.mpr ⟨ab_t3 (List.mem_of_getElem? (i := 205) rfl), rfl⟩
theorem ab_cw76 : ab_yP (⟨"FairBooks$History", "<init>", "()V"⟩, prog_5_method_1_code, 1, none, 125, 2595, 117) := List.mem_filter.mpr ⟨ab_t1 (List.mem_of_getElem? (i := 109) rfl), rfl⟩
theorem ab_cw77 : ab_yP (⟨"FairBooks$History", "prepare", "(LFairBooks$State;)V"⟩, prog_5_method_2_code, 2, none, 0, 0, 247) := List.mem_filter.mpr ⟨ab_t1 (List.mem_of_getElem? (i := 239) rfl), rfl⟩
theorem ab_cw78 : ab_yP (⟨"FairBooks$History", "keep", "(I)I"⟩, prog_5_method_3_code, 3, (some (.int)), 0, 0, 325) := List.mem_filter.mpr ⟨ab_t2 (List.mem_of_getElem? (i := 77) rfl), rfl⟩
theorem ab_cw79 : ab_yP (⟨"FairBooks$History", "restore", "(LFairBooks$State;)V"⟩, prog_5_method_4_code, 3, none, 0, 0, 572) := List.mem_filter.mpr ⟨ab_t3 (List.mem_of_getElem? (i := 84) rfl), rfl⟩
theorem ab_cw80 : ab_yP (⟨"FairBooks$Orders", "<init>", "()V"⟩, prog_7_method_1_code, 1, none, 2, 64, 145) := List.mem_filter.mpr ⟨ab_t1 (List.mem_of_getElem? (i := 137) rfl), rfl⟩
theorem ab_cw81 : ab_yP (⟨"FairBooks$Orders", "append", "(I)V"⟩, prog_7_method_2_code, 2, none, 0, 0, 723) := List.mem_filter.mpr ⟨ab_t3 (List.mem_of_getElem? (i := 235) rfl), rfl⟩
theorem ab_yq1 : ∀ q ∈ ab_yl1, ab_yP q := (List.forall_mem_cons.mpr ⟨ab_cw41, (List.forall_mem_cons.mpr ⟨ab_cw42, (List.forall_mem_cons.mpr ⟨ab_cw43, (List.forall_mem_cons.mpr ⟨ab_cw44, (List.forall_mem_cons.mpr ⟨ab_cw45, (List.forall_mem_cons.mpr ⟨ab_cw46, (List.forall_mem_cons.mpr ⟨ab_cw47, (List.forall_mem_cons.mpr ⟨ab_cw48, (List.forall_mem_cons.mpr ⟨ab_cw49, (List.forall_mem_cons.mpr ⟨ab_cw50, (List.forall_mem_cons.mpr ⟨ab_cw51, (List.forall_mem_cons.mpr ⟨ab_cw52, (List.forall_mem_cons.mpr ⟨ab_cw53, (List.forall_mem_cons.mpr ⟨ab_cw54, (List.forall_mem_cons.mpr ⟨ab_cw55, (List.forall_mem_cons.mpr ⟨ab_cw56, (List.forall_mem_cons.mpr ⟨ab_cw57, (List.forall_mem_cons.mpr ⟨ab_cw58, (List.forall_mem_cons.mpr ⟨ab_cw59, (List.forall_mem_cons.mpr ⟨ab_cw60, (List.forall_mem_cons.mpr ⟨ab_cw61, (List.forall_mem_cons.mpr ⟨ab_cw62, (List.forall_mem_cons.mpr ⟨ab_cw63, (List.forall_mem_cons.mpr ⟨ab_cw64, (List.forall_mem_cons.mpr ⟨ab_cw65, (List.forall_mem_cons.mpr ⟨ab_cw66, (List.forall_mem_cons.mpr ⟨ab_cw67, (List.forall_mem_cons.mpr ⟨ab_cw68, (List.forall_mem_cons.mpr ⟨ab_cw69, (List.forall_mem_cons.mpr ⟨ab_cw70, (List.forall_mem_cons.mpr ⟨ab_cw71, (List.forall_mem_cons.mpr ⟨ab_cw72, (List.forall_mem_cons.mpr ⟨ab_cw73, (List.forall_mem_cons.mpr ⟨ab_cw74, (List.forall_mem_cons.mpr ⟨ab_cw75, (List.forall_mem_cons.mpr ⟨ab_cw76, (List.forall_mem_cons.mpr ⟨ab_cw77, (List.forall_mem_cons.mpr ⟨ab_cw78, (List.forall_mem_cons.mpr ⟨ab_cw79, (List.forall_mem_cons.mpr ⟨ab_cw80, (List.forall_mem_cons.mpr ⟨ab_cw81, (fun _ h => absurd h List.not_mem_nil)⟩)⟩)⟩)⟩)⟩)⟩)⟩)⟩)⟩)⟩)⟩)⟩)⟩)⟩)⟩)⟩)⟩)⟩)⟩)⟩)⟩)⟩)⟩)⟩)⟩)⟩)⟩)⟩)⟩)⟩)⟩)⟩)⟩)⟩)⟩)⟩)⟩)⟩)⟩)⟩)⟩)
theorem ab_cw82 : ab_yP (⟨"FairBooks$Orders", "run", "(LFairBooks$State;LFairBooks$State;LFairBooks$Bench;)V"⟩, prog_7_method_3_code, 6, none, 0, 0, 731) := List.mem_filter.mpr ⟨ab_t4 (List.mem_of_getElem? (i := 3) rfl), rfl⟩
theorem ab_cw83 : ab_yP (⟨"FairBooks$Orders", "characterAt", "(I)I"⟩, prog_7_method_4_code, 2, (some (.int)), 0, 0, 740) := List.mem_filter.mpr ⟨ab_t4 (List.mem_of_getElem? (i := 12) rfl), rfl⟩
theorem ab_cw84 : ab_yP (⟨"FairBooks$Orders", "readOrder", "()Z"⟩, prog_7_method_5_code, 3, (some (.boolean)), 0, 0, 736) := List.mem_filter.mpr ⟨ab_t4 (List.mem_of_getElem? (i := 8) rfl), rfl⟩
theorem ab_cw85 : ab_yP (⟨"FairBooks$Orders", "skip", "(C)Z"⟩, prog_7_method_6_code, 2, (some (.boolean)), 0, 0, 747) := List.mem_filter.mpr ⟨ab_t4 (List.mem_of_getElem? (i := 19) rfl), rfl⟩
theorem ab_cw86 : ab_yP (⟨"FairBooks$Orders", "readNumber", "(I)V"⟩, prog_7_method_7_code, 3, none, 0, 0, 754) := List.mem_filter.mpr ⟨ab_t4 (List.mem_of_getElem? (i := 26) rfl), rfl⟩
theorem ab_cw87 : ab_yP (⟨"FairBooks$Orders", "number", "(I)I"⟩, prog_7_method_8_code, 2, (some (.int)), 0, 0, 762) := List.mem_filter.mpr ⟨ab_t4 (List.mem_of_getElem? (i := 34) rfl), rfl⟩
theorem ab_cw88 : ab_yP (⟨"FairBooks$Orders", "doOrder", "(LFairBooks$State;LFairBooks$Bench;)I"⟩, prog_7_method_9_code, 3, (some (.int)), 0, 0, 758) := List.mem_filter.mpr ⟨ab_t4 (List.mem_of_getElem? (i := 30) rfl), rfl⟩
theorem ab_cw89 : ab_yP (⟨"FairBooks$Orders", "howManyNumbers", "(I)I"⟩, prog_7_method_10_code, 1, (some (.int)), 0, 0, 743) := List.mem_filter.mpr ⟨ab_t4 (List.mem_of_getElem? (i := 15) rfl), rfl⟩
theorem ab_cw90 : ab_yP (⟨"FairBooks$Orders", "isDigit", "(I)Z"⟩, prog_7_method_11_code, 1, (some (.boolean)), 0, 0, 750) := List.mem_filter.mpr ⟨ab_t4 (List.mem_of_getElem? (i := 22) rfl), rfl⟩
theorem ab_cw91 : ab_yP (⟨"FairBooks", "<init>", "()V"⟩, prog_1_method_1_code, 1, none, 191, 3955, 23) := List.mem_filter.mpr ⟨ab_t1 (List.mem_of_getElem? (i := 15) rfl), rfl⟩
theorem ab_cw92 : ab_yP (⟨"FairBooks", "name", "(II)I"⟩, prog_1_method_2_code, 3, (some (.int)), 0, 0, 243) := List.mem_filter.mpr ⟨ab_t1 (List.mem_of_getElem? (i := 235) rfl), rfl⟩
theorem ab_cw93 : ab_yP (⟨"FairBooks", "leaf", "(I)I"⟩, prog_1_method_3_code, 2, (some (.int)), 0, 0, 332) := List.mem_filter.mpr ⟨ab_t2 (List.mem_of_getElem? (i := 84) rfl), rfl⟩
theorem ab_cw94 : ab_yP (⟨"FairBooks", "sign", "(III)I"⟩, prog_1_method_4_code, 4, (some (.int)), 0, 0, 347) := List.mem_filter.mpr ⟨ab_t2 (List.mem_of_getElem? (i := 99) rfl), rfl⟩
theorem ab_cw95 : ab_yP (⟨"FairBooks", "over", "(II)I"⟩, prog_1_method_5_code, 3, (some (.int)), 0, 0, 408) := List.mem_filter.mpr ⟨ab_t2 (List.mem_of_getElem? (i := 160) rfl), rfl⟩
theorem ab_cw96 : ab_yP (⟨"FairBooks", "dedicate", "(III)I"⟩, prog_1_method_6_code, 4, (some (.int)), 0, 0, 432) := List.mem_filter.mpr ⟨ab_t2 (List.mem_of_getElem? (i := 184) rfl), rfl⟩
theorem ab_cw97 : ab_yP (⟨"FairBooks", "move", "(II)I"⟩, prog_1_method_7_code, 3, (some (.int)), 0, 0, 445) := List.mem_filter.mpr ⟨ab_t2 (List.mem_of_getElem? (i := 197) rfl), rfl⟩
theorem ab_cw98 : ab_yP (⟨"FairBooks", "trade", "(III)I"⟩, prog_1_method_8_code, 4, (some (.int)), 0, 0, 472) := List.mem_filter.mpr ⟨ab_t2 (List.mem_of_getElem? (i := 224) rfl), rfl⟩
theorem ab_cw99 : ab_yP (⟨"FairBooks", "tear", "(I)I"⟩, prog_1_method_9_code, 2, (some (.int)), 0, 0, 500) := List.mem_filter.mpr ⟨ab_t3 (List.mem_of_getElem? (i := 12) rfl), rfl⟩
theorem ab_cw100 : ab_yP (⟨"FairBooks", "coins", "(II)I"⟩, prog_1_method_10_code, 3, (some (.int)), 0, 0, 509) := List.mem_filter.mpr ⟨ab_t3 (List.mem_of_getElem? (i := 21) rfl), rfl⟩
theorem ab_cw101 : ab_yP (⟨"FairBooks", "pageOf", "(III)I"⟩, prog_1_method_11_code, 6, (some (.int)), 0, 0, 638) := List.mem_filter.mpr ⟨ab_t3 (List.mem_of_getElem? (i := 150) rfl), rfl⟩
theorem ab_cw102 : ab_yP (⟨"FairBooks", "leafOf", "(II)I"⟩, prog_1_method_12_code, 5, (some (.int)), 0, 0, 517) := List.mem_filter.mpr ⟨ab_t3 (List.mem_of_getElem? (i := 29) rfl), rfl⟩
theorem ab_cw103 : ab_yP (⟨"FairBooks", "at", "(II)I"⟩, prog_1_method_13_code, 4, (some (.int)), 0, 0, 632) := List.mem_filter.mpr ⟨ab_t3 (List.mem_of_getElem? (i := 144) rfl), rfl⟩
theorem ab_cw104 : ab_yP (⟨"FairBooks", "collectorOf", "(II)I"⟩, prog_1_method_14_code, 4, (some (.int)), 0, 0, 589) := List.mem_filter.mpr ⟨ab_t3 (List.mem_of_getElem? (i := 101) rfl), rfl⟩
theorem ab_cw105 : ab_yP (⟨"FairBooks", "nameOf", "(II)I"⟩, prog_1_method_15_code, 3, (some (.int)), 0, 0, 613) := List.mem_filter.mpr ⟨ab_t3 (List.mem_of_getElem? (i := 125) rfl), rfl⟩
theorem ab_cw106 : ab_yP (⟨"FairBooks", "gain", "(IIII)I"⟩, prog_1_method_16_code, 8, (some (.int)), 0, 0, 659) := List.mem_filter.mpr ⟨ab_t3 (List.mem_of_getElem? (i := 171) rfl), rfl⟩
theorem ab_cw107 : ab_yP (⟨"FairBooks", "fair", "(II)I"⟩, prog_1_method_17_code, 7, (some (.int)), 0, 0, 675) := List.mem_filter.mpr ⟨ab_t3 (List.mem_of_getElem? (i := 187) rfl), rfl⟩
theorem ab_cw108 : ab_yP (⟨"FairBooks", "best", "(II)I"⟩, prog_1_method_18_code, 3, (some (.int)), 0, 0, 683) := List.mem_filter.mpr ⟨ab_t3 (List.mem_of_getElem? (i := 195) rfl), rfl⟩
theorem ab_cw109 : ab_yP (⟨"FairBooks", "missing", "(II)I"⟩, prog_1_method_19_code, 3, (some (.int)), 0, 0, 702) := List.mem_filter.mpr ⟨ab_t3 (List.mem_of_getElem? (i := 214) rfl), rfl⟩
theorem ab_cw110 : ab_yP (⟨"FairBooks", "mean", "(I)I"⟩, prog_1_method_20_code, 4, (some (.int)), 0, 0, 708) := List.mem_filter.mpr ⟨ab_t3 (List.mem_of_getElem? (i := 220) rfl), rfl⟩
theorem ab_cw111 : ab_yP (⟨"FairBooks", "count", "(I)I"⟩, prog_1_method_21_code, 2, (some (.int)), 0, 0, 526) := List.mem_filter.mpr ⟨ab_t3 (List.mem_of_getElem? (i := 38) rfl), rfl⟩
theorem ab_cw112 : ab_yP (⟨"FairBooks", "undo", "()I"⟩, prog_1_method_22_code, 1, (some (.int)), 0, 0, 567) := List.mem_filter.mpr ⟨ab_t3 (List.mem_of_getElem? (i := 79) rfl), rfl⟩
theorem ab_cw113 : ab_yP (⟨"FairBooks", "type", "(I)I"⟩, prog_1_method_23_code, 2, (some (.int)), 0, 0, 718) := List.mem_filter.mpr ⟨ab_t3 (List.mem_of_getElem? (i := 230) rfl), rfl⟩
theorem ab_cw114 : ab_yP (⟨"FairBooks", "clearText", "()I"⟩, prog_1_method_24_code, 2, (some (.int)), 0, 0, 815) := List.mem_filter.mpr ⟨ab_t4 (List.mem_of_getElem? (i := 87) rfl), rfl⟩
theorem ab_cw115 : ab_yP (⟨"FairBooks", "fault", "(I)I"⟩, prog_1_method_25_code, 2, (some (.int)), 0, 0, 727) := List.mem_filter.mpr ⟨ab_t3 (List.mem_of_getElem? (i := 239) rfl), rfl⟩
theorem ab_cw116 : ab_yP (⟨"FairBooks", "play", "()I"⟩, prog_1_method_26_code, 1, (some (.int)), 0, 0, 793) := List.mem_filter.mpr ⟨ab_t4 (List.mem_of_getElem? (i := 65) rfl), rfl⟩
theorem ab_cw117 : ab_yP (⟨"FairBooks", "isCollector", "(I)Z"⟩, prog_1_method_27_code, 1, (some (.boolean)), 0, 0, 339) := List.mem_filter.mpr ⟨ab_t2 (List.mem_of_getElem? (i := 91) rfl), rfl⟩
theorem ab_cw118 : ab_yP (⟨"FairBooks", "isTheme", "(I)Z"⟩, prog_1_method_28_code, 1, (some (.boolean)), 0, 0, 318) := List.mem_filter.mpr ⟨ab_t2 (List.mem_of_getElem? (i := 70) rfl), rfl⟩
theorem ab_cw119 : ab_yP (⟨"FairBooks", "isSide", "(I)Z"⟩, prog_1_method_29_code, 1, (some (.boolean)), 0, 0, 362) := List.mem_filter.mpr ⟨ab_t2 (List.mem_of_getElem? (i := 114) rfl), rfl⟩
theorem ab_cw120 : ab_yP (⟨"FairBooks", "arePaid", "(I)Z"⟩, prog_1_method_30_code, 1, (some (.boolean)), 0, 0, 479) := List.mem_filter.mpr ⟨ab_t2 (List.mem_of_getElem? (i := 231) rfl), rfl⟩
theorem ab_cw121 : ab_yP (⟨"FairBooks", "bitsOf", "(F)I"⟩, prog_1_method_31_code, 4, (some (.int)), 0, 0, 712) := List.mem_filter.mpr ⟨ab_t3 (List.mem_of_getElem? (i := 224) rfl), rfl⟩
theorem ab_cw122 : ab_yP (⟨"FairBooksLaw", "part", "(II)I"⟩, method_2_code, 2, (some (.int)), 0, 0, 575) := List.mem_filter.mpr ⟨ab_t3 (List.mem_of_getElem? (i := 87) rfl), rfl⟩
theorem ab_yq2 : ∀ q ∈ ab_yl2, ab_yP q := (List.forall_mem_cons.mpr ⟨ab_cw82, (List.forall_mem_cons.mpr ⟨ab_cw83, (List.forall_mem_cons.mpr ⟨ab_cw84, (List.forall_mem_cons.mpr ⟨ab_cw85, (List.forall_mem_cons.mpr ⟨ab_cw86, (List.forall_mem_cons.mpr ⟨ab_cw87, (List.forall_mem_cons.mpr ⟨ab_cw88, (List.forall_mem_cons.mpr ⟨ab_cw89, (List.forall_mem_cons.mpr ⟨ab_cw90, (List.forall_mem_cons.mpr ⟨ab_cw91, (List.forall_mem_cons.mpr ⟨ab_cw92, (List.forall_mem_cons.mpr ⟨ab_cw93, (List.forall_mem_cons.mpr ⟨ab_cw94, (List.forall_mem_cons.mpr ⟨ab_cw95, (List.forall_mem_cons.mpr ⟨ab_cw96, (List.forall_mem_cons.mpr ⟨ab_cw97, (List.forall_mem_cons.mpr ⟨ab_cw98, (List.forall_mem_cons.mpr ⟨ab_cw99, (List.forall_mem_cons.mpr ⟨ab_cw100, (List.forall_mem_cons.mpr ⟨ab_cw101, (List.forall_mem_cons.mpr ⟨ab_cw102, (List.forall_mem_cons.mpr ⟨ab_cw103, (List.forall_mem_cons.mpr ⟨ab_cw104, (List.forall_mem_cons.mpr ⟨ab_cw105, (List.forall_mem_cons.mpr ⟨ab_cw106, (List.forall_mem_cons.mpr ⟨ab_cw107, (List.forall_mem_cons.mpr ⟨ab_cw108, (List.forall_mem_cons.mpr ⟨ab_cw109, (List.forall_mem_cons.mpr ⟨ab_cw110, (List.forall_mem_cons.mpr ⟨ab_cw111, (List.forall_mem_cons.mpr ⟨ab_cw112, (List.forall_mem_cons.mpr ⟨ab_cw113, (List.forall_mem_cons.mpr ⟨ab_cw114, (List.forall_mem_cons.mpr ⟨ab_cw115, (List.forall_mem_cons.mpr ⟨ab_cw116, (List.forall_mem_cons.mpr ⟨ab_cw117, (List.forall_mem_cons.mpr ⟨ab_cw118, (List.forall_mem_cons.mpr ⟨ab_cw119, (List.forall_mem_cons.mpr ⟨ab_cw120, (List.forall_mem_cons.mpr ⟨ab_cw121, (List.forall_mem_cons.mpr ⟨ab_cw122, (fun _ h => absurd h List.not_mem_nil)⟩)⟩)⟩)⟩)⟩)⟩)⟩)⟩)⟩)⟩)⟩)⟩)⟩)⟩)⟩)⟩)⟩)⟩)⟩)⟩)⟩)⟩)⟩)⟩)⟩)⟩)⟩)⟩)⟩)⟩)⟩)⟩)⟩)⟩)⟩)⟩)⟩)⟩)⟩)⟩)⟩)
theorem ab_cw123 : ab_yP (⟨"FairBooksLaw", "drawn", "([II)I"⟩, method_3_code, 2, (some (.int)), 0, 0, 579) := List.mem_filter.mpr ⟨ab_t3 (List.mem_of_getElem? (i := 91) rfl), rfl⟩
theorem ab_cw124 : ab_yP (⟨"FairBooksLaw", "seen", "(LFairBooks;)J"⟩, method_4_code, 6, (some (.long)), 0, 0, 583) := List.mem_filter.mpr ⟨ab_t3 (List.mem_of_getElem? (i := 95) rfl), rfl⟩
theorem ab_cw125 : ab_yP (⟨"FairBooksLaw", "refusesAny", "(LFairBooks;I)Z"⟩, method_5_code, 7, (some (.boolean)), 0, 0, 652) := List.mem_filter.mpr ⟨ab_t3 (List.mem_of_getElem? (i := 164) rfl), rfl⟩
theorem ab_cw126 : ab_yP (⟨"FairBooksLaw", "refused", "(LFairBooks;)Z"⟩, method_6_code, 4, (some (.boolean)), 0, 0, 649) := List.mem_filter.mpr ⟨ab_t3 (List.mem_of_getElem? (i := 161) rfl), rfl⟩
theorem ab_cw127 : ab_yP (⟨"FairBooksLaw", "books", "()Z"⟩, method_7_code, 2, (some (.boolean)), 192, 3961, 771) := List.mem_filter.mpr ⟨ab_t4 (List.mem_of_getElem? (i := 43) rfl), rfl⟩
theorem ab_cw128 : ab_yP (⟨"FairBooksLaw", "types", "(LFairBooks;J)Z"⟩, method_8_code, 6, (some (.boolean)), 0, 0, 788) := List.mem_filter.mpr ⟨ab_t4 (List.mem_of_getElem? (i := 60) rfl), rfl⟩
theorem ab_cw129 : ab_yP (⟨"FairBooksLaw", "isFault", "(JJIII)Z"⟩, method_9_code, 8, (some (.boolean)), 192, 3961, 785) := List.mem_filter.mpr ⟨ab_t4 (List.mem_of_getElem? (i := 57) rfl), rfl⟩
theorem ab_cw130 : ab_yP (⟨"FairBooksLaw", "texts", "()Z"⟩, method_10_code, 2, (some (.boolean)), 2880, 59415, 781) := List.mem_filter.mpr ⟨ab_t4 (List.mem_of_getElem? (i := 53) rfl), rfl⟩
theorem ab_yq3 : ∀ q ∈ ab_yl3, ab_yP q := (List.forall_mem_cons.mpr ⟨ab_cw123, (List.forall_mem_cons.mpr ⟨ab_cw124, (List.forall_mem_cons.mpr ⟨ab_cw125, (List.forall_mem_cons.mpr ⟨ab_cw126, (List.forall_mem_cons.mpr ⟨ab_cw127, (List.forall_mem_cons.mpr ⟨ab_cw128, (List.forall_mem_cons.mpr ⟨ab_cw129, (List.forall_mem_cons.mpr ⟨ab_cw130, (fun _ h => absurd h List.not_mem_nil)⟩)⟩)⟩)⟩)⟩)⟩)⟩)⟩)
theorem ab_yq : ∀ q ∈ ab_yl, ab_yP q := by
  intro q hq
  simp only [ab_yl, List.mem_append] at hq
  rcases hq with ((hq | hq) | hq) | hq
  · exact ab_yq0 q hq
  · exact ab_yq1 q hq
  · exact ab_yq2 q hq
  · exact ab_yq3 q hq
/-- the slots that hold longs, a method -/
def ab_lo (y : Nat) : List Nat := match y with
  | 124 => [1]
  | 126 => [1]
  | 128 => [1]
  | 129 => [0, 2]
  | _ => []
end
section
/-! ===== THE ABSTRACT MACHINE: a heap of 192 cells at fixed numbers, and some cells more behind them; a weakest precondition of bytecode over it ===== -/
abbrev ab_H : Type := (Nat → Nat → Int32) × (Nat → Nat → Nat)
def ab_nul : Nat := 1000000
def ab_em (base : Nat) (v : Value) : Value := match v with
  | .ref k => .ref (base + k)
  | v => v
def ab_fv (base : Nat) (h : ab_H) (k ci f : Nat) : Value := if ab_fk ci f = 1 then (if h.2 k f = ab_nul then .null else .ref (base + h.2 k f)) else .int (h.1 k f)
def ab_ob (base : Nat) (h : ab_H) (k ci : Nat) : List Value := (List.range (ab_nf ci)).map (ab_fv base h k ci)
def ab_ce (cA : ClassId) (base : Nat) (h : ab_H) (k : Nat) : va_E := if 100 ≤ ab_sh k then .inl (cA, ab_sh k - 100, .inl (h.1 k)) else .inr (ab_sh k, ab_ob base h k (ab_sh k))
theorem ab_shl_len : ab_shl.length = 192 := by decide +kernel
theorem ab_sh_lt {b : Nat} (h : ab_sh b ≠ 9999) : b < 192 := by
  rcases Nat.lt_or_ge b 192 with g | g
  · exact g
  · exact absurd (by unfold ab_sh; rw [List.getD_eq_getElem?_getD, List.getElem?_eq_none (by rw [ab_shl_len]; exact g)]; rfl) h
/-- the cells 0 to n - 1 of the world, and x cells behind them of which nothing is said -/
def ab_Wd (D : va_G) (cA : ClassId) (base n x : Nat) (h : ab_H) (H : Heap) : Prop := (n ≤ 192 ∧ H.size = base + n + x) ∧ ∀ k, k < n → va_at D vwCl (base + k, ab_ce cA base h k) H
/-- the addresses of a world -/
def ab_A (base : Nat) : Nat → Prop := fun q => base ≤ q ∧ q < base + 192
-- words
def ab_isN (w : Jvm.Cond) : Bool := match w with
  | .fieldLinkNest _ _ _ _ _ _ => true
  | .methodLinkNest _ _ _ _ => true
  | _ => false
def ab_nw : List Jvm.Cond := lw_tbl.filter ab_isN
def ab_w (pos : Nat) (w : Jvm.Cond) : Bool := decide (lw_tbl[pos]? = some w) && goodWord w
def ab_wn (pos : Nat) (w : Jvm.Cond) : Bool := decide (lw_tbl[pos]? = some w) && ab_isN w
theorem ab_w_in {pos : Nat} {w : Jvm.Cond} (h : ab_w pos w = true) : w ∈ ab_Tg := by
  simp only [ab_w, Bool.and_eq_true, decide_eq_true_eq] at h
  exact List.mem_filter.mpr ⟨List.mem_of_getElem? h.1, h.2⟩
theorem ab_wn_in {pos : Nat} {w : Jvm.Cond} (h : ab_wn pos w = true) : w ∈ ab_nw := by
  simp only [ab_wn, Bool.and_eq_true, decide_eq_true_eq] at h
  exact List.mem_filter.mpr ⟨List.mem_of_getElem? h.1, h.2⟩
theorem ab_nw_tab {w : Jvm.Cond} (hw : w ∈ ab_nw) : w.onTables = true := by
  have h := (List.mem_filter.mp hw).2
  cases w <;> first | rfl | cases h
theorem ab_nw_warm {s U : State} (hW : s.WarmedH U.vm) {w : Jvm.Cond} (hw : w ∈ ab_nw) (hZ : va_Nw w s) : va_Nw w U := by
  have h := (List.mem_filter.mp hw).2
  cases w <;> first | exact va_Nw.warmF hW hZ | exact va_Nw.warmM hW hZ | cases h
theorem ab_good {c : Jvm.Cond} (hc : c ∈ ab_Tg) : GoodIn ab_Tg (c :: ab_Tg) := by
  intro w hw
  have h1 : w ∈ ab_Tg := by
    rcases List.mem_cons.mp hw with rfl | h
    · exact hc
    · exact h
  exact ⟨h1, good_of_word (List.mem_filter.mp h1).2⟩
-- locals
def ab_lg : List (Option Value) → Nat → Option Value
  | [], _ => none
  | v :: _, 0 => v
  | _ :: t, n + 1 => ab_lg t n
def ab_ls : List (Option Value) → Nat → Value → List (Option Value)
  | [], _, _ => []
  | _ :: t, 0, v => some v :: t
  | a :: t, n + 1, v => a :: ab_ls t n v
def ab_lp (base : Nat) : List (Option Value) → Nat → List (Nat × Value)
  | [], _ => []
  | some v :: t, i => (i, ab_em base v) :: ab_lp base t (i + 1)
  | none :: t, i => ab_lp base t (i + 1)
def ab_c1 (ls : List (Option Value)) : Prop := ∀ i v, ab_lg ls i = some v → v.category = 1
def ab_Lv (base : Nat) (lo : List Nat) (lsr : Array Slot) (nL : Nat) (ls : List (Option Value)) : Prop := lsr.size = nL ∧ lv_wf lsr ∧ ∀ i v, ab_lg ls i = some v → (v.category = 1 ∨ i ∈ lo) ∧ lsr[i]? = some (.val (ab_em base v))
def ab_ln : List (Option Value) → Nat → List (Option Value)
  | [], _ => []
  | _ :: t, 0 => none :: t
  | a :: t, n + 1 => a :: ab_ln t n
theorem ab_em_cat {base : Nat} {v : Value} : (ab_em base v).category = v.category := by cases v <;> rfl
theorem ab_lp_mem {base : Nat} : ∀ {ls : List (Option Value)} {i j : Nat} {w : Value}, (j, w) ∈ ab_lp base ls i ↔ ∃ v, i ≤ j ∧ ab_lg ls (j - i) = some v ∧ w = ab_em base v
  | [], i, j, w => by simp [ab_lp, ab_lg]
  | none :: t, i, j, w => by
    rw [ab_lp, ab_lp_mem]
    constructor
    · rintro ⟨v, h1, h2, h3⟩
      refine ⟨v, by omega, ?_, h3⟩
      rw [show j - i = (j - (i + 1)) + 1 by omega]; exact h2
    · rintro ⟨v, h1, h2, h3⟩
      rcases Nat.eq_or_lt_of_le h1 with rfl | h
      · rw [Nat.sub_self] at h2; cases h2
      · refine ⟨v, h, ?_, h3⟩
        rw [show j - i = (j - (i + 1)) + 1 by omega] at h2; exact h2
  | some x :: t, i, j, w => by
    rw [ab_lp, List.mem_cons, ab_lp_mem]
    constructor
    · rintro (h | ⟨v, h1, h2, h3⟩)
      · cases h
        exact ⟨x, Nat.le_refl _, by rw [Nat.sub_self]; rfl, rfl⟩
      · refine ⟨v, by omega, ?_, h3⟩
        rw [show j - i = (j - (i + 1)) + 1 by omega]; exact h2
    · rintro ⟨v, h1, h2, h3⟩
      rcases Nat.eq_or_lt_of_le h1 with rfl | h
      · rw [Nat.sub_self] at h2
        cases h2
        exact Or.inl (by rw [h3])
      · refine Or.inr ⟨v, h, ?_, h3⟩
        rw [show j - i = (j - (i + 1)) + 1 by omega] at h2; exact h2
theorem ab_Lv.has {base : Nat} {lo : List Nat} {lsr : Array Slot} {nL : Nat} {ls : List (Option Value)} (h : ab_Lv base lo lsr nL ls) : lv_has lsr nL (ab_lp base ls 0) := by
  refine ⟨h.1, h.2.1, fun q hq => ?_⟩
  obtain ⟨v, -, h2, h3⟩ := (ab_lp_mem (j := q.1) (w := q.2)).mp hq
  rw [h3]
  exact (h.2.2 _ _ h2).2
theorem ab_lg_ls : ∀ {ls : List (Option Value)} {i j : Nat} {v w : Value}, ab_lg (ab_ls ls i v) j = some w → (j = i ∧ w = v) ∨ (j ≠ i ∧ ab_lg ls j = some w)
  | [], i, j, v, w, h => by simp [ab_ls, ab_lg] at h
  | a :: t, 0, 0, v, w, h => by simp [ab_ls, ab_lg] at h; exact Or.inl ⟨rfl, h.symm⟩
  | a :: t, 0, j + 1, v, w, h => Or.inr ⟨by omega, h⟩
  | a :: t, i + 1, 0, v, w, h => Or.inr ⟨by omega, h⟩
  | a :: t, i + 1, j + 1, v, w, h => by
    rcases ab_lg_ls (ls := t) (i := i) (j := j) h with ⟨h1, h2⟩ | ⟨h1, h2⟩
    · exact Or.inl ⟨by omega, h2⟩
    · exact Or.inr ⟨by omega, h2⟩
theorem ab_Lv.set {base : Nat} {lo : List Nat} {lsr lsr' : Array Slot} {nL i : Nat} {ls : List (Option Value)} {v : Value} (h : ab_Lv base lo lsr nL ls) (hc : v.category = 1) (hn : ∀ j, j + 1 = i → j ∉ lo)
    (h' : lv_has lsr' nL ((i, ab_em base v) :: (ab_lp base ls 0).filter (fun q => !(q.1 == i) && !(q.1 + 1 == i && q.2.category == 2)))) : ab_Lv base lo lsr' nL (ab_ls ls i v) := by
  refine ⟨h'.1, h'.2.1, fun j w hj => ?_⟩
  rcases ab_lg_ls hj with ⟨rfl, rfl⟩ | ⟨h1, h2⟩
  · exact ⟨Or.inl hc, h'.2.2 (j, ab_em base w) List.mem_cons_self⟩
  · have hw := (h.2.2 j w h2).1
    refine ⟨hw, h'.2.2 (j, ab_em base w) (List.mem_cons_of_mem _ (List.mem_filter.mpr ⟨(ab_lp_mem (j := j)).mpr ⟨w, Nat.zero_le _, h2, rfl⟩, ?_⟩))⟩
    by_cases hz : j + 1 = i
    · have hc2 : (ab_em base w).category = 1 := by rw [ab_em_cat]; exact hw.resolve_right (hn j hz)
      simp [h1, hc2]
    · simp [h1, hz]
theorem ab_lg_ln : ∀ {ls : List (Option Value)} {i j : Nat} {w : Value}, ab_lg (ab_ln ls i) j = some w → j ≠ i ∧ ab_lg ls j = some w
  | [], i, j, w, h => by simp [ab_ln, ab_lg] at h
  | a :: t, 0, 0, w, h => by simp [ab_ln, ab_lg] at h
  | a :: t, 0, j + 1, w, h => ⟨by omega, h⟩
  | a :: t, i + 1, 0, w, h => ⟨by omega, h⟩
  | a :: t, i + 1, j + 1, w, h => by
    obtain ⟨h1, h2⟩ := ab_lg_ln (ls := t) (i := i) (j := j) h
    exact ⟨by omega, h2⟩
theorem ab_Lv.setl {base : Nat} {lo : List Nat} {lsr lsr' : Array Slot} {nL i : Nat} {ls : List (Option Value)} {x : Int64} (h : ab_Lv base lo lsr nL ls) (hc : i ∈ lo) (hn : ∀ j, j + 1 = i → j ∉ lo)
    (h' : lv_has lsr' nL ((i, .long x) :: (ab_lp base ls 0).filter (fun q => !(q.1 == i) && (!(q.1 == i + 1) && !(q.1 + 1 == i && q.2.category == 2))))) : ab_Lv base lo lsr' nL (ab_ls (ab_ln ls (i + 1)) i (.long x)) := by
  refine ⟨h'.1, h'.2.1, fun j w hj => ?_⟩
  rcases ab_lg_ls hj with ⟨rfl, rfl⟩ | ⟨h1, h0⟩
  · exact ⟨Or.inr hc, h'.2.2 (j, .long x) List.mem_cons_self⟩
  · obtain ⟨h3, h2⟩ := ab_lg_ln h0
    have hw := (h.2.2 j w h2).1
    refine ⟨hw, h'.2.2 (j, ab_em base w) (List.mem_cons_of_mem _ (List.mem_filter.mpr ⟨(ab_lp_mem (j := j)).mpr ⟨w, Nat.zero_le _, h2, rfl⟩, ?_⟩))⟩
    by_cases hz : j + 1 = i
    · have hc2 : (ab_em base w).category = 1 := by rw [ab_em_cat]; exact hw.resolve_right (hn j hz)
      simp [h1, h3, hc2]
    · simp [h1, h3, hz]
-- heap writes
def ab_hi (h : ab_H) (k i : Nat) (v : Int32) : ab_H := (fun a j => if a = k ∧ j = i then v else h.1 a j, h.2)
def ab_hr (h : ab_H) (k i r : Nat) : ab_H := (h.1, fun a j => if a = k ∧ j = i then r else h.2 a j)
def ab_hn (h : ab_H) (k : Nat) : ab_H := (fun a j => if a = k then 0 else h.1 a j, fun a j => if a = k then ab_nul else h.2 a j)
-- contexts
def ab_Cx (d k : Nat) (p : Program) (R : Room) (s : State) (m : MethodId) (args : Array Value) (meth : Method) (c : Code) (D : va_G) (cA : ClassId) (base mcT msT : Nat) : Prop :=
  p.tables.exec = Jvm.exec ∧ c.code = ab_cod k ∧ meth.sig.returnType = ab_rt k ∧ c.maxLocals = ab_ml k ∧ s.vm.findClass (ab_yn k).cls = some m.cls ∧ (∀ w ∈ ab_Tg, w.before args s = true) ∧ (∀ w ∈ ab_nw, va_Nw w s) ∧
  meth.locks = false ∧ meth.name = (ab_yn k).name ∧ va_K D vwCl [(cA, .int)] s ∧ True ∧ d ≤ R.frames ∧ 40 * d ≤ R.locals ∧ mcT ≤ R.cells ∧ msT ≤ R.slots
def ab_rI (k pc : Nat) (r : Option Value) : Prop := match r with
  | none => decode (ab_cod k) pc = .ok (.return_, 1) ∧ ab_rt k = none
  | some (.int v) => decode (ab_cod k) pc = .ok (.ireturn, 1) ∧ ∃ ty, ab_rt k = some ty ∧ narrow ty (.int v) = .int v
  | some (.long _) => decode (ab_cod k) pc = .ok (.lreturn, 1) ∧ ab_rt k = some .long
  | some v => decode (ab_cod k) pc = .ok (.areturn, 1) ∧ (∃ C, ab_rt k = some (.object C)) ∧ (v = .null ∨ ∃ a, v = .ref a)
def ab_S (base : Nat) (H0 H : Heap) (locs : List Loc) : Prop := va_S (ab_A base) H0 H locs
def ab_W (d k pc n bc bs : Nat) (ls : List (Option Value)) (st : List Value) (h : ab_H) (Q : Option Value → ab_H → Prop) : Prop :=
  ∀ (p : Program) (l : Launch) (e : Env) (R : Room) (s : State) (m : MethodId) (args : Array Value) (below : List Frame) (meth : Method) (c : Code) (D : va_G) (cA : ClassId) (base mcT msT : Nat) (H : Heap) (locs : List Loc) (cells slots xx : Nat) (Z : State → Prop) (lsr : Array Slot),
    ab_Cx d k p R s m args meth c D cA base mcT msT → (bc ≠ 0 → xx = 0) → cells + bc ≤ mcT → slots + bs ≤ msT → ab_Wd D cA base n xx h H → ab_S base s.heap H locs → ab_Lv base (ab_lo k) lsr (ab_ml k) ls →
    (∀ (r : Option Value) (h' : ab_H) (H' : Heap) (locs' : List Loc) (cells' slots' pc' : Nat) (ls' : Array Slot), Q r h' → ab_Wd D cA base (n + bc) xx h' H' → ab_S base s.heap H' locs' → cells' ≤ mcT → slots' ≤ msT → ab_rI k pc' r →
      W p l e R s m args below meth c H' locs' cells' slots' Z (F0 m pc' ls' (r.toList.map (ab_em base)))) →
    W p l e R s m args below meth c H locs cells slots Z (F0 m pc lsr (st.map (ab_em base)))
def ab_C (d y n : Nat) (as : List Value) (h : ab_H) (Q : Option Value → ab_H → Prop) : Prop :=
  ∀ (d' : Nat), d ≤ d' → ∀ (l : Launch) (D : va_G) (cA : ClassId) (base xx : Nat), (ab_mc y ≠ 0 → xx = 0) →
    Met l (ab_yn y) (.code (ab_yn y) (ab_cod y) (ab_ml y) (ab_rt y) :: ab_Tg) { frames := d', cells := ab_mc y, slots := ab_ms y, locals := 40 * d' }
      (fun a U => a = (as.map (ab_em base)).toArray ∧ base ≤ U.heap.size ∧ ab_Wd D cA base n xx h U.heap ∧ va_K D vwCl [(cA, .int)] U ∧ ∀ w ∈ ab_nw, va_Nw w U)
      (fun _ st o t => ∃ (r : Option Value) (h' : ab_H), o = .returned (r.map (ab_em base)) ∧ Q r h' ∧ ab_Wd D cA base (n + ab_mc y) xx h' t.heap ∧ ∀ q, q < st.heap.size → (q < base ∨ base + 192 ≤ q) → t.heap[q]? = st.heap[q]?)
      (ab_mc y) (ab_ms y) (ab_A base)
theorem ab_C.up {d d2 y n : Nat} {as : List Value} {h : ab_H} {Q : Option Value → ab_H → Prop} (hC : ab_C d y n as h Q) (hd : d ≤ d2) : ab_C d2 y n as h Q := fun d' h' => hC d' (Nat.le_trans hd h')
end
section
/-! ===== RULES: an instruction over the abstract machine (printed by wip/p28/mkrules.py) ===== -/
theorem ar_iadd {d k pc n bc bs : Nat} {ls : List (Option Value)} {st : List Value} {h : ab_H} {Q : Option Value → ab_H → Prop} {x y : Int32} (hd : decode (ab_cod k) pc = .ok (.iadd, 1)) (hk : ab_W d k (pc + 1) n bc bs ls (.int (x + y) :: st) h Q) : ab_W d k pc n bc bs ls (.int y :: .int x :: st) h Q :=
  fun p l e R s m args below meth c D cA base mcT msT H locs cells slots xx Z lsr C hxx h1 h2 w S L he => lv_iadd C.1 C.2.1 hd (hk p l e R s m args below meth c D cA base mcT msT H locs cells slots xx Z lsr C hxx h1 h2 w S L he)
theorem ar_isub {d k pc n bc bs : Nat} {ls : List (Option Value)} {st : List Value} {h : ab_H} {Q : Option Value → ab_H → Prop} {x y : Int32} (hd : decode (ab_cod k) pc = .ok (.isub, 1)) (hk : ab_W d k (pc + 1) n bc bs ls (.int (x - y) :: st) h Q) : ab_W d k pc n bc bs ls (.int y :: .int x :: st) h Q :=
  fun p l e R s m args below meth c D cA base mcT msT H locs cells slots xx Z lsr C hxx h1 h2 w S L he => lv_isub C.1 C.2.1 hd (hk p l e R s m args below meth c D cA base mcT msT H locs cells slots xx Z lsr C hxx h1 h2 w S L he)
theorem ar_imul {d k pc n bc bs : Nat} {ls : List (Option Value)} {st : List Value} {h : ab_H} {Q : Option Value → ab_H → Prop} {x y : Int32} (hd : decode (ab_cod k) pc = .ok (.imul, 1)) (hk : ab_W d k (pc + 1) n bc bs ls (.int (x * y) :: st) h Q) : ab_W d k pc n bc bs ls (.int y :: .int x :: st) h Q :=
  fun p l e R s m args below meth c D cA base mcT msT H locs cells slots xx Z lsr C hxx h1 h2 w S L he => lv_imul C.1 C.2.1 hd (hk p l e R s m args below meth c D cA base mcT msT H locs cells slots xx Z lsr C hxx h1 h2 w S L he)
theorem ar_iand {d k pc n bc bs : Nat} {ls : List (Option Value)} {st : List Value} {h : ab_H} {Q : Option Value → ab_H → Prop} {x y : Int32} (hd : decode (ab_cod k) pc = .ok (.iand, 1)) (hk : ab_W d k (pc + 1) n bc bs ls (.int (x &&& y) :: st) h Q) : ab_W d k pc n bc bs ls (.int y :: .int x :: st) h Q :=
  fun p l e R s m args below meth c D cA base mcT msT H locs cells slots xx Z lsr C hxx h1 h2 w S L he => lv_iand C.1 C.2.1 hd (hk p l e R s m args below meth c D cA base mcT msT H locs cells slots xx Z lsr C hxx h1 h2 w S L he)
theorem ar_ior {d k pc n bc bs : Nat} {ls : List (Option Value)} {st : List Value} {h : ab_H} {Q : Option Value → ab_H → Prop} {x y : Int32} (hd : decode (ab_cod k) pc = .ok (.ior, 1)) (hk : ab_W d k (pc + 1) n bc bs ls (.int (x ||| y) :: st) h Q) : ab_W d k pc n bc bs ls (.int y :: .int x :: st) h Q :=
  fun p l e R s m args below meth c D cA base mcT msT H locs cells slots xx Z lsr C hxx h1 h2 w S L he => lv_ior C.1 C.2.1 hd (hk p l e R s m args below meth c D cA base mcT msT H locs cells slots xx Z lsr C hxx h1 h2 w S L he)
theorem ar_ixor {d k pc n bc bs : Nat} {ls : List (Option Value)} {st : List Value} {h : ab_H} {Q : Option Value → ab_H → Prop} {x y : Int32} (hd : decode (ab_cod k) pc = .ok (.ixor, 1)) (hk : ab_W d k (pc + 1) n bc bs ls (.int (x ^^^ y) :: st) h Q) : ab_W d k pc n bc bs ls (.int y :: .int x :: st) h Q :=
  fun p l e R s m args below meth c D cA base mcT msT H locs cells slots xx Z lsr C hxx h1 h2 w S L he => lv_ixor C.1 C.2.1 hd (hk p l e R s m args below meth c D cA base mcT msT H locs cells slots xx Z lsr C hxx h1 h2 w S L he)
theorem ar_ishl {d k pc n bc bs : Nat} {ls : List (Option Value)} {st : List Value} {h : ab_H} {Q : Option Value → ab_H → Prop} {x y : Int32} (hd : decode (ab_cod k) pc = .ok (.ishl, 1)) (hk : ab_W d k (pc + 1) n bc bs ls (.int (x <<< (y &&& 31)) :: st) h Q) : ab_W d k pc n bc bs ls (.int y :: .int x :: st) h Q :=
  fun p l e R s m args below meth c D cA base mcT msT H locs cells slots xx Z lsr C hxx h1 h2 w S L he => lv_ishl C.1 C.2.1 hd (hk p l e R s m args below meth c D cA base mcT msT H locs cells slots xx Z lsr C hxx h1 h2 w S L he)
theorem ar_ishr {d k pc n bc bs : Nat} {ls : List (Option Value)} {st : List Value} {h : ab_H} {Q : Option Value → ab_H → Prop} {x y : Int32} (hd : decode (ab_cod k) pc = .ok (.ishr, 1)) (hk : ab_W d k (pc + 1) n bc bs ls (.int (x >>> (y &&& 31)) :: st) h Q) : ab_W d k pc n bc bs ls (.int y :: .int x :: st) h Q :=
  fun p l e R s m args below meth c D cA base mcT msT H locs cells slots xx Z lsr C hxx h1 h2 w S L he => lv_ishr C.1 C.2.1 hd (hk p l e R s m args below meth c D cA base mcT msT H locs cells slots xx Z lsr C hxx h1 h2 w S L he)
theorem ar_iushr {d k pc n bc bs : Nat} {ls : List (Option Value)} {st : List Value} {h : ab_H} {Q : Option Value → ab_H → Prop} {x y : Int32} (hd : decode (ab_cod k) pc = .ok (.iushr, 1)) (hk : ab_W d k (pc + 1) n bc bs ls (.int ((x.toUInt32 >>> (y.toUInt32 &&& Int32.toUInt32 31)).toInt32) :: st) h Q) : ab_W d k pc n bc bs ls (.int y :: .int x :: st) h Q :=
  fun p l e R s m args below meth c D cA base mcT msT H locs cells slots xx Z lsr C hxx h1 h2 w S L he => lv_iushr C.1 C.2.1 hd rfl (hk p l e R s m args below meth c D cA base mcT msT H locs cells slots xx Z lsr C hxx h1 h2 w S L he)
theorem ar_idiv {d k pc n bc bs : Nat} {ls : List (Option Value)} {st : List Value} {h : ab_H} {Q : Option Value → ab_H → Prop} {x y : Int32} (hd : decode (ab_cod k) pc = .ok (.idiv, 1)) (hz : ¬ y = 0) (hk : ab_W d k (pc + 1) n bc bs ls (.int (x / y) :: st) h Q) : ab_W d k pc n bc bs ls (.int y :: .int x :: st) h Q :=
  fun p l e R s m args below meth c D cA base mcT msT H locs cells slots xx Z lsr C hxx h1 h2 w S L he => lv_idiv C.1 C.2.1 hd hz (hk p l e R s m args below meth c D cA base mcT msT H locs cells slots xx Z lsr C hxx h1 h2 w S L he)
theorem ar_irem {d k pc n bc bs : Nat} {ls : List (Option Value)} {st : List Value} {h : ab_H} {Q : Option Value → ab_H → Prop} {x y : Int32} (hd : decode (ab_cod k) pc = .ok (.irem, 1)) (hz : ¬ y = 0) (hk : ab_W d k (pc + 1) n bc bs ls (.int (x - x / y * y) :: st) h Q) : ab_W d k pc n bc bs ls (.int y :: .int x :: st) h Q :=
  fun p l e R s m args below meth c D cA base mcT msT H locs cells slots xx Z lsr C hxx h1 h2 w S L he => lv_irem C.1 C.2.1 hd hz (hk p l e R s m args below meth c D cA base mcT msT H locs cells slots xx Z lsr C hxx h1 h2 w S L he)
theorem ar_ineg {d k pc n bc bs : Nat} {ls : List (Option Value)} {st : List Value} {h : ab_H} {Q : Option Value → ab_H → Prop} {x : Int32} (hd : decode (ab_cod k) pc = .ok (.ineg, 1)) (hk : ab_W d k (pc + 1) n bc bs ls (.int (-x) :: st) h Q) : ab_W d k pc n bc bs ls (.int x :: st) h Q :=
  fun p l e R s m args below meth c D cA base mcT msT H locs cells slots xx Z lsr C hxx h1 h2 w S L he => lv_ineg C.1 C.2.1 hd (hk p l e R s m args below meth c D cA base mcT msT H locs cells slots xx Z lsr C hxx h1 h2 w S L he)
theorem ar_i2f {d k pc n bc bs : Nat} {ls : List (Option Value)} {st : List Value} {h : ab_H} {Q : Option Value → ab_H → Prop} {x : Int32} (hd : decode (ab_cod k) pc = .ok (.i2f, 1)) (hk : ab_W d k (pc + 1) n bc bs ls (.float (FP.i2f x) :: st) h Q) : ab_W d k pc n bc bs ls (.int x :: st) h Q :=
  fun p l e R s m args below meth c D cA base mcT msT H locs cells slots xx Z lsr C hxx h1 h2 w S L he => lv_i2f C.1 C.2.1 hd (hk p l e R s m args below meth c D cA base mcT msT H locs cells slots xx Z lsr C hxx h1 h2 w S L he)
theorem ar_fdiv {d k pc n bc bs : Nat} {ls : List (Option Value)} {st : List Value} {h : ab_H} {Q : Option Value → ab_H → Prop} {x y : UInt32} (hd : decode (ab_cod k) pc = .ok (.fdiv, 1)) (hz : vf_n32 (FP.fdiv x y)) (hk : ab_W d k (pc + 1) n bc bs ls (.float (FP.fdiv x y) :: st) h Q) : ab_W d k pc n bc bs ls (.float y :: .float x :: st) h Q :=
  fun p l e R s m args below meth c D cA base mcT msT H locs cells slots xx Z lsr C hxx h1 h2 w S L he => lv_fdiv C.1 C.2.1 hd hz (hk p l e R s m args below meth c D cA base mcT msT H locs cells slots xx Z lsr C hxx h1 h2 w S L he)
theorem ar_fmul {d k pc n bc bs : Nat} {ls : List (Option Value)} {st : List Value} {h : ab_H} {Q : Option Value → ab_H → Prop} {x y : UInt32} (hd : decode (ab_cod k) pc = .ok (.fmul, 1)) (hz : vf_n32 (FP.fmul x y)) (hk : ab_W d k (pc + 1) n bc bs ls (.float (FP.fmul x y) :: st) h Q) : ab_W d k pc n bc bs ls (.float y :: .float x :: st) h Q :=
  fun p l e R s m args below meth c D cA base mcT msT H locs cells slots xx Z lsr C hxx h1 h2 w S L he => lv_fmul C.1 C.2.1 hd hz (hk p l e R s m args below meth c D cA base mcT msT H locs cells slots xx Z lsr C hxx h1 h2 w S L he)
theorem ar_f2i {d k pc n bc bs : Nat} {ls : List (Option Value)} {st : List Value} {h : ab_H} {Q : Option Value → ab_H → Prop} {x : UInt32} (hd : decode (ab_cod k) pc = .ok (.f2i, 1)) (hk : ab_W d k (pc + 1) n bc bs ls (.int (FP.f2i x) :: st) h Q) : ab_W d k pc n bc bs ls (.float x :: st) h Q :=
  fun p l e R s m args below meth c D cA base mcT msT H locs cells slots xx Z lsr C hxx h1 h2 w S L he => lv_f2i C.1 C.2.1 hd (hk p l e R s m args below meth c D cA base mcT msT H locs cells slots xx Z lsr C hxx h1 h2 w S L he)
theorem ar_fcmp {d k pc n bc bs : Nat} {ls : List (Option Value)} {st : List Value} {h : ab_H} {Q : Option Value → ab_H → Prop} {x y : UInt32} {op : CmpOp} (hd : decode (ab_cod k) pc = .ok ((.fcmp op), 1)) (hk : ab_W d k (pc + 1) n bc bs ls (.int (Op.cmpValue (FP.fcmp x y) op) :: st) h Q) : ab_W d k pc n bc bs ls (.float y :: .float x :: st) h Q :=
  fun p l e R s m args below meth c D cA base mcT msT H locs cells slots xx Z lsr C hxx h1 h2 w S L he => lv_fcmp C.1 C.2.1 hd (hk p l e R s m args below meth c D cA base mcT msT H locs cells slots xx Z lsr C hxx h1 h2 w S L he)
theorem ar_fconst2 {d k pc n bc bs : Nat} {ls : List (Option Value)} {st : List Value} {h : ab_H} {Q : Option Value → ab_H → Prop} (hd : decode (ab_cod k) pc = .ok ((.fconst 2), 1)) (hk : ab_W d k (pc + 1) n bc bs ls (.float FP.fconst2 :: st) h Q) : ab_W d k pc n bc bs ls st h Q :=
  fun p l e R s m args below meth c D cA base mcT msT H locs cells slots xx Z lsr C hxx h1 h2 w S L he => lv_fconst2 C.1 C.2.1 hd (hk p l e R s m args below meth c D cA base mcT msT H locs cells slots xx Z lsr C hxx h1 h2 w S L he)
theorem ar_aconst_null {d k pc n bc bs : Nat} {ls : List (Option Value)} {st : List Value} {h : ab_H} {Q : Option Value → ab_H → Prop} (hd : decode (ab_cod k) pc = .ok (.aconst_null, 1)) (hk : ab_W d k (pc + 1) n bc bs ls (.null :: st) h Q) : ab_W d k pc n bc bs ls st h Q :=
  fun p l e R s m args below meth c D cA base mcT msT H locs cells slots xx Z lsr C hxx h1 h2 w S L he => lv_null C.1 C.2.1 hd (hk p l e R s m args below meth c D cA base mcT msT H locs cells slots xx Z lsr C hxx h1 h2 w S L he)
theorem ar_iconst {d k pc n bc bs : Nat} {ls : List (Option Value)} {st : List Value} {h : ab_H} {Q : Option Value → ab_H → Prop} {i : Int} (hd : decode (ab_cod k) pc = .ok ((.iconst i), 1)) (hk : ab_W d k (pc + 1) n bc bs ls (.int (Int32.ofInt i) :: st) h Q) : ab_W d k pc n bc bs ls st h Q :=
  fun p l e R s m args below meth c D cA base mcT msT H locs cells slots xx Z lsr C hxx h1 h2 w S L he => lv_iconst C.1 C.2.1 hd rfl (hk p l e R s m args below meth c D cA base mcT msT H locs cells slots xx Z lsr C hxx h1 h2 w S L he)
theorem ar_bipush {d k pc n bc bs : Nat} {ls : List (Option Value)} {st : List Value} {h : ab_H} {Q : Option Value → ab_H → Prop} {i : Int} (hd : decode (ab_cod k) pc = .ok ((.bipush i), 2)) (hz : (Int8.ofInt i).toInt32 = Int32.ofInt i) (hk : ab_W d k (pc + 2) n bc bs ls (.int (Int32.ofInt i) :: st) h Q) : ab_W d k pc n bc bs ls st h Q :=
  fun p l e R s m args below meth c D cA base mcT msT H locs cells slots xx Z lsr C hxx h1 h2 w S L he => lv_bipush C.1 C.2.1 hd hz (hk p l e R s m args below meth c D cA base mcT msT H locs cells slots xx Z lsr C hxx h1 h2 w S L he)
theorem ar_sipush {d k pc n bc bs : Nat} {ls : List (Option Value)} {st : List Value} {h : ab_H} {Q : Option Value → ab_H → Prop} {i : Int} (hd : decode (ab_cod k) pc = .ok ((.sipush i), 3)) (hz : (Int16.ofInt i).toInt32 = Int32.ofInt i) (hk : ab_W d k (pc + 3) n bc bs ls (.int (Int32.ofInt i) :: st) h Q) : ab_W d k pc n bc bs ls st h Q :=
  fun p l e R s m args below meth c D cA base mcT msT H locs cells slots xx Z lsr C hxx h1 h2 w S L he => lv_sipush C.1 C.2.1 hd hz (hk p l e R s m args below meth c D cA base mcT msT H locs cells slots xx Z lsr C hxx h1 h2 w S L he)
theorem ar_ldc {d k pc n bc bs : Nat} {ls : List (Option Value)} {st : List Value} {h : ab_H} {Q : Option Value → ab_H → Prop} {i : Nat} {v : Int32} (hd : decode (ab_cod k) pc = .ok ((.ldc i), 2)) (hw : Jvm.Cond.constant (ab_yn k).cls i v ∈ ab_Tg) (hk : ab_W d k (pc + 2) n bc bs ls (.int v :: st) h Q) : ab_W d k pc n bc bs ls st h Q :=
  fun p l e R s m args below meth c D cA base mcT msT H locs cells slots xx Z lsr C hxx h1 h2 w S L he => lv_ldc C.1 C.2.1 C.2.2.2.2.1 (C.2.2.2.2.2.1 _ hw) hd (hk p l e R s m args below meth c D cA base mcT msT H locs cells slots xx Z lsr C hxx h1 h2 w S L he)
theorem ar_ldc_w {d k pc n bc bs : Nat} {ls : List (Option Value)} {st : List Value} {h : ab_H} {Q : Option Value → ab_H → Prop} {i : Nat} {v : Int32} (hd : decode (ab_cod k) pc = .ok ((.ldc_w i), 3)) (hw : Jvm.Cond.constant (ab_yn k).cls i v ∈ ab_Tg) (hk : ab_W d k (pc + 3) n bc bs ls (.int v :: st) h Q) : ab_W d k pc n bc bs ls st h Q :=
  fun p l e R s m args below meth c D cA base mcT msT H locs cells slots xx Z lsr C hxx h1 h2 w S L he => lv_ldcw C.1 C.2.1 C.2.2.2.2.1 (C.2.2.2.2.2.1 _ hw) hd (hk p l e R s m args below meth c D cA base mcT msT H locs cells slots xx Z lsr C hxx h1 h2 w S L he)
theorem ar_ldcf {d k pc n bc bs : Nat} {ls : List (Option Value)} {st : List Value} {h : ab_H} {Q : Option Value → ab_H → Prop} {i : Nat} {v : UInt32} (hd : decode (ab_cod k) pc = .ok ((.ldc i), 2)) (hw : Jvm.Cond.constantFloat (ab_yn k).cls i v ∈ ab_Tg) (hk : ab_W d k (pc + 2) n bc bs ls (.float v :: st) h Q) : ab_W d k pc n bc bs ls st h Q :=
  fun p l e R s m args below meth c D cA base mcT msT H locs cells slots xx Z lsr C hxx h1 h2 w S L he => lv_ldcf C.1 C.2.1 C.2.2.2.2.1 (C.2.2.2.2.2.1 _ hw) hd (hk p l e R s m args below meth c D cA base mcT msT H locs cells slots xx Z lsr C hxx h1 h2 w S L he)
theorem ab_ldcwF {p : Program} {l : Launch} {e : Env} {R : Room} {s : State} {m : MethodId} {args : Array Value} {below : List Frame} {meth : Method} {c : Code} {T : State} {locs : List Loc} {cells slots : Nat} (X : Stand p l e R s m args below meth c T locs cells slots) (hexec : p.tables.exec = Jvm.exec) {own : String} {index : Nat} {v : UInt32} (hown : s.vm.findClass own = some m.cls)
    (hconst : (Jvm.Cond.constantFloat own index v).before args s = true) {g : JFrame} (hg : g.method = m) (hdg : decode c.code g.pc = .ok (.ldc_w index, 3)) :
    ∀ target, Steps p.tables e below (T.setTop { g with pc := g.pc + 3, stack := .float v :: g.stack }) target → Steps p.tables e below (T.setTop g) target := by
  obtain ⟨k, cf, hk, hcf, hcp⟩ := Cond.constantFloat_spec hown hconst
  obtain ⟨k', hk', he⟩ := X.warmed.alike.2.2 _ _ hk
  intro target hrest
  subst hg
  jvm_step X.here [hexec, hdg, ldc_w.wp_float (s := T) (f := g) X.here.top hk' (by rw [he]; exact hcf) hcp]
  exact hrest
theorem ar_ldcwf {d k pc n bc bs : Nat} {ls : List (Option Value)} {st : List Value} {h : ab_H} {Q : Option Value → ab_H → Prop} {i : Nat} {v : UInt32} (hd : decode (ab_cod k) pc = .ok (.ldc_w i, 3)) (hw : Jvm.Cond.constantFloat (ab_yn k).cls i v ∈ ab_Tg) (hk : ab_W d k (pc + 3) n bc bs ls (.float v :: st) h Q) : ab_W d k pc n bc bs ls st h Q := by
  intro p l e R s m args below meth c D cA base mcT msT H locs cells slots xx Z lsr C hxx h1 h2 w S L he T hT X
  obtain ⟨t, a, b⟩ := hk p l e R s m args below meth c D cA base mcT msT H locs cells slots xx Z lsr C hxx h1 h2 w S L he T hT X
  exact ⟨t, ab_ldcwF X C.1 C.2.2.2.2.1 (C.2.2.2.2.2.1 _ hw) (g := F0 m pc lsr (st.map (ab_em base))) rfl (by rw [C.2.1]; exact hd) t a, b⟩
theorem ar_ladd {d k pc n bc bs : Nat} {ls : List (Option Value)} {st : List Value} {h : ab_H} {Q : Option Value → ab_H → Prop} {x y : Int64} (hd : decode (ab_cod k) pc = .ok (.ladd, 1)) (hk : ab_W d k (pc + 1) n bc bs ls (.long (x + y) :: st) h Q) : ab_W d k pc n bc bs ls (.long y :: .long x :: st) h Q :=
  fun p l e R s m args below meth c D cA base mcT msT H locs cells slots xx Z lsr C hxx h1 h2 w S L he => lv_ladd C.1 C.2.1 hd (hk p l e R s m args below meth c D cA base mcT msT H locs cells slots xx Z lsr C hxx h1 h2 w S L he)
theorem ar_lmul {d k pc n bc bs : Nat} {ls : List (Option Value)} {st : List Value} {h : ab_H} {Q : Option Value → ab_H → Prop} {x y : Int64} (hd : decode (ab_cod k) pc = .ok (.lmul, 1)) (hk : ab_W d k (pc + 1) n bc bs ls (.long (x * y) :: st) h Q) : ab_W d k pc n bc bs ls (.long y :: .long x :: st) h Q :=
  fun p l e R s m args below meth c D cA base mcT msT H locs cells slots xx Z lsr C hxx h1 h2 w S L he => lv_lmul C.1 C.2.1 hd (hk p l e R s m args below meth c D cA base mcT msT H locs cells slots xx Z lsr C hxx h1 h2 w S L he)
theorem ar_land {d k pc n bc bs : Nat} {ls : List (Option Value)} {st : List Value} {h : ab_H} {Q : Option Value → ab_H → Prop} {x y : Int64} (hd : decode (ab_cod k) pc = .ok (.land, 1)) (hk : ab_W d k (pc + 1) n bc bs ls (.long (x &&& y) :: st) h Q) : ab_W d k pc n bc bs ls (.long y :: .long x :: st) h Q :=
  fun p l e R s m args below meth c D cA base mcT msT H locs cells slots xx Z lsr C hxx h1 h2 w S L he => lv_land C.1 C.2.1 hd (hk p l e R s m args below meth c D cA base mcT msT H locs cells slots xx Z lsr C hxx h1 h2 w S L he)
theorem ar_lcmp {d k pc n bc bs : Nat} {ls : List (Option Value)} {st : List Value} {h : ab_H} {Q : Option Value → ab_H → Prop} {x y : Int64} (hd : decode (ab_cod k) pc = .ok (.lcmp, 1)) (hk : ab_W d k (pc + 1) n bc bs ls (.int (lg_cmp x y) :: st) h Q) : ab_W d k pc n bc bs ls (.long y :: .long x :: st) h Q :=
  fun p l e R s m args below meth c D cA base mcT msT H locs cells slots xx Z lsr C hxx h1 h2 w S L he => W.lcmp C.1 C.2.1 hd (hk p l e R s m args below meth c D cA base mcT msT H locs cells slots xx Z lsr C hxx h1 h2 w S L he)
theorem ar_lshr {d k pc n bc bs : Nat} {ls : List (Option Value)} {st : List Value} {h : ab_H} {Q : Option Value → ab_H → Prop} {x : Int64} {y : Int32} (hd : decode (ab_cod k) pc = .ok (.lshr, 1)) (hk : ab_W d k (pc + 1) n bc bs ls (.long (x >>> (y.toInt64 &&& 63)) :: st) h Q) : ab_W d k pc n bc bs ls (.int y :: .long x :: st) h Q :=
  fun p l e R s m args below meth c D cA base mcT msT H locs cells slots xx Z lsr C hxx h1 h2 w S L he => lv_lshr C.1 C.2.1 hd rfl (hk p l e R s m args below meth c D cA base mcT msT H locs cells slots xx Z lsr C hxx h1 h2 w S L he)
theorem ar_i2l {d k pc n bc bs : Nat} {ls : List (Option Value)} {st : List Value} {h : ab_H} {Q : Option Value → ab_H → Prop} {x : Int32} (hd : decode (ab_cod k) pc = .ok (.i2l, 1)) (hk : ab_W d k (pc + 1) n bc bs ls (.long x.toInt64 :: st) h Q) : ab_W d k pc n bc bs ls (.int x :: st) h Q :=
  fun p l e R s m args below meth c D cA base mcT msT H locs cells slots xx Z lsr C hxx h1 h2 w S L he => lv_i2l C.1 C.2.1 hd rfl (hk p l e R s m args below meth c D cA base mcT msT H locs cells slots xx Z lsr C hxx h1 h2 w S L he)
theorem ar_l2i {d k pc n bc bs : Nat} {ls : List (Option Value)} {st : List Value} {h : ab_H} {Q : Option Value → ab_H → Prop} {x : Int64} (hd : decode (ab_cod k) pc = .ok (.l2i, 1)) (hk : ab_W d k (pc + 1) n bc bs ls (.int x.toInt32 :: st) h Q) : ab_W d k pc n bc bs ls (.long x :: st) h Q :=
  fun p l e R s m args below meth c D cA base mcT msT H locs cells slots xx Z lsr C hxx h1 h2 w S L he => lv_l2i C.1 C.2.1 hd rfl (hk p l e R s m args below meth c D cA base mcT msT H locs cells slots xx Z lsr C hxx h1 h2 w S L he)
theorem ar_lconst {d k pc n bc bs : Nat} {ls : List (Option Value)} {st : List Value} {h : ab_H} {Q : Option Value → ab_H → Prop} {i : Fin 2} {v : Int64} (hd : decode (ab_cod k) pc = .ok ((.lconst i), 1)) (hz : Int64.ofNat (i : Nat) = v) (hk : ab_W d k (pc + 1) n bc bs ls (.long v :: st) h Q) : ab_W d k pc n bc bs ls st h Q :=
  fun p l e R s m args below meth c D cA base mcT msT H locs cells slots xx Z lsr C hxx h1 h2 w S L he => lv_lconst C.1 C.2.1 hd hz (hk p l e R s m args below meth c D cA base mcT msT H locs cells slots xx Z lsr C hxx h1 h2 w S L he)
theorem ar_ldc2_w {d k pc n bc bs : Nat} {ls : List (Option Value)} {st : List Value} {h : ab_H} {Q : Option Value → ab_H → Prop} {i : Nat} {v : Int64} (hd : decode (ab_cod k) pc = .ok ((.ldc2_w i), 3)) (hw : Jvm.Cond.constantLong (ab_yn k).cls i v ∈ ab_Tg) (hk : ab_W d k (pc + 3) n bc bs ls (.long v :: st) h Q) : ab_W d k pc n bc bs ls st h Q :=
  fun p l e R s m args below meth c D cA base mcT msT H locs cells slots xx Z lsr C hxx h1 h2 w S L he => lv_ldc2 C.1 C.2.1 C.2.2.2.2.1 (C.2.2.2.2.2.1 _ hw) hd (hk p l e R s m args below meth c D cA base mcT msT H locs cells slots xx Z lsr C hxx h1 h2 w S L he)
theorem ar_lload_n {d k pc n bc bs : Nat} {ls : List (Option Value)} {st : List Value} {h : ab_H} {Q : Option Value → ab_H → Prop} {j : Fin 4} {x : Int64} (hd : decode (ab_cod k) pc = .ok ((.lload_n j), 1)) (hl : ab_lg ls j.val = some (.long x)) (hk : ab_W d k (pc + 1) n bc bs ls (.long x :: st) h Q) : ab_W d k pc n bc bs ls st h Q :=
  fun p l e R s m args below meth c D cA base mcT msT H locs cells slots xx Z lsr C hxx h1 h2 w S L he => lv_lload_n C.1 C.2.1 hd rfl (L.2.2 _ _ hl).2 (hk p l e R s m args below meth c D cA base mcT msT H locs cells slots xx Z lsr C hxx h1 h2 w S L he)
theorem ar_lload {d k pc n bc bs : Nat} {ls : List (Option Value)} {st : List Value} {h : ab_H} {Q : Option Value → ab_H → Prop} {j : Nat} {x : Int64} (hd : decode (ab_cod k) pc = .ok ((.lload j), 2)) (hl : ab_lg ls j = some (.long x)) (hk : ab_W d k (pc + 2) n bc bs ls (.long x :: st) h Q) : ab_W d k pc n bc bs ls st h Q :=
  fun p l e R s m args below meth c D cA base mcT msT H locs cells slots xx Z lsr C hxx h1 h2 w S L he => lv_lload C.1 C.2.1 hd (L.2.2 _ _ hl).2 (hk p l e R s m args below meth c D cA base mcT msT H locs cells slots xx Z lsr C hxx h1 h2 w S L he)
theorem ar_iload_n {d k pc n bc bs : Nat} {ls : List (Option Value)} {st : List Value} {h : ab_H} {Q : Option Value → ab_H → Prop} {j : Fin 4} {x : Int32} (hd : decode (ab_cod k) pc = .ok ((.iload_n j), 1)) (hl : ab_lg ls j.val = some (.int x)) (hk : ab_W d k (pc + 1) n bc bs ls (.int x :: st) h Q) : ab_W d k pc n bc bs ls st h Q :=
  fun p l e R s m args below meth c D cA base mcT msT H locs cells slots xx Z lsr C hxx h1 h2 w S L he => lv_iload_n C.1 C.2.1 hd rfl (L.2.2 _ _ hl).2 (hk p l e R s m args below meth c D cA base mcT msT H locs cells slots xx Z lsr C hxx h1 h2 w S L he)
theorem ar_fload_n {d k pc n bc bs : Nat} {ls : List (Option Value)} {st : List Value} {h : ab_H} {Q : Option Value → ab_H → Prop} {j : Fin 4} {x : UInt32} (hd : decode (ab_cod k) pc = .ok ((.fload_n j), 1)) (hl : ab_lg ls j.val = some (.float x)) (hk : ab_W d k (pc + 1) n bc bs ls (.float x :: st) h Q) : ab_W d k pc n bc bs ls st h Q :=
  fun p l e R s m args below meth c D cA base mcT msT H locs cells slots xx Z lsr C hxx h1 h2 w S L he => lv_fload_n C.1 C.2.1 hd rfl (L.2.2 _ _ hl).2 (hk p l e R s m args below meth c D cA base mcT msT H locs cells slots xx Z lsr C hxx h1 h2 w S L he)
theorem ar_iload {d k pc n bc bs : Nat} {ls : List (Option Value)} {st : List Value} {h : ab_H} {Q : Option Value → ab_H → Prop} {j : Nat} {x : Int32} (hd : decode (ab_cod k) pc = .ok ((.iload j), 2)) (hl : ab_lg ls j = some (.int x)) (hk : ab_W d k (pc + 2) n bc bs ls (.int x :: st) h Q) : ab_W d k pc n bc bs ls st h Q :=
  fun p l e R s m args below meth c D cA base mcT msT H locs cells slots xx Z lsr C hxx h1 h2 w S L he => lv_iload C.1 C.2.1 hd (L.2.2 _ _ hl).2 (hk p l e R s m args below meth c D cA base mcT msT H locs cells slots xx Z lsr C hxx h1 h2 w S L he)
theorem ar_aload_n {d k pc n bc bs : Nat} {ls : List (Option Value)} {st : List Value} {h : ab_H} {Q : Option Value → ab_H → Prop} {j : Fin 4} {x : Nat} (hd : decode (ab_cod k) pc = .ok ((.aload_n j), 1)) (hl : ab_lg ls j.val = some (.ref x)) (hk : ab_W d k (pc + 1) n bc bs ls (.ref x :: st) h Q) : ab_W d k pc n bc bs ls st h Q :=
  fun p l e R s m args below meth c D cA base mcT msT H locs cells slots xx Z lsr C hxx h1 h2 w S L he => lv_aload_n C.1 C.2.1 hd rfl (L.2.2 _ _ hl).2 (hk p l e R s m args below meth c D cA base mcT msT H locs cells slots xx Z lsr C hxx h1 h2 w S L he)
theorem ar_aload {d k pc n bc bs : Nat} {ls : List (Option Value)} {st : List Value} {h : ab_H} {Q : Option Value → ab_H → Prop} {j : Nat} {x : Nat} (hd : decode (ab_cod k) pc = .ok ((.aload j), 2)) (hl : ab_lg ls j = some (.ref x)) (hk : ab_W d k (pc + 2) n bc bs ls (.ref x :: st) h Q) : ab_W d k pc n bc bs ls st h Q :=
  fun p l e R s m args below meth c D cA base mcT msT H locs cells slots xx Z lsr C hxx h1 h2 w S L he => lv_aload C.1 C.2.1 hd (L.2.2 _ _ hl).2 (hk p l e R s m args below meth c D cA base mcT msT H locs cells slots xx Z lsr C hxx h1 h2 w S L he)
theorem ar_aload_nN {d k pc n bc bs : Nat} {ls : List (Option Value)} {st : List Value} {h : ab_H} {Q : Option Value → ab_H → Prop} {j : Fin 4} (hd : decode (ab_cod k) pc = .ok ((.aload_n j), 1)) (hl : ab_lg ls j.val = some .null) (hk : ab_W d k (pc + 1) n bc bs ls (.null :: st) h Q) : ab_W d k pc n bc bs ls st h Q :=
  fun p l e R s m args below meth c D cA base mcT msT H locs cells slots xx Z lsr C hxx h1 h2 w S L he => lv_aload_nN C.1 C.2.1 hd rfl (L.2.2 _ _ hl).2 (hk p l e R s m args below meth c D cA base mcT msT H locs cells slots xx Z lsr C hxx h1 h2 w S L he)
theorem ar_aloadN {d k pc n bc bs : Nat} {ls : List (Option Value)} {st : List Value} {h : ab_H} {Q : Option Value → ab_H → Prop} {j : Nat} (hd : decode (ab_cod k) pc = .ok ((.aload j), 2)) (hl : ab_lg ls j = some .null) (hk : ab_W d k (pc + 2) n bc bs ls (.null :: st) h Q) : ab_W d k pc n bc bs ls st h Q :=
  fun p l e R s m args below meth c D cA base mcT msT H locs cells slots xx Z lsr C hxx h1 h2 w S L he => lv_aloadN C.1 C.2.1 hd (L.2.2 _ _ hl).2 (hk p l e R s m args below meth c D cA base mcT msT H locs cells slots xx Z lsr C hxx h1 h2 w S L he)
theorem ar_istore_n {d k pc n bc bs : Nat} {ls : List (Option Value)} {st : List Value} {h : ab_H} {Q : Option Value → ab_H → Prop} {j : Fin 4} {x : Int32} (hd : decode (ab_cod k) pc = .ok ((.istore_n j), 1)) (hj : j.val < ab_ml k) (hn : ∀ z, z + 1 = j.val → z ∉ ab_lo k) (hk : ab_W d k (pc + 1) n bc bs (ab_ls ls j.val (.int x)) st h Q) : ab_W d k pc n bc bs ls (.int x :: st) h Q :=
  fun p l e R s m args below meth c D cA base mcT msT H locs cells slots xx Z lsr C hxx h1 h2 w S L he => lv_istore_n C.1 C.2.1 hd rfl L.has hj rfl (fun lsr2 L2 => hk p l e R s m args below meth c D cA base mcT msT H locs cells slots xx Z lsr2 C hxx h1 h2 w S (L.set rfl hn L2) he)
theorem ar_istore {d k pc n bc bs : Nat} {ls : List (Option Value)} {st : List Value} {h : ab_H} {Q : Option Value → ab_H → Prop} {j : Nat} {x : Int32} (hd : decode (ab_cod k) pc = .ok ((.istore j), 2)) (hj : j < ab_ml k) (hn : ∀ z, z + 1 = j → z ∉ ab_lo k) (hk : ab_W d k (pc + 2) n bc bs (ab_ls ls j (.int x)) st h Q) : ab_W d k pc n bc bs ls (.int x :: st) h Q :=
  fun p l e R s m args below meth c D cA base mcT msT H locs cells slots xx Z lsr C hxx h1 h2 w S L he => lv_istore C.1 C.2.1 hd L.has hj rfl (fun lsr2 L2 => hk p l e R s m args below meth c D cA base mcT msT H locs cells slots xx Z lsr2 C hxx h1 h2 w S (L.set rfl hn L2) he)
theorem ar_fstore_n {d k pc n bc bs : Nat} {ls : List (Option Value)} {st : List Value} {h : ab_H} {Q : Option Value → ab_H → Prop} {j : Fin 4} {x : UInt32} (hd : decode (ab_cod k) pc = .ok ((.fstore_n j), 1)) (hj : j.val < ab_ml k) (hn : ∀ z, z + 1 = j.val → z ∉ ab_lo k) (hk : ab_W d k (pc + 1) n bc bs (ab_ls ls j.val (.float x)) st h Q) : ab_W d k pc n bc bs ls (.float x :: st) h Q :=
  fun p l e R s m args below meth c D cA base mcT msT H locs cells slots xx Z lsr C hxx h1 h2 w S L he => lv_fstore_n C.1 C.2.1 hd rfl L.has hj rfl (fun lsr2 L2 => hk p l e R s m args below meth c D cA base mcT msT H locs cells slots xx Z lsr2 C hxx h1 h2 w S (L.set rfl hn L2) he)
theorem ar_astore_n {d k pc n bc bs : Nat} {ls : List (Option Value)} {st : List Value} {h : ab_H} {Q : Option Value → ab_H → Prop} {j : Fin 4} {x : Nat} (hd : decode (ab_cod k) pc = .ok ((.astore_n j), 1)) (hj : j.val < ab_ml k) (hn : ∀ z, z + 1 = j.val → z ∉ ab_lo k) (hk : ab_W d k (pc + 1) n bc bs (ab_ls ls j.val (.ref x)) st h Q) : ab_W d k pc n bc bs ls (.ref x :: st) h Q :=
  fun p l e R s m args below meth c D cA base mcT msT H locs cells slots xx Z lsr C hxx h1 h2 w S L he => lv_astore_n C.1 C.2.1 hd rfl L.has hj rfl (fun lsr2 L2 => hk p l e R s m args below meth c D cA base mcT msT H locs cells slots xx Z lsr2 C hxx h1 h2 w S (L.set rfl hn L2) he)
theorem ar_astore {d k pc n bc bs : Nat} {ls : List (Option Value)} {st : List Value} {h : ab_H} {Q : Option Value → ab_H → Prop} {j : Nat} {x : Nat} (hd : decode (ab_cod k) pc = .ok ((.astore j), 2)) (hj : j < ab_ml k) (hn : ∀ z, z + 1 = j → z ∉ ab_lo k) (hk : ab_W d k (pc + 2) n bc bs (ab_ls ls j (.ref x)) st h Q) : ab_W d k pc n bc bs ls (.ref x :: st) h Q :=
  fun p l e R s m args below meth c D cA base mcT msT H locs cells slots xx Z lsr C hxx h1 h2 w S L he => lv_astore C.1 C.2.1 hd L.has hj rfl (fun lsr2 L2 => hk p l e R s m args below meth c D cA base mcT msT H locs cells slots xx Z lsr2 C hxx h1 h2 w S (L.set rfl hn L2) he)
theorem ar_astore_nN {d k pc n bc bs : Nat} {ls : List (Option Value)} {st : List Value} {h : ab_H} {Q : Option Value → ab_H → Prop} {j : Fin 4} (hd : decode (ab_cod k) pc = .ok ((.astore_n j), 1)) (hj : j.val < ab_ml k) (hn : ∀ z, z + 1 = j.val → z ∉ ab_lo k) (hk : ab_W d k (pc + 1) n bc bs (ab_ls ls j.val (.null)) st h Q) : ab_W d k pc n bc bs ls (.null :: st) h Q :=
  fun p l e R s m args below meth c D cA base mcT msT H locs cells slots xx Z lsr C hxx h1 h2 w S L he => lv_astore_nN C.1 C.2.1 hd rfl L.has hj rfl (fun lsr2 L2 => hk p l e R s m args below meth c D cA base mcT msT H locs cells slots xx Z lsr2 C hxx h1 h2 w S (L.set rfl hn L2) he)
theorem ar_astoreN {d k pc n bc bs : Nat} {ls : List (Option Value)} {st : List Value} {h : ab_H} {Q : Option Value → ab_H → Prop} {j : Nat} (hd : decode (ab_cod k) pc = .ok ((.astore j), 2)) (hj : j < ab_ml k) (hn : ∀ z, z + 1 = j → z ∉ ab_lo k) (hk : ab_W d k (pc + 2) n bc bs (ab_ls ls j (.null)) st h Q) : ab_W d k pc n bc bs ls (.null :: st) h Q :=
  fun p l e R s m args below meth c D cA base mcT msT H locs cells slots xx Z lsr C hxx h1 h2 w S L he => lv_astoreN C.1 C.2.1 hd L.has hj rfl (fun lsr2 L2 => hk p l e R s m args below meth c D cA base mcT msT H locs cells slots xx Z lsr2 C hxx h1 h2 w S (L.set rfl hn L2) he)
theorem ar_lstore_n {d k pc n bc bs : Nat} {ls : List (Option Value)} {st : List Value} {h : ab_H} {Q : Option Value → ab_H → Prop} {j : Fin 4} {x : Int64} (hd : decode (ab_cod k) pc = .ok ((.lstore_n j), 1)) (hj : j.val + 1 < ab_ml k) (hm : j.val ∈ ab_lo k) (hn : ∀ z, z + 1 = j.val → z ∉ ab_lo k) (hk : ab_W d k (pc + 1) n bc bs (ab_ls (ab_ln ls (j.val + 1)) j.val (.long x)) st h Q) : ab_W d k pc n bc bs ls (.long x :: st) h Q :=
  fun p l e R s m args below meth c D cA base mcT msT H locs cells slots xx Z lsr C hxx h1 h2 w S L he => lv_lstore_n C.1 C.2.1 hd rfl L.has hj rfl (fun lsr2 L2 => hk p l e R s m args below meth c D cA base mcT msT H locs cells slots xx Z lsr2 C hxx h1 h2 w S (L.setl hm hn L2) he)
theorem ar_lstore {d k pc n bc bs : Nat} {ls : List (Option Value)} {st : List Value} {h : ab_H} {Q : Option Value → ab_H → Prop} {j : Nat} {x : Int64} (hd : decode (ab_cod k) pc = .ok ((.lstore j), 2)) (hj : j + 1 < ab_ml k) (hm : j ∈ ab_lo k) (hn : ∀ z, z + 1 = j → z ∉ ab_lo k) (hk : ab_W d k (pc + 2) n bc bs (ab_ls (ab_ln ls (j + 1)) j (.long x)) st h Q) : ab_W d k pc n bc bs ls (.long x :: st) h Q :=
  fun p l e R s m args below meth c D cA base mcT msT H locs cells slots xx Z lsr C hxx h1 h2 w S L he => lv_lstore C.1 C.2.1 hd L.has hj rfl (fun lsr2 L2 => hk p l e R s m args below meth c D cA base mcT msT H locs cells slots xx Z lsr2 C hxx h1 h2 w S (L.setl hm hn L2) he)
theorem ar_iinc {d k pc n bc bs : Nat} {ls : List (Option Value)} {st : List Value} {h : ab_H} {Q : Option Value → ab_H → Prop} {j : Nat} {i : Int} {x : Int32} (hd : decode (ab_cod k) pc = .ok (.iinc j i, 3)) (hj : j < ab_ml k) (hn : ∀ z, z + 1 = j → z ∉ ab_lo k) (hl : ab_lg ls j = some (.int x)) (hk : ab_W d k (pc + 3) n bc bs (ab_ls ls j (.int (x + Int32.ofInt i))) st h Q) : ab_W d k pc n bc bs ls st h Q := by
  intro p l e R s m args below meth c D cA base mcT msT H locs cells slots xx Z lsr C hxx h1 h2 w S L he
  obtain ⟨q, hq⟩ := List.getElem?_of_mem ((ab_lp_mem (base := base) (ls := ls) (i := 0) (j := j) (w := .int x)).mpr ⟨.int x, Nat.zero_le _, hl, rfl⟩)
  exact lv_iinc C.1 C.2.1 hd L.has hq rfl hj rfl (fun lsr2 L2 => hk p l e R s m args below meth c D cA base mcT msT H locs cells slots xx Z lsr2 C hxx h1 h2 w S (L.set rfl hn L2) he)
theorem ar_dup {d k pc n bc bs : Nat} {ls : List (Option Value)} {st : List Value} {h : ab_H} {Q : Option Value → ab_H → Prop} {v : Value} (hd : decode (ab_cod k) pc = .ok (.dup, 1)) (hv : v.category = 1) (hk : ab_W d k (pc + 1) n bc bs ls (v :: v :: st) h Q) : ab_W d k pc n bc bs ls (v :: st) h Q :=
  fun p l e R s m args below meth c D cA base mcT msT H locs cells slots xx Z lsr C hxx h1 h2 w S L he => lv_dup C.1 C.2.1 hd (by rw [ab_em_cat]; exact hv) (hk p l e R s m args below meth c D cA base mcT msT H locs cells slots xx Z lsr C hxx h1 h2 w S L he)
theorem ar_dup2 {d k pc n bc bs : Nat} {ls : List (Option Value)} {st : List Value} {h : ab_H} {Q : Option Value → ab_H → Prop} {v u : Value} (hd : decode (ab_cod k) pc = .ok (.dup2, 1)) (hv : v.category = 1) (hu : u.category = 1) (hk : ab_W d k (pc + 1) n bc bs ls (v :: u :: v :: u :: st) h Q) : ab_W d k pc n bc bs ls (v :: u :: st) h Q :=
  fun p l e R s m args below meth c D cA base mcT msT H locs cells slots xx Z lsr C hxx h1 h2 w S L he => lv_dup2_11 C.1 C.2.1 hd (by rw [ab_em_cat]; exact hv) (by rw [ab_em_cat]; exact hu) (hk p l e R s m args below meth c D cA base mcT msT H locs cells slots xx Z lsr C hxx h1 h2 w S L he)
theorem ar_icmp_eq {d k pc n bc bs : Nat} {ls : List (Option Value)} {st : List Value} {h : ab_H} {Q : Option Value → ab_H → Prop} {x y : Int32} {off : Int} {t : Nat} (hd : decode (ab_cod k) pc = .ok (.if_icmp .eq off, 3)) (ht : (pc : Int) + off = (t : Int)) (ha : x = y → ab_W d k t n bc bs ls st h Q) (hb : ¬ x = y → ab_W d k (pc + 3) n bc bs ls st h Q) : ab_W d k pc n bc bs ls (.int y :: .int x :: st) h Q :=
  fun p l e R s m args below meth c D cA base mcT msT H locs cells slots xx Z lsr C hxx h1 h2 w S L he => lv_icmp_eq C.1 C.2.1 hd ht (fun q => ha q p l e R s m args below meth c D cA base mcT msT H locs cells slots xx Z lsr C hxx h1 h2 w S L he) (fun q => hb q p l e R s m args below meth c D cA base mcT msT H locs cells slots xx Z lsr C hxx h1 h2 w S L he)
theorem ar_icmp_ne {d k pc n bc bs : Nat} {ls : List (Option Value)} {st : List Value} {h : ab_H} {Q : Option Value → ab_H → Prop} {x y : Int32} {off : Int} {t : Nat} (hd : decode (ab_cod k) pc = .ok (.if_icmp .ne off, 3)) (ht : (pc : Int) + off = (t : Int)) (ha : ¬ x = y → ab_W d k t n bc bs ls st h Q) (hb : x = y → ab_W d k (pc + 3) n bc bs ls st h Q) : ab_W d k pc n bc bs ls (.int y :: .int x :: st) h Q :=
  fun p l e R s m args below meth c D cA base mcT msT H locs cells slots xx Z lsr C hxx h1 h2 w S L he => lv_icmp_ne C.1 C.2.1 hd ht (fun q => ha q p l e R s m args below meth c D cA base mcT msT H locs cells slots xx Z lsr C hxx h1 h2 w S L he) (fun q => hb q p l e R s m args below meth c D cA base mcT msT H locs cells slots xx Z lsr C hxx h1 h2 w S L he)
theorem ar_icmp_lt {d k pc n bc bs : Nat} {ls : List (Option Value)} {st : List Value} {h : ab_H} {Q : Option Value → ab_H → Prop} {x y : Int32} {off : Int} {t : Nat} (hd : decode (ab_cod k) pc = .ok (.if_icmp .lt off, 3)) (ht : (pc : Int) + off = (t : Int)) (ha : x < y → ab_W d k t n bc bs ls st h Q) (hb : ¬ x < y → ab_W d k (pc + 3) n bc bs ls st h Q) : ab_W d k pc n bc bs ls (.int y :: .int x :: st) h Q :=
  fun p l e R s m args below meth c D cA base mcT msT H locs cells slots xx Z lsr C hxx h1 h2 w S L he => lv_icmp_lt C.1 C.2.1 hd ht (fun q => ha q p l e R s m args below meth c D cA base mcT msT H locs cells slots xx Z lsr C hxx h1 h2 w S L he) (fun q => hb q p l e R s m args below meth c D cA base mcT msT H locs cells slots xx Z lsr C hxx h1 h2 w S L he)
theorem ar_icmp_ge {d k pc n bc bs : Nat} {ls : List (Option Value)} {st : List Value} {h : ab_H} {Q : Option Value → ab_H → Prop} {x y : Int32} {off : Int} {t : Nat} (hd : decode (ab_cod k) pc = .ok (.if_icmp .ge off, 3)) (ht : (pc : Int) + off = (t : Int)) (ha : y ≤ x → ab_W d k t n bc bs ls st h Q) (hb : ¬ y ≤ x → ab_W d k (pc + 3) n bc bs ls st h Q) : ab_W d k pc n bc bs ls (.int y :: .int x :: st) h Q :=
  fun p l e R s m args below meth c D cA base mcT msT H locs cells slots xx Z lsr C hxx h1 h2 w S L he => lv_icmp_ge C.1 C.2.1 hd ht (fun q => ha q p l e R s m args below meth c D cA base mcT msT H locs cells slots xx Z lsr C hxx h1 h2 w S L he) (fun q => hb q p l e R s m args below meth c D cA base mcT msT H locs cells slots xx Z lsr C hxx h1 h2 w S L he)
theorem ar_icmp_gt {d k pc n bc bs : Nat} {ls : List (Option Value)} {st : List Value} {h : ab_H} {Q : Option Value → ab_H → Prop} {x y : Int32} {off : Int} {t : Nat} (hd : decode (ab_cod k) pc = .ok (.if_icmp .gt off, 3)) (ht : (pc : Int) + off = (t : Int)) (ha : y < x → ab_W d k t n bc bs ls st h Q) (hb : ¬ y < x → ab_W d k (pc + 3) n bc bs ls st h Q) : ab_W d k pc n bc bs ls (.int y :: .int x :: st) h Q :=
  fun p l e R s m args below meth c D cA base mcT msT H locs cells slots xx Z lsr C hxx h1 h2 w S L he => lv_icmp_gt C.1 C.2.1 hd ht (fun q => ha q p l e R s m args below meth c D cA base mcT msT H locs cells slots xx Z lsr C hxx h1 h2 w S L he) (fun q => hb q p l e R s m args below meth c D cA base mcT msT H locs cells slots xx Z lsr C hxx h1 h2 w S L he)
theorem ar_icmp_le {d k pc n bc bs : Nat} {ls : List (Option Value)} {st : List Value} {h : ab_H} {Q : Option Value → ab_H → Prop} {x y : Int32} {off : Int} {t : Nat} (hd : decode (ab_cod k) pc = .ok (.if_icmp .le off, 3)) (ht : (pc : Int) + off = (t : Int)) (ha : x ≤ y → ab_W d k t n bc bs ls st h Q) (hb : ¬ x ≤ y → ab_W d k (pc + 3) n bc bs ls st h Q) : ab_W d k pc n bc bs ls (.int y :: .int x :: st) h Q :=
  fun p l e R s m args below meth c D cA base mcT msT H locs cells slots xx Z lsr C hxx h1 h2 w S L he => lv_icmp_le C.1 C.2.1 hd ht (fun q => ha q p l e R s m args below meth c D cA base mcT msT H locs cells slots xx Z lsr C hxx h1 h2 w S L he) (fun q => hb q p l e R s m args below meth c D cA base mcT msT H locs cells slots xx Z lsr C hxx h1 h2 w S L he)
theorem ar_if_eq {d k pc n bc bs : Nat} {ls : List (Option Value)} {st : List Value} {h : ab_H} {Q : Option Value → ab_H → Prop} {x : Int32} {off : Int} {t : Nat} (hd : decode (ab_cod k) pc = .ok (.ifCond .eq off, 3)) (ht : (pc : Int) + off = (t : Int)) (ha : x = 0 → ab_W d k t n bc bs ls st h Q) (hb : ¬ x = 0 → ab_W d k (pc + 3) n bc bs ls st h Q) : ab_W d k pc n bc bs ls (.int x :: st) h Q :=
  fun p l e R s m args below meth c D cA base mcT msT H locs cells slots xx Z lsr C hxx h1 h2 w S L he => lv_if_eq C.1 C.2.1 hd ht (fun q => ha q p l e R s m args below meth c D cA base mcT msT H locs cells slots xx Z lsr C hxx h1 h2 w S L he) (fun q => hb q p l e R s m args below meth c D cA base mcT msT H locs cells slots xx Z lsr C hxx h1 h2 w S L he)
theorem ar_if_ne {d k pc n bc bs : Nat} {ls : List (Option Value)} {st : List Value} {h : ab_H} {Q : Option Value → ab_H → Prop} {x : Int32} {off : Int} {t : Nat} (hd : decode (ab_cod k) pc = .ok (.ifCond .ne off, 3)) (ht : (pc : Int) + off = (t : Int)) (ha : ¬ x = 0 → ab_W d k t n bc bs ls st h Q) (hb : x = 0 → ab_W d k (pc + 3) n bc bs ls st h Q) : ab_W d k pc n bc bs ls (.int x :: st) h Q :=
  fun p l e R s m args below meth c D cA base mcT msT H locs cells slots xx Z lsr C hxx h1 h2 w S L he => lv_if_ne C.1 C.2.1 hd ht (fun q => ha q p l e R s m args below meth c D cA base mcT msT H locs cells slots xx Z lsr C hxx h1 h2 w S L he) (fun q => hb q p l e R s m args below meth c D cA base mcT msT H locs cells slots xx Z lsr C hxx h1 h2 w S L he)
theorem ar_if_lt {d k pc n bc bs : Nat} {ls : List (Option Value)} {st : List Value} {h : ab_H} {Q : Option Value → ab_H → Prop} {x : Int32} {off : Int} {t : Nat} (hd : decode (ab_cod k) pc = .ok (.ifCond .lt off, 3)) (ht : (pc : Int) + off = (t : Int)) (ha : x < 0 → ab_W d k t n bc bs ls st h Q) (hb : ¬ x < 0 → ab_W d k (pc + 3) n bc bs ls st h Q) : ab_W d k pc n bc bs ls (.int x :: st) h Q :=
  fun p l e R s m args below meth c D cA base mcT msT H locs cells slots xx Z lsr C hxx h1 h2 w S L he => lv_if_lt C.1 C.2.1 hd ht (fun q => ha q p l e R s m args below meth c D cA base mcT msT H locs cells slots xx Z lsr C hxx h1 h2 w S L he) (fun q => hb q p l e R s m args below meth c D cA base mcT msT H locs cells slots xx Z lsr C hxx h1 h2 w S L he)
theorem ar_if_ge {d k pc n bc bs : Nat} {ls : List (Option Value)} {st : List Value} {h : ab_H} {Q : Option Value → ab_H → Prop} {x : Int32} {off : Int} {t : Nat} (hd : decode (ab_cod k) pc = .ok (.ifCond .ge off, 3)) (ht : (pc : Int) + off = (t : Int)) (ha : 0 ≤ x → ab_W d k t n bc bs ls st h Q) (hb : ¬ 0 ≤ x → ab_W d k (pc + 3) n bc bs ls st h Q) : ab_W d k pc n bc bs ls (.int x :: st) h Q :=
  fun p l e R s m args below meth c D cA base mcT msT H locs cells slots xx Z lsr C hxx h1 h2 w S L he => lv_if_ge C.1 C.2.1 hd ht (fun q => ha q p l e R s m args below meth c D cA base mcT msT H locs cells slots xx Z lsr C hxx h1 h2 w S L he) (fun q => hb q p l e R s m args below meth c D cA base mcT msT H locs cells slots xx Z lsr C hxx h1 h2 w S L he)
theorem ar_if_gt {d k pc n bc bs : Nat} {ls : List (Option Value)} {st : List Value} {h : ab_H} {Q : Option Value → ab_H → Prop} {x : Int32} {off : Int} {t : Nat} (hd : decode (ab_cod k) pc = .ok (.ifCond .gt off, 3)) (ht : (pc : Int) + off = (t : Int)) (ha : 0 < x → ab_W d k t n bc bs ls st h Q) (hb : ¬ 0 < x → ab_W d k (pc + 3) n bc bs ls st h Q) : ab_W d k pc n bc bs ls (.int x :: st) h Q :=
  fun p l e R s m args below meth c D cA base mcT msT H locs cells slots xx Z lsr C hxx h1 h2 w S L he => lv_if_gt C.1 C.2.1 hd ht (fun q => ha q p l e R s m args below meth c D cA base mcT msT H locs cells slots xx Z lsr C hxx h1 h2 w S L he) (fun q => hb q p l e R s m args below meth c D cA base mcT msT H locs cells slots xx Z lsr C hxx h1 h2 w S L he)
theorem ar_if_le {d k pc n bc bs : Nat} {ls : List (Option Value)} {st : List Value} {h : ab_H} {Q : Option Value → ab_H → Prop} {x : Int32} {off : Int} {t : Nat} (hd : decode (ab_cod k) pc = .ok (.ifCond .le off, 3)) (ht : (pc : Int) + off = (t : Int)) (ha : x ≤ 0 → ab_W d k t n bc bs ls st h Q) (hb : ¬ x ≤ 0 → ab_W d k (pc + 3) n bc bs ls st h Q) : ab_W d k pc n bc bs ls (.int x :: st) h Q :=
  fun p l e R s m args below meth c D cA base mcT msT H locs cells slots xx Z lsr C hxx h1 h2 w S L he => lv_if_le C.1 C.2.1 hd ht (fun q => ha q p l e R s m args below meth c D cA base mcT msT H locs cells slots xx Z lsr C hxx h1 h2 w S L he) (fun q => hb q p l e R s m args below meth c D cA base mcT msT H locs cells slots xx Z lsr C hxx h1 h2 w S L he)
theorem ar_goto {d k pc n bc bs : Nat} {ls : List (Option Value)} {st : List Value} {h : ab_H} {Q : Option Value → ab_H → Prop} {off : Int} {t : Nat} (hd : decode (ab_cod k) pc = .ok (.goto off, 3)) (ht : (pc : Int) + off = (t : Int)) (hk : ab_W d k t n bc bs ls st h Q) : ab_W d k pc n bc bs ls st h Q :=
  fun p l e R s m args below meth c D cA base mcT msT H locs cells slots xx Z lsr C hxx h1 h2 w S L he => lv_goto C.1 C.2.1 hd ht (hk p l e R s m args below meth c D cA base mcT msT H locs cells slots xx Z lsr C hxx h1 h2 w S L he)
theorem ar_ifnull {d k pc n bc bs : Nat} {ls : List (Option Value)} {st : List Value} {h : ab_H} {Q : Option Value → ab_H → Prop} {x : Nat} {off : Int} {t : Nat} (hd : decode (ab_cod k) pc = .ok (.ifnull off, 3)) (ht : (pc : Int) + off = (t : Int)) (hk : ab_W d k (pc + 3) n bc bs ls st h Q) : ab_W d k pc n bc bs ls (.ref x :: st) h Q :=
  fun p l e R s m args below meth c D cA base mcT msT H locs cells slots xx Z lsr C hxx h1 h2 w S L he => lv_ifnull C.1 C.2.1 hd (hk p l e R s m args below meth c D cA base mcT msT H locs cells slots xx Z lsr C hxx h1 h2 w S L he)
theorem ar_ifnonnull {d k pc n bc bs : Nat} {ls : List (Option Value)} {st : List Value} {h : ab_H} {Q : Option Value → ab_H → Prop} {x : Nat} {off : Int} {t : Nat} (hd : decode (ab_cod k) pc = .ok (.ifnonnull off, 3)) (ht : (pc : Int) + off = (t : Int)) (hk : ab_W d k t n bc bs ls st h Q) : ab_W d k pc n bc bs ls (.ref x :: st) h Q :=
  fun p l e R s m args below meth c D cA base mcT msT H locs cells slots xx Z lsr C hxx h1 h2 w S L he => lv_ifnonnull C.1 C.2.1 hd ht (hk p l e R s m args below meth c D cA base mcT msT H locs cells slots xx Z lsr C hxx h1 h2 w S L he)
theorem ar_ifnullN {d k pc n bc bs : Nat} {ls : List (Option Value)} {st : List Value} {h : ab_H} {Q : Option Value → ab_H → Prop} {off : Int} {t : Nat} (hd : decode (ab_cod k) pc = .ok (.ifnull off, 3)) (ht : (pc : Int) + off = (t : Int)) (hk : ab_W d k t n bc bs ls st h Q) : ab_W d k pc n bc bs ls (.null :: st) h Q :=
  fun p l e R s m args below meth c D cA base mcT msT H locs cells slots xx Z lsr C hxx h1 h2 w S L he => lv_ifnullN C.1 C.2.1 hd ht (hk p l e R s m args below meth c D cA base mcT msT H locs cells slots xx Z lsr C hxx h1 h2 w S L he)
theorem ar_ifnonnullN {d k pc n bc bs : Nat} {ls : List (Option Value)} {st : List Value} {h : ab_H} {Q : Option Value → ab_H → Prop} {off : Int} {t : Nat} (hd : decode (ab_cod k) pc = .ok (.ifnonnull off, 3)) (ht : (pc : Int) + off = (t : Int)) (hk : ab_W d k (pc + 3) n bc bs ls st h Q) : ab_W d k pc n bc bs ls (.null :: st) h Q :=
  fun p l e R s m args below meth c D cA base mcT msT H locs cells slots xx Z lsr C hxx h1 h2 w S L he => lv_ifnonnullN C.1 C.2.1 hd (hk p l e R s m args below meth c D cA base mcT msT H locs cells slots xx Z lsr C hxx h1 h2 w S L he)
theorem ar_tout {d k pc n bc bs : Nat} {ls : List (Option Value)} {st : List Value} {h : ab_H} {Q : Option Value → ab_H → Prop} {x : Int32} {df lo hi : Int} {offs : Array Int} {len t : Nat} (hd : decode (ab_cod k) pc = .ok (.tableswitch df lo hi offs, len)) (hx : x.toInt < lo ∨ hi < x.toInt) (ht : (pc : Int) + df = (t : Int)) (hk : ab_W d k t n bc bs ls st h Q) : ab_W d k pc n bc bs ls (.int x :: st) h Q :=
  fun p l e R s m args below meth c D cA base mcT msT H locs cells slots xx Z lsr C hxx h1 h2 w S L he => lv_tableOut C.1 C.2.1 hd hx ht (hk p l e R s m args below meth c D cA base mcT msT H locs cells slots xx Z lsr C hxx h1 h2 w S L he)
theorem ar_tin {d k pc n bc bs : Nat} {ls : List (Option Value)} {st : List Value} {h : ab_H} {Q : Option Value → ab_H → Prop} {x : Int32} {df lo hi off : Int} {offs : Array Int} {len t : Nat} (hd : decode (ab_cod k) pc = .ok (.tableswitch df lo hi offs, len)) (hx : ¬ x.toInt < lo) (hy : ¬ hi < x.toInt) (ho : offs[(x.toInt - lo).toNat]? = some off) (ht : (pc : Int) + off = (t : Int)) (hk : ab_W d k t n bc bs ls st h Q) : ab_W d k pc n bc bs ls (.int x :: st) h Q :=
  fun p l e R s m args below meth c D cA base mcT msT H locs cells slots xx Z lsr C hxx h1 h2 w S L he => lv_tableIn C.1 C.2.1 hd hx hy ho ht (hk p l e R s m args below meth c D cA base mcT msT H locs cells slots xx Z lsr C hxx h1 h2 w S L he)
theorem ar_lookup {d k pc n bc bs : Nat} {ls : List (Option Value)} {st : List Value} {h : ab_H} {Q : Option Value → ab_H → Prop} {x : Int32} {df off : Int} {ps : Array (Int × Int)} {len t : Nat} (hd : decode (ab_cod k) pc = .ok (.lookupswitch df ps, len)) (hp : (ps.toList.zip (ps.toList.drop 1)).all (fun (a, next) => a.1 < next.1) = true) (ho : Op.lookupswitch.offset ps.toList df x.toInt = off) (ht : (pc : Int) + off = (t : Int)) (hk : ab_W d k t n bc bs ls st h Q) : ab_W d k pc n bc bs ls (.int x :: st) h Q :=
  fun p l e R s m args below meth c D cA base mcT msT H locs cells slots xx Z lsr C hxx h1 h2 w S L he => lv_lookup C.1 C.2.1 hd hp ho ht (hk p l e R s m args below meth c D cA base mcT msT H locs cells slots xx Z lsr C hxx h1 h2 w S L he)
theorem ar_ret {d k pc n bs : Nat} {ls : List (Option Value)} {h : ab_H} {Q : Option Value → ab_H → Prop} {r : Option Value} (hr : ab_rI k pc r) (hq : Q r h) : ab_W d k pc n 0 bs ls r.toList h Q :=
  fun p l e R s m args below meth c D cA base mcT msT H locs cells slots xx Z lsr C hxx h1 h2 w S L he => he r h H locs cells slots pc lsr hq w S (by omega) (by omega) hr
end
section
/-! ===== RULES of the heap ===== -/
def ab_lay9 : Bool := (List.range 8).all (fun ci => (u_ws (ab_cn ci) (ab_tx ci) (ab_nf ci)).all (fun w => decide (w ∈ lw_tbl) && goodWord w))
set_option maxRecDepth 100000 in
theorem ab_lay9_ok : ab_lay9 = true := by decide +kernel
theorem ab_lays {ci : Nat} (hc : ci < 8) : ∀ w ∈ u_ws (ab_cn ci) (ab_tx ci) (ab_nf ci), w ∈ ab_Tg := by
  intro w hw
  have h1 := List.all_eq_true.mp (List.all_eq_true.mp ab_lay9_ok ci (List.mem_range.mpr hc)) w hw
  simp only [Bool.and_eq_true, decide_eq_true_eq] at h1
  exact List.mem_filter.mpr h1
theorem ab_cl {ci : Nat} (hc : ci < 8) : vwCl[ci]? = some (ab_cn ci, ab_tx ci, ab_nf ci) := by
  match ci, hc with
  | 0, _ => rfl
  | 1, _ => rfl
  | 2, _ => rfl
  | 3, _ => rfl
  | 4, _ => rfl
  | 5, _ => rfl
  | 6, _ => rfl
  | 7, _ => rfl
theorem ab_tyo {ci : Nat} (hc : ci < 8) : ∀ k, k < ab_nf ci → parseFieldDescriptor (ab_tx ci k).2.2.1 = some (ab_ty ci k) := by
  match ci, hc with
  | 0, _ => exact tyX0_ok
  | 1, _ => exact tyX1_ok
  | 2, _ => exact tyX2_ok
  | 3, _ => exact tyX3_ok
  | 4, _ => exact tyX4_ok
  | 5, _ => exact tyX5_ok
  | 6, _ => exact tyX6_ok
  | 7, _ => exact tyX7_ok
theorem ab_nmo {ci : Nat} (hc : ci < 8) : ∀ a, a < ab_nf ci → ∀ b, b < ab_nf ci → a ≠ b → (ab_tx ci a).2.1 ≠ (ab_tx ci b).2.1 := by
  match ci, hc with
  | 0, _ => exact nmX0
  | 1, _ => exact nmX1
  | 2, _ => exact nmX2
  | 3, _ => exact nmX3
  | 4, _ => exact nmX4
  | 5, _ => exact nmX5
  | 6, _ => exact nmX6
  | 7, _ => exact nmX7
theorem ab_ce_o {cA : ClassId} {base b ci : Nat} {h : ab_H} (hc : ci < 8) (hs : ab_sh b = ci) : ab_ce cA base h b = .inr (ci, ab_ob base h b ci) := by
  unfold ab_ce
  rw [hs, if_neg (by omega)]
theorem ab_ce_a {cA : ClassId} {base b : Nat} {h : ab_H} (hs : 100 ≤ ab_sh b) : ab_ce cA base h b = .inl (cA, ab_sh b - 100, .inl (h.1 b)) := by
  unfold ab_ce
  rw [if_pos hs]
theorem ab_ob_at {base b ci f : Nat} {h : ab_H} (hf : f < ab_nf ci) : (ab_ob base h b ci)[f]? = some (ab_fv base h b ci f) := by
  unfold ab_ob
  rw [List.getElem?_map, List.getElem?_range hf]
  rfl
theorem ab_ob_len {base b ci : Nat} {h : ab_H} : (ab_ob base h b ci).length = ab_nf ci := by simp [ab_ob]
/-- one cell of the world as a small world -/
theorem ab_Wd.one {D : va_G} {cA : ClassId} {base n xx b : Nat} {h : ab_H} {H : Heap} (w : ab_Wd D cA base n xx h H) (hb : b < n) : va_P D vwCl [(base + b, ab_ce cA base h b)] H := by
  intro k q hq
  have hk : k < 1 := (List.getElem?_eq_some_iff.mp hq).1
  rw [show k = 0 by omega] at hq
  cases hq
  exact w.2 b hb
def ab_lk (k idx : Nat) (T : String × String × String × Bool) : Prop := Jvm.Cond.fieldLink (ab_yn k).cls idx T.1 T.2.1 T.2.2.1 ∈ ab_Tg ∨ ∃ host, Jvm.Cond.fieldLinkNest (ab_yn k).cls idx T.1 T.2.1 T.2.2.1 host ∈ ab_nw
theorem ar_get {d k pc n bc bs : Nat} {ls : List (Option Value)} {st : List Value} {h : ab_H} {Q : Option Value → ab_H → Prop} {ci f idx b : Nat} {v : Value} (hd : decode (ab_cod k) pc = .ok (.getfield idx, 3)) (hc : ci < 8) (hf : f < ab_nf ci) (hb : b < n) (hs : ab_sh b = ci)
    (hl : ab_lk k idx (ab_tx ci f)) (hv : ∀ base, ab_fv base h b ci f = ab_em base v) (hk : ab_W d k (pc + 3) n bc bs ls (v :: st) h Q) : ab_W d k pc n bc bs ls (.ref b :: st) h Q := by
  intro p l e R s m args below meth c D cA base mcT msT H locs cells slots xx Z lsr C hxx h1 h2 w S L he
  have hP := w.one hb
  rw [ab_ce_o hc hs] at hP
  have g := hk p l e R s m args below meth c D cA base mcT msT H locs cells slots xx Z lsr C hxx h1 h2 w S L he
  rcases hl with hl | ⟨host, hl⟩
  · exact va_get C.1 C.2.1 C.2.2.2.2.2.1 (ab_lays hc) C.2.2.2.2.1 C.2.2.2.2.2.2.2.2.2.1 hP 0 rfl (ab_cl hc) f hf (C.2.2.2.2.2.1 _ hl) (fun _ h9 => h9) (by rw [ab_ob_at hf, hv]) hd g
  · exact va_getN C.1 C.2.1 C.2.2.2.2.2.1 (ab_lays hc) C.2.2.2.2.1 C.2.2.2.2.2.2.2.2.2.1 hP 0 rfl (ab_cl hc) f hf (va_Nw.use rfl (C.2.2.2.2.2.2.1 _ hl)) (fun _ h9 => h9) (by rw [ab_ob_at hf, hv]) hd g
/-- the cells of a heap that differs at one cell -/
theorem ab_Wd.put {D : va_G} {cA : ClassId} {base n xx b : Nat} {h h' : ab_H} {H H' : Heap} (w : ab_Wd D cA base n xx h H) (z : H'.size = H.size) (o : ∀ q : Nat, q ≠ base + b → H'[q]? = H[q]?) (hx : ∀ k, k ≠ b → ab_ce cA base h' k = ab_ce cA base h k) (hb : va_at D vwCl (base + b, ab_ce cA base h' b) H') : ab_Wd D cA base n xx h' H' := by
  refine ⟨⟨w.1.1, z.trans w.1.2⟩, fun k hk => ?_⟩
  by_cases hkb : k = b
  · subst hkb; exact hb
  · rw [hx k hkb]
    exact (w.2 k hk).kept (o _ (by show base + k ≠ base + b; omega))
theorem ab_ce_hi {cA : ClassId} {base b i k : Nat} {h : ab_H} {v : Int32} (hk : k ≠ b) : ab_ce cA base (ab_hi h b i v) k = ab_ce cA base h k := by
  have e1 : (ab_hi h b i v).1 k = h.1 k := by funext j; simp [ab_hi, hk]
  have e2 : (ab_hi h b i v).2 k = h.2 k := rfl
  have e3 : ∀ ci, ab_ob base (ab_hi h b i v) k ci = ab_ob base h k ci := by
    intro ci
    unfold ab_ob
    congr 1
    funext f
    unfold ab_fv
    rw [e1, e2]
  unfold ab_ce
  rw [e1, e3]
theorem ab_ce_hr {cA : ClassId} {base b i k r : Nat} {h : ab_H} (hk : k ≠ b) : ab_ce cA base (ab_hr h b i r) k = ab_ce cA base h k := by
  have e1 : (ab_hr h b i r).1 k = h.1 k := rfl
  have e2 : (ab_hr h b i r).2 k = h.2 k := by funext j; simp [ab_hr, hk]
  have e3 : ∀ ci, ab_ob base (ab_hr h b i r) k ci = ab_ob base h k ci := by
    intro ci
    unfold ab_ob
    congr 1
    funext f
    unfold ab_fv
    rw [e1, e2]
  unfold ab_ce
  rw [e1, e3]
theorem ab_ob_hi {base b ci f : Nat} {h : ab_H} {x : Int32} (hf : f < ab_nf ci) (hk : ab_fk ci f ≠ 1) : ab_ob base (ab_hi h b f x) b ci = (ab_ob base h b ci).set f (.int x) := by
  apply List.ext_getElem?
  intro j
  by_cases hj : j < ab_nf ci
  · rw [ab_ob_at hj]
    by_cases hjf : j = f
    · subst hjf
      rw [List.getElem?_set_self (by rw [ab_ob_len]; exact hf)]
      simp [ab_fv, hk, ab_hi]
    · rw [List.getElem?_set_ne (Ne.symm hjf), ab_ob_at hj]
      unfold ab_fv
      rw [show (ab_hi h b f x).1 b j = h.1 b j from by simp [ab_hi, hjf], show (ab_hi h b f x).2 b j = h.2 b j from rfl]
  · rw [List.getElem?_eq_none (by rw [ab_ob_len]; omega), List.getElem?_eq_none (by rw [List.length_set, ab_ob_len]; omega)]
theorem ab_ob_hr {base b ci f r : Nat} {h : ab_H} (hf : f < ab_nf ci) (hk : ab_fk ci f = 1) (hr : r ≠ ab_nul) : ab_ob base (ab_hr h b f r) b ci = (ab_ob base h b ci).set f (.ref (base + r)) := by
  apply List.ext_getElem?
  intro j
  by_cases hj : j < ab_nf ci
  · rw [ab_ob_at hj]
    by_cases hjf : j = f
    · subst hjf
      rw [List.getElem?_set_self (by rw [ab_ob_len]; exact hf)]
      simp [ab_fv, hk, ab_hr, hr]
    · rw [List.getElem?_set_ne (Ne.symm hjf), ab_ob_at hj]
      unfold ab_fv
      rw [show (ab_hr h b f r).1 b j = h.1 b j from rfl, show (ab_hr h b f r).2 b j = h.2 b j from by simp [ab_hr, hjf]]
  · rw [List.getElem?_eq_none (by rw [ab_ob_len]; omega), List.getElem?_eq_none (by rw [List.length_set, ab_ob_len]; omega)]
theorem ab_S.put {base b f : Nat} {H0 H H' : Heap} {locs : List Loc} (S : ab_S base H0 H locs) (hb : b < 192) (z : H'.size = H.size) (o : ∀ q : Nat, q ≠ base + b → H'[q]? = H[q]?) : ab_S base H0 H' (locs ++ [⟨base + b, f⟩]) := va_S.put S z o ⟨Nat.le_add_right _ _, by omega⟩
/-- putfield: the value as the machine has it is x, in the abstract heap h' -/
theorem ar_put {d k pc n bc bs : Nat} {ls : List (Option Value)} {st : List Value} {h h' : ab_H} {Q : Option Value → ab_H → Prop} {ci f idx b : Nat} {v : Value} (hd : decode (ab_cod k) pc = .ok (.putfield idx, 3)) (hc : ci < 8) (hf : f < ab_nf ci) (hb : b < n) (hs : ab_sh b = ci)
    (hl : ab_lk k idx (ab_tx ci f)) (hfi : (ab_tx ci f).2.2.2 = false ∨ ((ab_tx ci f).2.2.2 = true ∧ (ab_yn k).name = "<init>" ∧ (ab_tx ci f).1 = (ab_yn k).cls ∧ Jvm.Cond.fieldLink (ab_yn k).cls idx (ab_tx ci f).1 (ab_tx ci f).2.1 (ab_tx ci f).2.2.1 ∈ ab_Tg))
    (hn : ∀ base, narrow (ab_ty ci f) (ab_em base v) = ab_em base v) (hfit : ∀ base, fits (ab_ty ci f) (ab_em base v) = true)
    (ho : ∀ base, ab_ob base h' b ci = (ab_ob base h b ci).set f (ab_em base v)) (hx : ∀ cA base k, k ≠ b → ab_ce cA base h' k = ab_ce cA base h k)
    (hk : ab_W d k (pc + 3) n bc bs ls st h' Q) : ab_W d k pc n bc bs ls (v :: .ref b :: st) h Q := by
  intro p l e R s m args below meth c D cA base mcT msT H locs cells slots xx Z lsr C hxx h1 h2 w S L he
  obtain ⟨hx1, hb1, hr1, hml, hown, hts, hnw, hlk, hmn, hK, hR⟩ := id C
  have hP0 := w.2 b hb
  have g := fun H' locs' w' S' => hk p l e R s m args below meth c D cA base mcT msT H' locs' cells slots xx Z lsr C hxx h1 h2 w' S' L he
  rw [ab_ce_o hc hs] at hP0
  obtain ⟨r, h3, cell, q1, q2, q3, q4⟩ := hP0
  have hap := va_apart (own := (ab_yn k).cls) hts (ab_lays hc) (ab_ty ci) (ab_tyo hc) (ab_nmo hc) hK (ab_cl hc)
  have hr : r = (ab_cn ci, ab_tx ci, ab_nf ci) := Option.some.inj (h3.symm.trans (ab_cl hc))
  subst hr
  obtain ⟨hS, hfc, kC, hkC, hkind⟩ := hK.1 ci _ (ab_cl hc)
  obtain ⟨cf, kf, fi, fd, hi, hsl⟩ := hS f hf
  have hlay := hts _ ((ab_lays hc) _ (u_in_lay hf))
  have hst := (u_facts hfc hkC (u_lays hts (ab_lays hc) hf) hi).1
  have hfl : f < (ab_ob base h b ci).length := by rw [ab_ob_len]; exact hf
  have fin : ∀ (H' : Heap), H'[base + b]? = some (cell.setSlot (D.2 ci f) (ab_em base v)) → H'.size = H.size → (∀ q, q ≠ base + b → H'[q]? = H[q]?) → W p l e R s m args below meth c H' (locs ++ [⟨base + b, fd.slot⟩]) cells slots Z (F0 m (pc + 3) lsr (st.map (ab_em base))) := by
    intro H' e1 e2 e3
    refine g H' _ (w.put e2 e3 (fun k hk => hx cA base k hk) ?_) (S.put (Nat.lt_of_lt_of_le hb w.1.1) e2 e3)
    rw [ab_ce_o hc hs, ho]
    exact ⟨_, ab_cl hc, t_OB.to (V := updV (vp_V (ab_ob base h b ci)) f (ab_em base v)) ⟨_, e1, q2, q3, t_set q4 hap hf _⟩ (fun j _ => vp_updV_set hfl _ j)⟩
  rcases hfi with hfin | ⟨hfin, hini, hdecl, hl2⟩
  · unfold u_lay at hlay
    rw [if_neg (by rw [hfin]; decide)] at hlay
    have h6 := u_store hfc hkC hkind hlay hi (ab_tyo hc f hf) (hn base) (hfit base)
    rcases hl with hl | ⟨host, hl⟩
    · refine W.putK hx1 hb1 (f := fd) ⟨hown, hts _ hl, ⟨_, _, _, hi⟩, hst⟩ (by rw [q2]; exact h6) q1 q3 (by rw [hsl]; exact k2_hasslot (q4 f hf)) rfl rfl hd fun H' e1 e2 e3 => ?_
      exact fin H' (by rw [← hsl]; exact e1) e2 e3
    · refine va_WputK hx1 hb1 (f := fd) hown (va_Nw.use rfl (hnw _ hl)) hi hst (by rw [q2]; exact h6) q1 q3 (by rw [hsl]; exact k2_hasslot (q4 f hf)) rfl rfl hd fun H' e1 e2 e3 => ?_
      exact fin H' (by rw [← hsl]; exact e1) e2 e3
  · unfold u_lay at hlay
    rw [if_pos hfin] at hlay
    have hcf : m.cls = cf := by
      obtain ⟨_, _, c', _, _, _, -, -, hf', -, -, -, hown2, -⟩ := Cond.laysFinal_spec hlay
      have e1 : c' = cf := by have := hi.symm.trans hf'; simp at this; exact this.1.symm
      rw [hdecl] at hown2
      rw [← e1]; exact Option.some.inj (hown.symm.trans hown2)
    have h6 := u_fits hfc hkC hkind (Or.inr hlay) hi (ab_tyo hc f hf) (hn base) (hfit base)
    refine W.putFinK hx1 hb1 hown (hts _ hl2) hi hst hcf (hmn.trans hini) (by rw [q2]; exact h6) q1 q3 (by rw [hsl]; exact k2_hasslot (q4 f hf)) rfl rfl hd fun H' e1 e2 e3 => ?_
    exact fin H' (by rw [← hsl]; exact e1) e2 e3
theorem ab_ofNat (n : Nat) : Int32.ofNat n = Int32.ofInt (n : Int) := by
  apply Int32.toBitVec_inj.mp
  simp [Int32.ofInt, Int32.ofNat]
theorem ar_alen {d k pc n bc bs : Nat} {ls : List (Option Value)} {st : List Value} {h : ab_H} {Q : Option Value → ab_H → Prop} {b : Nat} (hd : decode (ab_cod k) pc = .ok (.arraylength, 1)) (hb : b < n) (hs : 100 ≤ ab_sh b)
    (hk : ab_W d k (pc + 1) n bc bs ls (.int (Int32.ofInt ((ab_sh b - 100 : Nat) : Int)) :: st) h Q) : ab_W d k pc n bc bs ls (.ref b :: st) h Q := by
  intro p l e R s m args below meth c D cA base mcT msT H locs cells slots xx Z lsr C hxx h1 h2 w S L he
  have hP := w.one hb
  rw [ab_ce_a hs] at hP
  have g := hk p l e R s m args below meth c D cA base mcT msT H locs cells slots xx Z lsr C hxx h1 h2 w S L he
  exact va_alen C.1 C.2.1 C.2.2.2.2.2.2.2.2.2.1 hP 0 0 rfl rfl (ab_ofNat _) hd g
theorem ar_iald {d k pc n bc bs : Nat} {ls : List (Option Value)} {st : List Value} {h : ab_H} {Q : Option Value → ab_H → Prop} {b : Nat} {i : Int32} (hd : decode (ab_cod k) pc = .ok (.iaload, 1)) (hb : b < n) (hs : 100 ≤ ab_sh b) (hi : vp_in i (ab_sh b - 100))
    (hk : ab_W d k (pc + 1) n bc bs ls (.int (h.1 b i.toNatClampNeg) :: st) h Q) : ab_W d k pc n bc bs ls (.int i :: .ref b :: st) h Q := by
  intro p l e R s m args below meth c D cA base mcT msT H locs cells slots xx Z lsr C hxx h1 h2 w S L he
  have hP := w.one hb
  rw [ab_ce_a hs] at hP
  have g := hk p l e R s m args below meth c D cA base mcT msT H locs cells slots xx Z lsr C hxx h1 h2 w S L he
  exact va_iald C.1 C.2.1 C.2.2.2.2.2.2.2.2.2.1 hP 0 0 rfl rfl hi hd g
theorem ar_iast {d k pc n bc bs : Nat} {ls : List (Option Value)} {st : List Value} {h : ab_H} {Q : Option Value → ab_H → Prop} {b : Nat} {i x : Int32} (hd : decode (ab_cod k) pc = .ok (.iastore, 1)) (hb : b < n) (hs : 100 ≤ ab_sh b) (hi : vp_in i (ab_sh b - 100))
    (hk : ab_W d k (pc + 1) n bc bs ls st (ab_hi h b i.toNatClampNeg x) Q) : ab_W d k pc n bc bs ls (.int x :: .int i :: .ref b :: st) h Q := by
  intro p l e R s m args below meth c D cA base mcT msT H locs cells slots xx Z lsr C hxx h1 h2 w S L he
  have g := fun H' locs' w' S' => hk p l e R s m args below meth c D cA base mcT msT H' locs' cells slots xx Z lsr C hxx h1 h2 w' S' L he
  have hP := w.2 b hb
  rw [ab_ce_a hs] at hP
  have hP' : H[base + b]? = some (vp_cell cA (ab_sh b - 100, .inl (h.1 b))) := hP
  refine W.iast C.1 C.2.1 hP' ((C.2.2.2.2.2.2.2.2.2.1.2 0 _ rfl).1 _ (fun j => .int (h.1 b j))) (fun q => by cases q) (by show ¬ (i < 0 ∨ (arrV _ _ _).slots.size ≤ _); rw [arrV_size]; exact hi) rfl rfl hd fun H1 e z oq => ?_
  refine g H1 _ (w.put z oq (fun k hk => ab_ce_hi hk) ?_) (S.put (Nat.lt_of_lt_of_le hb w.1.1) z oq)
  rw [ab_ce_a hs]
  show H1[base + b]? = some (vp_cell _ _)
  rw [e]
  rw [vp_cell_i, vp_cell_i, arrV_store]
  congr 2
  funext q
  by_cases hq : q = i.toNatClampNeg
  · subst hq
    simp [updV, ab_hi]
  · simp [updV, ab_hi, hq]
end
section
/-! ===== RULES: new cells, calls; a contract out of a walk (printed by wip/p28/mkcalls.py) ===== -/
def ab_tk (t : FieldType) : Bool := match t with
  | .int => true
  | .boolean => true
  | .object _ => true
  | .array _ => true
  | _ => false
theorem ab_tk9 : (List.range 8).all (fun ci => (List.range (ab_nf ci)).all (fun f => ab_tk (ab_ty ci f))) = true := by decide +kernel
theorem ab_fv_new {base b ci f : Nat} {h : ab_H} (hc : ci < 8) (hf : f < ab_nf ci) : ab_fv base (ab_hn h b) b ci f = defaultValue (ab_ty ci f) := by
  have h1 := List.all_eq_true.mp (List.all_eq_true.mp ab_tk9 ci (List.mem_range.mpr hc)) f (List.mem_range.mpr hf)
  unfold ab_fv ab_fk
  cases ht : ab_ty ci f <;> rw [ht] at h1 <;> first | (simp [ab_hn, defaultValue]; done) | (simp [ab_tk] at h1)
theorem ab_ce_hn {cA : ClassId} {base b k : Nat} {h : ab_H} (hk : k ≠ b) : ab_ce cA base (ab_hn h b) k = ab_ce cA base h k := by
  have e1 : (ab_hn h b).1 k = h.1 k := by funext j; simp [ab_hn, hk]
  have e2 : (ab_hn h b).2 k = h.2 k := by funext j; simp [ab_hn, hk]
  have e3 : ∀ ci, ab_ob base (ab_hn h b) k ci = ab_ob base h k ci := by
    intro ci
    unfold ab_ob
    congr 1
    funext f
    unfold ab_fv
    rw [e1, e2]
  unfold ab_ce
  rw [e1, e3]
theorem ab_Wd.new {D : va_G} {cA : ClassId} {base n : Nat} {h : ab_H} {H H' : Heap} (w : ab_Wd D cA base n 0 h H) (hn : n < 192) (z : H'.size = H.size + 1) (o : ∀ q : Nat, q < H.size → H'[q]? = H[q]?) (hb : va_at D vwCl (base + n, ab_ce cA base (ab_hn h n) n) H') : ab_Wd D cA base (n + 1) 0 (ab_hn h n) H' := by
  have w1 := w.1.2
  refine ⟨⟨hn, by rw [z]; omega⟩, fun k hk => ?_⟩
  rcases Nat.lt_succ_iff_lt_or_eq.mp hk with h1 | h1
  · rw [ab_ce_hn (by omega)]
    exact (w.2 k h1).kept (o _ (by show base + k < H.size; omega))
  · subst h1; exact hb
theorem ab_S.new {base : Nat} {H0 H H' : Heap} {locs : List Loc} (S : ab_S base H0 H locs) (z : H.size ≤ H'.size) (hb : base ≤ H.size) (o : ∀ q : Nat, q < H.size → H'[q]? = H[q]?) : ab_S base H0 H' locs :=
  ⟨Nat.le_trans S.1 z, fun q h1 h2 => (o q (Nat.lt_of_lt_of_le h1 S.1)).trans (S.2.1 q h1 h2), S.2.2⟩
theorem ar_new {d k pc n bc bs : Nat} {ls : List (Option Value)} {st : List Value} {h : ab_H} {Q : Option Value → ab_H → Prop} {ci idx : Nat} (hd : decode (ab_cod k) pc = .ok (.new idx, 3)) (hc : ci < 8) (hs : ab_sh n = ci) (hw1 : Jvm.Cond.classLink (ab_yn k).cls idx (ab_cn ci) ∈ ab_Tg) (hw2 : Jvm.Cond.instantiable (ab_cn ci) (ab_nf ci) ∈ ab_Tg) (hw3 : Jvm.Cond.initialized (ab_cn ci) ∈ ab_Tg)
    (hk : ab_W d k (pc + 3) (n + 1) bc bs ls (.ref n :: st) (ab_hn h n) Q) : ab_W d k pc n (bc + 1) (bs + ab_nf ci) ls st h Q := by
  intro p l e R s m args below meth c D cA base mcT msT H locs cells slots xx Z lsr C hxx h1 h2 w S L he
  obtain ⟨hx1, hb1, hr1, hml, hown, hts, hnw, hlk, hmn, hK, hR⟩ := id C
  obtain rfl : xx = 0 := hxx (by omega)
  have h192 : n < 192 := ab_sh_lt (by omega)
  have hS1 : H.size = base + n := by have := w.1.2; omega
  have g := fun H' w' S' he' => hk p l e R s m args below meth c D cA base mcT msT H' locs (cells + 1) (slots + ab_nf ci) 0 Z lsr C (fun _ => rfl) (by omega) (by omega) w' S' L he'
  have hKn := hK.1 ci _ (ab_cl hc)
  refine W.newcK hx1 hb1 hown (hts _ hw1) (hts _ hw2) (hts _ hw3) rfl hd (by have := hR.2.2.2.1; omega) (by have := hR.2.2.2.2; omega) hKn.2.1 hS1 fun H1 kC hkC e1 z1 o1 => ?_
  refine g H1 (w.new h192 (by omega) (fun q hq => o1 q (by omega)) ?_) (S.new (by omega) (by omega) (fun q hq => o1 q (by omega))) (fun r h' H' locs' cells' slots' pc' ls' q1 q2 => he r h' H' locs' cells' slots' pc' ls' q1 (by rw [show n + (bc + 1) = n + 1 + bc by omega]; exact q2))
  rw [ab_ce_o hc hs]
  refine ⟨_, ab_cl hc, (u_born (ab_ty ci) hts (ab_lays hc) hKn hkC e1 (ab_tyo hc)).to (fun f hf => ?_)⟩
  show defaultValue (ab_ty ci f) = (ab_ob base (ab_hn h n) n ci).getD f .null
  rw [List.getD_eq_getElem?_getD, ab_ob_at hf, ab_fv_new hc hf]
  rfl
theorem ar_newa {d k pc n bc bs : Nat} {ls : List (Option Value)} {st : List Value} {h : ab_H} {Q : Option Value → ab_H → Prop} {x : Int32} {N : Nat} (hd : decode (ab_cod k) pc = .ok (.newarray .int, 2)) (hn : ¬ x < 0) (hN : x.toNatClampNeg = N) (hN2 : N ≤ 1000) (hs : ab_sh n = 100 + N) (hw : Jvm.Cond.arrayClass .int ∈ ab_Tg)
    (hk : ab_W d k (pc + 2) (n + 1) bc bs ls (.ref n :: st) (ab_hn h n) Q) : ab_W d k pc n (bc + 1) (bs + N) ls (.int x :: st) h Q := by
  intro p l e R s m args below meth c D cA base mcT msT H locs cells slots xx Z lsr C hxx h1 h2 w S L he
  obtain ⟨hx1, hb1, hr1, hml, hown, hts, hnw, hlk, hmn, hK, hR⟩ := id C
  obtain rfl : xx = 0 := hxx (by omega)
  have h192 : n < 192 := ab_sh_lt (by omega)
  have hS1 : H.size = base + n := by have := w.1.2; omega
  have g := fun H' w' S' he' => hk p l e R s m args below meth c D cA base mcT msT H' locs (cells + 1) (slots + N) 0 Z lsr C (fun _ => rfl) (by omega) (by omega) w' S' L he'
  refine va_newaK hx1 hb1 (atype := .int) (hts _ hw) rfl hd rfl hn hN (by show N * 4 ≤ 536870912; omega) (by have := hR.2.2.2.1; omega) (by have := hR.2.2.2.2; omega) hS1 fun H1 cA' e1 z1 o1 hAr hNm => ?_
  have hcA : cA' = cA := by
    have h3 := (hK.2 0 _ rfl).2
    exact Option.some.inj (hNm.symm.trans h3)
  subst hcA
  refine g H1 (w.new h192 (by omega) (fun q hq => o1 q (by omega)) ?_) (S.new (by omega) (by omega) (fun q hq => o1 q (by omega))) (fun r h' H' locs' cells' slots' pc' ls' q1 q2 => he r h' H' locs' cells' slots' pc' ls' q1 (by rw [show n + (bc + 1) = n + 1 + bc by omega]; exact q2))
  rw [ab_ce_a (by omega), hs, Nat.add_sub_cancel_left]
  show H1[base + n]? = some (vp_cell _ _)
  rw [e1, vp_cell_i]
  congr 2
  funext j
  simp [ab_hn, defaultValue, newarray.typeOf]
def ab_st1 (st : List Value) : Bool := decide ((st.map fun v => v.category).sum ≤ 8)
theorem ab_st1_ok {base : Nat} {st : List Value} (h : ab_st1 st = true) : ((st.map (ab_em base)).map fun v => v.category).sum ≤ 8 := by
  have e : (st.map (ab_em base)).map (fun v => v.category) = st.map fun v => v.category := by
    rw [List.map_map]
    exact List.map_congr_left (fun v _ => ab_em_cat)
  rw [e]
  exact of_decide_eq_true h
theorem ar_objInit {d k pc n bc bs : Nat} {ls : List (Option Value)} {st : List Value} {h : ab_H} {Q : Option Value → ab_H → Prop} {idx b : Nat} (hd : decode (ab_cod k) pc = .ok (.invokespecial idx, 3)) (hd1 : 1 ≤ d) (hst : ab_st1 st = true) (hw1 : Jvm.Cond.methodLink (ab_yn k).cls idx objectInit ∈ ab_Tg) (hw2 : Jvm.Cond.instanceMethod objectInit ∈ ab_Tg) (hw3 : Jvm.Cond.code objectInit ⟨#[0xb1]⟩ 1 none ∈ ab_Tg)
    (hk : ab_W d k (pc + 3) n bc bs ls st h Q) : ab_W d k pc n bc bs ls (.ref b :: st) h Q := by
  intro p l e R s m args below meth c D cA base mcT msT H locs cells slots xx Z lsr C hxx h1 h2 w S L he
  obtain ⟨hx1, hb1, hr1, hml, hown, hts, hnw, hlk, hmn, hK, hbs, hfr, hlo, hR⟩ := id C
  have g := hk p l e R s m args below meth c D cA base mcT msT H locs cells slots xx Z lsr C hxx h1 h2 w S L he
  refine W.objInit hx1 hb1 hown (hts _ hw1) (hts _ hw2) (hts _ hw3) rfl (by rw [hml]; exact L.1) rfl hd (by omega) ?_ g
  have h9 := ab_st1_ok (base := base) hst
  show 2 * 0 + _ + 12 ≤ _
  omega
theorem ar_raw {d k pc n bc bs : Nat} {ls : List (Option Value)} {st : List Value} {h : ab_H} {Q : Option Value → ab_H → Prop} {idx : Nat} {x : UInt32} (hd : decode (ab_cod k) pc = .ok (.invokestatic idx, 3)) (hd1 : 1 ≤ d) (hst : ab_st1 st = true) (hw1 : Jvm.Cond.methodLink (ab_yn k).cls idx ⟨"java/lang/Float", "floatToRawIntBits", "(F)I"⟩ ∈ ab_Tg) (hw2 : Jvm.Cond.native ⟨"java/lang/Float", "floatToRawIntBits", "(F)I"⟩ ∈ ab_Tg) (hw3 : Jvm.Cond.static ⟨"java/lang/Float", "floatToRawIntBits", "(F)I"⟩ ∈ ab_Tg) (hw4 : Jvm.Cond.initialized "java/lang/Float" ∈ ab_Tg)
    (hk : ab_W d k (pc + 3) n bc bs ls (.int x.toInt32 :: st) h Q) : ab_W d k pc n bc bs ls (.float x :: st) h Q := by
  intro p l e R s m args below meth c D cA base mcT msT H locs cells slots xx Z lsr C hxx h1 h2 w S L he
  obtain ⟨hx1, hb1, hr1, hml, hown, hts, hnw, hlk, hmn, hK, hbs, hfr, hlo, hR⟩ := id C
  have g := hk p l e R s m args below meth c D cA base mcT msT H locs cells slots xx Z lsr C hxx h1 h2 w S L he
  refine vn_f2i hx1 hb1 (by rw [hml]; exact L.1.symm) hown (hts _ hw1) (hts _ hw2) (hts _ hw3) (hts _ hw4) (by omega) ?_ hd g
  have h9 := ab_st1_ok (base := base) hst
  omega
theorem ab_yP_len : ab_yl.length = 131 := by decide +kernel
def ab_yck (y : Nat) : Bool := plainFor (ab_yn y) && (decide ((ab_yn y).cls ≠ "java/lang/invoke/MethodHandle") && (decide ((ab_yn y).cls ≠ "java/lang/invoke/VarHandle") && decide (ab_ml y ≤ 20)))
set_option maxRecDepth 100000 in
theorem ab_yck_ok : (List.range 131).all (fun y => decide (y < 2) || ab_yck y) = true := by decide +kernel
theorem ab_yok {y : Nat} (hy : 2 ≤ y ∧ y < 131) : Jvm.Cond.code (ab_yn y) (ab_cod y) (ab_ml y) (ab_rt y) ∈ ab_Tg ∧ plainFor (ab_yn y) = true ∧ (ab_yn y).cls ≠ "java/lang/invoke/MethodHandle" ∧ (ab_yn y).cls ≠ "java/lang/invoke/VarHandle" ∧ ab_ml y ≤ 20 := by
  have h := List.all_eq_true.mp ab_yck_ok y (List.mem_range.mpr hy.2)
  simp only [ab_yck, Bool.or_eq_true, Bool.and_eq_true, decide_eq_true_eq] at h
  rcases h with h | h
  · omega
  refine ⟨?_, h.1, h.2.1, h.2.2.1, h.2.2.2⟩
  have hl : y < ab_yl.length := by rw [ab_yP_len]; exact hy.2
  have h2 := ab_yq (ab_yl[y]) (List.getElem_mem hl)
  have h3 : ab_y y = ab_yl[y] := by unfold ab_y; rw [List.getD_eq_getElem?_getD, List.getElem?_eq_getElem hl]; rfl
  rw [← h3] at h2
  exact h2
/-- a contract by its body, for a method that no row of the natives stands for -/
theorem ab_ofW {l : Launch} {y : MethodName} {ws ws' : List Jvm.Cond} {rm : Room} {Pc : Array Value → State → Prop} {Qc : Array Value → State → Outcome → State → Prop} {mc ms : Nat} {free : Addr → Prop} {cc : ByteArray} {maxL : Nat} {ret : Option FieldType}
    (hy : plainFor y = true) (hw : ws = Jvm.Cond.code y cc maxL ret :: ws')
    (body : ∀ p e s m args below meth c s₁, BodyLoose p l y (headSpec ws rm) cc maxL ret e s m args below meth c s₁ → c.maxLocals = maxL → Pc args s →
      W p l e (headSpec ws rm).room s m args below meth c s.heap [] 0 0 (MQ below Qc args s mc ms free) (entryFrame m args maxL)) : Met l y ws rm Pc Qc mc ms free := by
  refine MetFree.of_bodySF (code := cc) (maxLocals := maxL) (ret := ret) hy ?_ ?_
  · intro args s m h hn
    obtain ⟨meth, c, h1, h2, h3, h4, h5, h6, -, -⟩ := Cond.code_spec hn (atoms_spec (ws := ws) h _ (by rw [hw]; exact List.mem_cons_self))
    exact ⟨meth, c, h1, h2, h3, h4, h5, h6⟩
  · intro p e s m args below meth c s₁ B hml hP _
    have hh0 : s₁.heap = s.heap := by rw [B.state]; rfl
    obtain ⟨t, a1, o, b1, b2, b3⟩ := body p e s m args below meth c s₁ B hml hP s₁ hh0 (Stand.of_body B)
    exact ⟨t, o, a1, b1, b2, ⟨b3.1, b3.2⟩⟩
abbrev ab_Pc (D : va_G) (cA : ClassId) (base n xx : Nat) (as : List Value) (h : ab_H) : Array Value → State → Prop := fun a U => a = (as.map (ab_em base)).toArray ∧ base ≤ U.heap.size ∧ ab_Wd D cA base n xx h U.heap ∧ va_K D vwCl [(cA, .int)] U ∧ ∀ w ∈ ab_nw, va_Nw w U
abbrev ab_Qc (D : va_G) (cA : ClassId) (base n xx : Nat) (Q : Option Value → ab_H → Prop) : Array Value → State → Outcome → State → Prop := fun _ st o t => ∃ (r : Option Value) (h' : ab_H), o = .returned (r.map (ab_em base)) ∧ Q r h' ∧ ab_Wd D cA base n xx h' t.heap ∧ ∀ q, q < st.heap.size → (q < base ∨ base + 192 ≤ q) → t.heap[q]? = st.heap[q]?
theorem ab_blind {D : va_G} {cA : ClassId} {base n xx : Nat} {as : List Value} {h : ab_H} : FrameBlind (ab_Pc D cA base n xx as h) := by
  intro a U g mk q
  obtain ⟨q1, q2, q3, q4, q5⟩ := q
  exact ⟨q1, q2, q3, va_K.moved (u := U) (U := U.calling g mk a) (Vm.Alike.refl U.vm) q4, fun w hw => va_Nw.same (ab_nw_tab hw) (rfl : U.vm = (U.calling g mk a).vm) (q5 w hw)⟩
theorem ab_back {d k pc n bc bs mc ms : Nat} {ls : List (Option Value)} {st : List Value} {h : ab_H} {Q Q' : Option Value → ab_H → Prop} {p : Program} {l : Launch} {e : Env} {R : Room} {s : State} {m : MethodId} {args : Array Value} {below : List Frame} {meth : Method} {c : Code} {D : va_G} {cA : ClassId} {base mcT msT : Nat} {H : Heap} {locs : List Loc} {cells slots xx : Nat} {Z : State → Prop} {lsr : Array Slot} {st0 : List Value} {a : Array Value}
    (C : ab_Cx d k p R s m args meth c D cA base mcT msT) (hxx : bc + mc ≠ 0 → xx = 0) (h1 : cells + (bc + mc) ≤ mcT) (h2 : slots + (bs + ms) ≤ msT) (w : ab_Wd D cA base n xx h H) (S : ab_S base s.heap H locs) (L : ab_Lv base (ab_lo k) lsr (ab_ml k) ls)
    (he : ∀ (r : Option Value) (h' : ab_H) (H' : Heap) (locs' : List Loc) (cells' slots' pc' : Nat) (ls' : Array Slot), Q r h' → ab_Wd D cA base (n + (bc + mc)) xx h' H' → ab_S base s.heap H' locs' → cells' ≤ mcT → slots' ≤ msT → ab_rI k pc' r →
      W p l e R s m args below meth c H' locs' cells' slots' Z (F0 m pc' ls' (r.toList.map (ab_em base))))
    (hr : va_Run p l e R s m args below meth c H locs cells slots mc ms (F0 m pc lsr st0) (st.map (ab_em base)) (ab_Qc D cA base (n + mc) xx Q' a) (ab_A base))
    (hk : ∀ r h', Q' r h' → ab_W d k (pc + 3) (n + mc) bc bs ls (r.toList ++ st) h' Q) : W p l e R s m args below meth c H locs cells slots Z (F0 m pc lsr st0) := by
  intro T hT X
  obtain ⟨v, s0, t, T', L', g0, X', hL, g1, g2, ⟨r, h', hv, hq, hw, ho⟩, g⟩ := hr T hT X
  have hv' : v = r.map (ab_em base) := by cases hv; rfl
  subst hv'
  have hz : T'.heap.size = base + (n + mc) + xx := by rw [g1]; exact hw.1.2
  have hz0 : H.size = base + n + xx := w.1.2
  have S' : ab_S base s.heap T'.heap (locs ++ L') := by
    refine ⟨Nat.le_trans S.1 (by omega), fun q e1 e2 => ?_, fun q hq => ?_⟩
    · have hqb : q < base ∨ base + 192 ≤ q := by
        rcases Nat.lt_or_ge q base with z | z
        · exact Or.inl z
        · rcases Nat.lt_or_ge q (base + 192) with z2 | z2
          · exact absurd ⟨z, z2⟩ e2
          · exact Or.inr z2
      rw [g1, ho q (by rw [g0]; exact Nat.lt_of_lt_of_le e1 S.1) hqb, g0]
      exact S.2.1 q e1 e2
    · rcases List.mem_append.mp hq with z | z
      · exact S.2.2 q z
      · exact hL q z
  have gg := hk r h' hq p l e R s m args below meth c D cA base mcT msT T'.heap (locs ++ L') (cells + mc) (slots + ms) xx Z lsr C (fun _ => hxx (by omega)) (by omega) (by omega) (by rw [g1]; exact hw) S' L
    (fun r2 h2' H' locs' cells' slots' pc' ls' q1 q2 => he r2 h2' H' locs' cells' slots' pc' ls' q1 (by rw [show n + (bc + mc) = n + mc + bc by omega]; exact q2))
  obtain ⟨t2, a1, b1⟩ := gg T' rfl X'
  refine ⟨t2, g t2 ?_, b1⟩
  have e : (r.toList ++ st).map (ab_em base) = (r.map (ab_em base)).toList ++ st.map (ab_em base) := by cases r <;> rfl
  rw [e] at a1
  exact a1
theorem ab_pc {d k n y : Nat} {p : Program} {R : Room} {s : State} {m : MethodId} {args : Array Value} {meth : Method} {c : Code} {D : va_G} {cA : ClassId} {base mcT msT xx : Nat} {H : Heap} {as : List Value} {h : ab_H}
    (C : ab_Cx d k p R s m args meth c D cA base mcT msT) (w : ab_Wd D cA base n xx h H) : ∀ U : State, U.heap = H → s.WarmedH U.vm → ab_Pc D cA base n xx as h (as.map (ab_em base)).toArray U := by
  intro U hU hW
  obtain ⟨hx1, hb1, hr1, hml, hown, hts, hnw, hlk, hmn, hK, hbs, hR⟩ := C
  refine ⟨rfl, by rw [hU, w.1.2]; omega, by rw [hU]; exact w, va_K.moved hW.alike hK, fun z hz => ab_nw_warm hW hz (hnw z hz)⟩
theorem ar_max {d k pc n bc bs : Nat} {ls : List (Option Value)} {st : List Value} {h : ab_H} {Q : Option Value → ab_H → Prop} {idx : Nat} {x y : Int32} (hd : decode (ab_cod k) pc = .ok (.invokestatic idx, 3)) (hd1 : 1 ≤ d) (hst : ab_st1 st = true) (hw1 : Jvm.Cond.methodLink (ab_yn k).cls idx Lib.Math.max.name ∈ ab_Tg) (hw2 : Jvm.Cond.static Lib.Math.max.name ∈ ab_Tg) (hw3 : Jvm.Cond.initialized "java/lang/Math" ∈ ab_Tg) (hw4 : Jvm.Cond.code Lib.Math.max.name Lib.Math.max.code 2 (some .int) ∈ ab_Tg)
    (hk : ab_W d k (pc + 3) n bc bs ls (.int (if x < y then y else x) :: st) h Q) : ab_W d k pc n bc bs ls (.int y :: .int x :: st) h Q := by
  intro p l e R s m args below meth c D cA base mcT msT H locs cells slots xx Z lsr C hxx h1 h2 w S L he
  obtain ⟨hx1, hb1, hr1, hml, hown, hts, hnw, hlk, hmn, hK, hbs, hfr, hlo, hR⟩ := id C
  have g := hk p l e R s m args below meth c D cA base mcT msT H locs cells slots xx Z lsr C hxx h1 h2 w S L he
  have h9 := ab_st1_ok (base := base) hst
  exact va_mmax hx1 hb1 (by rw [hml]; exact L.1.symm) hown (hts _ hw1) (hts _ hw2) (hts _ hw3) (hts _ hw4) (by omega) (by omega) (by omega) (by omega) hd g
theorem ar_min {d k pc n bc bs : Nat} {ls : List (Option Value)} {st : List Value} {h : ab_H} {Q : Option Value → ab_H → Prop} {idx : Nat} {x y : Int32} (hd : decode (ab_cod k) pc = .ok (.invokestatic idx, 3)) (hd1 : 1 ≤ d) (hst : ab_st1 st = true) (hw1 : Jvm.Cond.methodLink (ab_yn k).cls idx Lib.Math.min.name ∈ ab_Tg) (hw2 : Jvm.Cond.static Lib.Math.min.name ∈ ab_Tg) (hw3 : Jvm.Cond.initialized "java/lang/Math" ∈ ab_Tg) (hw4 : Jvm.Cond.code Lib.Math.min.name Lib.Math.min.code 2 (some .int) ∈ ab_Tg)
    (hk : ab_W d k (pc + 3) n bc bs ls (.int (if y < x then y else x) :: st) h Q) : ab_W d k pc n bc bs ls (.int y :: .int x :: st) h Q := by
  intro p l e R s m args below meth c D cA base mcT msT H locs cells slots xx Z lsr C hxx h1 h2 w S L he
  obtain ⟨hx1, hb1, hr1, hml, hown, hts, hnw, hlk, hmn, hK, hbs, hfr, hlo, hR⟩ := id C
  have g := hk p l e R s m args below meth c D cA base mcT msT H locs cells slots xx Z lsr C hxx h1 h2 w S L he
  have h9 := ab_st1_ok (base := base) hst
  exact va_mmin hx1 hb1 (by rw [hml]; exact L.1.symm) hown (hts _ hw1) (hts _ hw2) (hts _ hw3) (hts _ hw4) (by omega) (by omega) (by omega) (by omega) hd g
set_option maxHeartbeats 1000000 in
theorem ar_cV {d k pc n bc bs : Nat} {ls : List (Option Value)} {st : List Value} {h : ab_H} {Q : Option Value → ab_H → Prop} {y idx na : Nat} {as : List Value} {b ci : Nat} {Q2 : Option Value → ab_H → Prop} (hd : decode (ab_cod k) pc = .ok (.invokevirtual idx, 3)) (hy : 2 ≤ y ∧ y < 131) (hd1 : 1 ≤ d) (hst : ab_st1 st = true) (hw1 : Jvm.Cond.methodLink (ab_yn k).cls idx (ab_yn y) ∈ ab_Tg) (hw2 : Jvm.Cond.instanceMethod (ab_yn y) ∈ ab_Tg) (hw4 : Jvm.Cond.initialized (ab_yn y).cls ∈ ab_Tg) (hw3 : Jvm.Cond.selects (ab_yn y).cls (ab_yn y) (ab_yn y) ∈ ab_Tg) (hc : ci < 8) (hcn : ab_cn ci = (ab_yn y).cls) (hb : b < n) (hs : ab_sh b = ci) (hna : (parseMethodDescriptor (ab_yn y).desc).map (fun d => d.parameters.length) = some na) (hal : as.length = na) (hcall : ab_C (d - 1) y n (.ref b :: as) h Q2) (hk : ∀ r h', Q2 r h' → ab_W d k (pc + 3) (n + ab_mc y) bc bs ls (r.toList ++ st) h' Q) : ab_W d k pc n (bc + ab_mc y) (bs + ab_ms y) ls (as.reverse ++ .ref b :: st) h Q := by
  intro p l e R s m args below meth c D cA base mcT msT H locs cells slots xx Z lsr C hxx h1 h2 w S L he
  obtain ⟨hx1, hb1, hr1, hml, hown, hts, hnw, hlk, hmn, hK, hbs, hfr, hlo, hR⟩ := id C
  obtain ⟨y1, y2, y3, y4, y5⟩ := ab_yok hy
  have hM := hcall (d - 1) (Nat.le_refl _) l D cA base xx (fun _ => hxx (by omega))
  have hpc := ab_pc (y := y) (as := (.ref b :: as)) C w
  have cb := callB_of (R := R) (rm := { frames := d - 1, cells := ab_mc y, slots := ab_ms y, locals := 40 * (d - 1) }) na hts (ab_good y1) rfl rfl rfl (hts _ hw4) (hts _ hw1) ⟨y3, y4, hna⟩ ⟨by show d - 1 + 1 ≤ R.frames; omega, by show 8 + (ab_ml y + 11) + 40 * (d - 1) ≤ R.locals; omega⟩
  have hP := w.one hb
  rw [ab_ce_o hc hs] at hP
  have hrc := va_recv hK hP (q0 := 0) (ab_cl hc) rfl
  have hrc2 : ∃ cell : Cell, H[base + b]? = some cell ∧ cell.vm.isStatics = false ∧ s.vm.findClass (ab_yn y).cls = some cell.cls := by rw [← hcn]; exact hrc
  have est : (as.reverse ++ .ref b :: st).map (ab_em base) = (as.map (ab_em base)).reverse ++ .ref (base + b) :: st.map (ab_em base) := by simp [ab_em]
  refine ab_back (mc := ab_mc y) (ms := ab_ms y) C hxx h1 h2 w S L he (va_runV (C := (ab_yn y).cls) (As := as.map (ab_em base)) (rest := st.map (ab_em base)) ⟨hx1, hb1, hml, hown, hts⟩ hM ⟨cb, hts _ hw2, hts _ hw3⟩ ⟨ab_blind, hrc2, hpc⟩ rfl (by rw [List.length_map]; exact hal) L.1 est (lv_room (ab_st1_ok hst)) hd ⟨by omega, by omega⟩) hk
set_option maxHeartbeats 1000000 in
theorem ar_cS {d k pc n bc bs : Nat} {ls : List (Option Value)} {st : List Value} {h : ab_H} {Q : Option Value → ab_H → Prop} {y idx na : Nat} {as : List Value} {Q2 : Option Value → ab_H → Prop} (hd : decode (ab_cod k) pc = .ok (.invokestatic idx, 3)) (hy : 2 ≤ y ∧ y < 131) (hd1 : 1 ≤ d) (hst : ab_st1 st = true) (hw1 : Jvm.Cond.methodLink (ab_yn k).cls idx (ab_yn y) ∈ ab_Tg) (hw2 : Jvm.Cond.static (ab_yn y) ∈ ab_Tg) (hw4 : Jvm.Cond.initialized (ab_yn y).cls ∈ ab_Tg) (hna : (parseMethodDescriptor (ab_yn y).desc).map (fun d => d.parameters.length) = some na) (hal : as.length = na) (hcall : ab_C (d - 1) y n as h Q2) (hk : ∀ r h', Q2 r h' → ab_W d k (pc + 3) (n + ab_mc y) bc bs ls (r.toList ++ st) h' Q) : ab_W d k pc n (bc + ab_mc y) (bs + ab_ms y) ls (as.reverse ++ st) h Q := by
  intro p l e R s m args below meth c D cA base mcT msT H locs cells slots xx Z lsr C hxx h1 h2 w S L he
  obtain ⟨hx1, hb1, hr1, hml, hown, hts, hnw, hlk, hmn, hK, hbs, hfr, hlo, hR⟩ := id C
  obtain ⟨y1, y2, y3, y4, y5⟩ := ab_yok hy
  have hM := hcall (d - 1) (Nat.le_refl _) l D cA base xx (fun _ => hxx (by omega))
  have hpc := ab_pc (y := y) (as := as) C w
  have cb := callB_of (R := R) (rm := { frames := d - 1, cells := ab_mc y, slots := ab_ms y, locals := 40 * (d - 1) }) na hts (ab_good y1) rfl rfl rfl (hts _ hw4) (hts _ hw1) ⟨y3, y4, hna⟩ ⟨by show d - 1 + 1 ≤ R.frames; omega, by show 8 + (ab_ml y + 11) + 40 * (d - 1) ≤ R.locals; omega⟩
  have est : (as.reverse ++ st).map (ab_em base) = (as.map (ab_em base)).reverse ++ st.map (ab_em base) := by simp [ab_em]
  refine ab_back (mc := ab_mc y) (ms := ab_ms y) C hxx h1 h2 w S L he (va_runS (As := as.map (ab_em base)) (rest := st.map (ab_em base)) ⟨hx1, hb1, hml, hown, hts⟩ hM ⟨cb, hts _ hw2⟩ ⟨ab_blind, hpc⟩ rfl (by rw [List.length_map]; exact hal) L.1 est (lv_room (ab_st1_ok hst)) hd ⟨by omega, by omega⟩) hk
set_option maxHeartbeats 1000000 in
theorem ar_cSN {d k pc n bc bs : Nat} {ls : List (Option Value)} {st : List Value} {h : ab_H} {Q : Option Value → ab_H → Prop} {y idx na : Nat} {as : List Value} {Q2 : Option Value → ab_H → Prop} (hd : decode (ab_cod k) pc = .ok (.invokestatic idx, 3)) (hy : 2 ≤ y ∧ y < 131) (hd1 : 1 ≤ d) (hst : ab_st1 st = true) {host : String} (hw1 : Jvm.Cond.methodLinkNest (ab_yn k).cls idx (ab_yn y) host ∈ ab_nw) (hw2 : Jvm.Cond.static (ab_yn y) ∈ ab_Tg) (hw4 : Jvm.Cond.initialized (ab_yn y).cls ∈ ab_Tg) (hna : (parseMethodDescriptor (ab_yn y).desc).map (fun d => d.parameters.length) = some na) (hal : as.length = na) (hcall : ab_C (d - 1) y n as h Q2) (hk : ∀ r h', Q2 r h' → ab_W d k (pc + 3) (n + ab_mc y) bc bs ls (r.toList ++ st) h' Q) : ab_W d k pc n (bc + ab_mc y) (bs + ab_ms y) ls (as.reverse ++ st) h Q := by
  intro p l e R s m args below meth c D cA base mcT msT H locs cells slots xx Z lsr C hxx h1 h2 w S L he
  obtain ⟨hx1, hb1, hr1, hml, hown, hts, hnw, hlk, hmn, hK, hbs, hfr, hlo, hR⟩ := id C
  obtain ⟨y1, y2, y3, y4, y5⟩ := ab_yok hy
  have hM := hcall (d - 1) (Nat.le_refl _) l D cA base xx (fun _ => hxx (by omega))
  have hpc := ab_pc (y := y) (as := as) C w
  have cb := va_cnB (R := R) (rm := { frames := d - 1, cells := ab_mc y, slots := ab_ms y, locals := 40 * (d - 1) }) na hts (ab_good y1) rfl rfl rfl (hnw _ hw1) (hts _ hw4) ⟨y3, y4, hna⟩ ⟨by show d - 1 + 1 ≤ R.frames; omega, by show 8 + (ab_ml y + 11) + 40 * (d - 1) ≤ R.locals; omega⟩
  have est : (as.reverse ++ st).map (ab_em base) = (as.map (ab_em base)).reverse ++ st.map (ab_em base) := by simp [ab_em]
  refine ab_back (mc := ab_mc y) (ms := ab_ms y) C hxx h1 h2 w S L he (va_runSN (As := as.map (ab_em base)) (rest := st.map (ab_em base)) ⟨hx1, hb1, hml, hown, hts⟩ hM ⟨cb, hts _ hw2, trivial⟩ ⟨ab_blind, hpc⟩ rfl (by rw [List.length_map]; exact hal) L.1 est (lv_room (ab_st1_ok hst)) hd ⟨by omega, by omega⟩) hk
set_option maxHeartbeats 1000000 in
theorem ar_cI {d k pc n bc bs : Nat} {ls : List (Option Value)} {st : List Value} {h : ab_H} {Q : Option Value → ab_H → Prop} {y idx na : Nat} {as : List Value} {b : Nat} {Q2 : Option Value → ab_H → Prop} (hd : decode (ab_cod k) pc = .ok (.invokespecial idx, 3)) (hy : 2 ≤ y ∧ y < 131) (hd1 : 1 ≤ d) (hst : ab_st1 st = true) (hw1 : Jvm.Cond.methodLink (ab_yn k).cls idx (ab_yn y) ∈ ab_Tg) (hw2 : Jvm.Cond.instanceMethod (ab_yn y) ∈ ab_Tg) (hw4 : Jvm.Cond.initialized (ab_yn y).cls ∈ ab_Tg) (hin : (ab_yn y).name = "<init>") (hrt : ab_rt y = none) (hna : (parseMethodDescriptor (ab_yn y).desc).map (fun d => d.parameters.length) = some na) (hal : as.length = na) (hcall : ab_C (d - 1) y n (.ref b :: as) h Q2) (hk : ∀ r h', Q2 r h' → ab_W d k (pc + 3) (n + ab_mc y) bc bs ls (r.toList ++ st) h' Q) : ab_W d k pc n (bc + ab_mc y) (bs + ab_ms y) ls (as.reverse ++ .ref b :: st) h Q := by
  intro p l e R s m args below meth c D cA base mcT msT H locs cells slots xx Z lsr C hxx h1 h2 w S L he
  obtain ⟨hx1, hb1, hr1, hml, hown, hts, hnw, hlk, hmn, hK, hbs, hfr, hlo, hR⟩ := id C
  obtain ⟨y1, y2, y3, y4, y5⟩ := ab_yok hy
  have hM := hcall (d - 1) (Nat.le_refl _) l D cA base xx (fun _ => hxx (by omega))
  have hpc := ab_pc (y := y) (as := (.ref b :: as)) C w
  rw [hrt] at hM y1
  have cb := callB_of (R := R) (rm := { frames := d - 1, cells := ab_mc y, slots := ab_ms y, locals := 40 * (d - 1) }) na hts (ab_good y1) rfl rfl rfl (hts _ hw4) (hts _ hw1) ⟨y3, y4, hna⟩ ⟨by show d - 1 + 1 ≤ R.frames; omega, by show 8 + (ab_ml y + 11) + 40 * (d - 1) ≤ R.locals; omega⟩
  have est : (as.reverse ++ .ref b :: st).map (ab_em base) = (as.map (ab_em base)).reverse ++ .ref (base + b) :: st.map (ab_em base) := by simp [ab_em]
  refine ab_back (mc := ab_mc y) (ms := ab_ms y) C hxx h1 h2 w S L he (va_runI (As := as.map (ab_em base)) (rest := st.map (ab_em base)) ⟨hx1, hb1, hml, hown, hts⟩ hM ⟨cb, hin, hts _ hw2⟩ ⟨ab_blind, hpc⟩ rfl (by rw [List.length_map]; exact hal) L.1 est (lv_room (ab_st1_ok hst)) hd ⟨by omega, by omega⟩) hk
set_option maxHeartbeats 1000000 in
theorem ar_cIN {d k pc n bc bs : Nat} {ls : List (Option Value)} {st : List Value} {h : ab_H} {Q : Option Value → ab_H → Prop} {y idx na : Nat} {as : List Value} {b : Nat} {Q2 : Option Value → ab_H → Prop} (hd : decode (ab_cod k) pc = .ok (.invokespecial idx, 3)) (hy : 2 ≤ y ∧ y < 131) (hd1 : 1 ≤ d) (hst : ab_st1 st = true) {host : String} (hw1 : Jvm.Cond.methodLinkNest (ab_yn k).cls idx (ab_yn y) host ∈ ab_nw) (hw2 : Jvm.Cond.instanceMethod (ab_yn y) ∈ ab_Tg) (hw4 : Jvm.Cond.initialized (ab_yn y).cls ∈ ab_Tg) (hin : (ab_yn y).name = "<init>") (hrt : ab_rt y = none) (hna : (parseMethodDescriptor (ab_yn y).desc).map (fun d => d.parameters.length) = some na) (hal : as.length = na) (hcall : ab_C (d - 1) y n (.ref b :: as) h Q2) (hk : ∀ r h', Q2 r h' → ab_W d k (pc + 3) (n + ab_mc y) bc bs ls (r.toList ++ st) h' Q) : ab_W d k pc n (bc + ab_mc y) (bs + ab_ms y) ls (as.reverse ++ .ref b :: st) h Q := by
  intro p l e R s m args below meth c D cA base mcT msT H locs cells slots xx Z lsr C hxx h1 h2 w S L he
  obtain ⟨hx1, hb1, hr1, hml, hown, hts, hnw, hlk, hmn, hK, hbs, hfr, hlo, hR⟩ := id C
  obtain ⟨y1, y2, y3, y4, y5⟩ := ab_yok hy
  have hM := hcall (d - 1) (Nat.le_refl _) l D cA base xx (fun _ => hxx (by omega))
  have hpc := ab_pc (y := y) (as := (.ref b :: as)) C w
  rw [hrt] at hM y1
  have cb := va_cnB (R := R) (rm := { frames := d - 1, cells := ab_mc y, slots := ab_ms y, locals := 40 * (d - 1) }) na hts (ab_good y1) rfl rfl rfl (hnw _ hw1) (hts _ hw4) ⟨y3, y4, hna⟩ ⟨by show d - 1 + 1 ≤ R.frames; omega, by show 8 + (ab_ml y + 11) + 40 * (d - 1) ≤ R.locals; omega⟩
  have est : (as.reverse ++ .ref b :: st).map (ab_em base) = (as.map (ab_em base)).reverse ++ .ref (base + b) :: st.map (ab_em base) := by simp [ab_em]
  refine ab_back (mc := ab_mc y) (ms := ab_ms y) C hxx h1 h2 w S L he (va_runIN (As := as.map (ab_em base)) (rest := st.map (ab_em base)) ⟨hx1, hb1, hml, hown, hts⟩ hM ⟨cb, hin, hts _ hw2⟩ ⟨ab_blind, hpc⟩ rfl (by rw [List.length_map]; exact hal) L.1 est (lv_room (ab_st1_ok hst)) hd ⟨by omega, by omega⟩) hk
-- a contract out of a walk
theorem ab_args : ∀ (as : List Value) (base i j N : Nat) (v : Value), (∀ u ∈ as, u.category = 1) → ab_lg (as.map some ++ List.replicate N none) i = some v → v.category = 1 ∧ (j + i, ab_em base v) ∈ lv_args j (as.map (ab_em base))
  | [], base, i, j, N, v, hc, h => by
    exfalso
    have : ∀ (N i : Nat), ab_lg (List.replicate N none) i = none := by
      intro N
      induction N with
      | zero => intro i; cases i <;> rfl
      | succ N ih => intro i; cases i with
        | zero => rfl
        | succ i => exact ih i
    rw [List.map_nil, List.nil_append, this] at h
    cases h
  | a :: as, base, 0, j, N, v, hc, h => by
    cases h
    exact ⟨hc _ List.mem_cons_self, List.mem_cons_self⟩
  | a :: as, base, i + 1, j, N, v, hc, h => by
    have ha : (ab_em base a).category = 1 := by rw [ab_em_cat]; exact hc a List.mem_cons_self
    obtain ⟨h1, h2⟩ := ab_args as base i (j + 1) N v (fun u hu => hc u (List.mem_cons_of_mem _ hu)) h
    refine ⟨h1, ?_⟩
    show _ ∈ (j, ab_em base a) :: lv_args (if (ab_em base a).category = 2 then j + 2 else j + 1) (as.map (ab_em base))
    rw [if_neg (by omega), show j + (i + 1) = j + 1 + i by omega]
    exact List.mem_cons_of_mem _ h2
theorem ab_slen : ∀ (vs : List Value), (∀ v ∈ vs, v.category = 1) → (lg_sl vs).length = vs.length
  | [], _ => rfl
  | v :: vs, hc => by
    have h1 := ab_slen vs (fun u hu => hc u (List.mem_cons_of_mem _ hu))
    have h2 := hc v List.mem_cons_self
    simp only [lg_sl, List.flatMap_cons] at h1 ⊢
    rw [List.length_append, h1, if_neg (by omega)]
    simp
    omega
def ab_al (k : Nat) (as : List Value) : List (Option Value) := as.map some ++ List.replicate (ab_ml k - as.length) none
/-- a contract out of a walk from the entry; ls: the locals as the arguments make them -/
theorem ab_ofL {d y n : Nat} {as : List Value} {ls : List (Option Value)} {h : ab_H} {Q : Option Value → ab_H → Prop} (hy : 2 ≤ y ∧ y < 131) (hlen : ∀ base, (lg_sl (as.map (ab_em base))).length ≤ ab_ml y) (hLv : ∀ base lsr, lv_has lsr (ab_ml y) (lv_args 0 (as.map (ab_em base))) → ab_Lv base (ab_lo y) lsr (ab_ml y) ls) (hw : ab_W d y 0 n (ab_mc y) (ab_ms y) ls [] h Q) : ab_C d y n as h Q := by
  intro d' hd' l D cA base xx hxx
  obtain ⟨y1, y2, y3, y4, y5⟩ := ab_yok hy
  refine ab_ofW (cc := ab_cod y) (maxL := ab_ml y) (ret := ab_rt y) y2 rfl ?_
  intro p e s m args below meth c s₁ B hml hv
  obtain ⟨rfl, hbs, hwd, hK, hnw⟩ := hv
  have hts : ∀ w ∈ ab_Tg, w.before (as.map (ab_em base)).toArray s = true := fun w hw => atoms_spec (ws := .code (ab_yn y) (ab_cod y) (ab_ml y) (ab_rt y) :: ab_Tg) B.pre w (List.mem_cons_of_mem _ hw)
  have C : ab_Cx d y p { frames := d', cells := ab_mc y, slots := ab_ms y, locals := 40 * d' } s m (as.map (ab_em base)).toArray meth c D cA base (ab_mc y) (ab_ms y) :=
    ⟨B.exec, B.bytes, B.returns, hml, findClass_of_methodNamed B.named, hts, hnw, B.notSynchronized, (name_of_methodNamed B.named B.method).1, hK, trivial, hd', Nat.mul_le_mul_left _ hd', Nat.le_refl _, Nat.le_refl _⟩
  have hlv := lv_entry (as.map (ab_em base)) (hlen base)
  rw [lg_entry_eq]
  have L := hLv base _ hlv
  refine hw p l e { frames := d', cells := ab_mc y, slots := ab_ms y, locals := 40 * d' } s m (as.map (ab_em base)).toArray below meth c D cA base (ab_mc y) (ab_ms y) s.heap [] 0 0 xx _ _ C hxx (by omega) (by omega) hwd va_S.rf L ?_
  intro r h' H' locs' cells' slots' pc' ls' hq w' S' hcs hss hr
  refine W.widen (k := ab_mc y) (n := ab_ms y) hcs hss ?_
  have hpost : ∀ t : State, t.heap = H' → ab_Qc D cA base (n + ab_mc y) xx Q (as.map (ab_em base)).toArray s (.returned (r.map (ab_em base))) t := by
    intro t ht
    refine ⟨r, h', rfl, hq, by rw [ht]; exact w', fun q hq1 hq2 => ?_⟩
    rw [ht]
    exact S'.2.1 q hq1 (fun hA => by have h3 := hA.1; have h4 := hA.2; omega)
  cases r with
  | none => exact W.vret B.exec B.bytes (B.returns.trans hr.2) (fun t ht _ => hpost t ht) S'.2.2 hr.1 (hlocks := B.notSynchronized)
  | some v =>
    cases v with
    | int x =>
      obtain ⟨g1, ty, g2, g3⟩ := hr
      exact W.zret (v := x) B.exec B.bytes (B.returns.trans g2) g3 (fun t ht _ => hpost t ht) S'.2.2 g1 (hlocks := B.notSynchronized)
    | ref a =>
      obtain ⟨g1, ⟨CC, g2⟩, g3⟩ := hr
      exact W.aret (v := .ref (base + a)) B.exec B.bytes (B.returns.trans g2) (Or.inl ⟨CC, rfl⟩) (Or.inr ⟨_, rfl⟩) (fun t ht _ => hpost t ht) S'.2.2 g1 (hlocks := B.notSynchronized)
    | null =>
      obtain ⟨g1, ⟨CC, g2⟩, g3⟩ := hr
      exact W.aret (v := .null) B.exec B.bytes (B.returns.trans g2) (Or.inl ⟨CC, rfl⟩) (Or.inl rfl) (fun t ht _ => hpost t ht) S'.2.2 g1 (hlocks := B.notSynchronized)
    | long x => exact W.lret (v := x) B.exec B.bytes (B.returns.trans hr.2) (fun t ht _ => hpost t ht) S'.2.2 hr.1 (hlocks := B.notSynchronized)
    | float x => obtain ⟨-, -, g3⟩ := hr; rcases g3 with g3 | ⟨_, g3⟩ <;> cases g3
    | double x => obtain ⟨-, -, g3⟩ := hr; rcases g3 with g3 | ⟨_, g3⟩ <;> cases g3
    | retAddr x => obtain ⟨-, -, g3⟩ := hr; rcases g3 with g3 | ⟨_, g3⟩ <;> cases g3
theorem ab_of {d y n : Nat} {as : List Value} {h : ab_H} {Q : Option Value → ab_H → Prop} (hy : 2 ≤ y ∧ y < 131) (hc : ∀ v ∈ as, v.category = 1) (hl : as.length ≤ ab_ml y) (hw : ab_W d y 0 n (ab_mc y) (ab_ms y) (ab_al y as) [] h Q) : ab_C d y n as h Q := by
  have hc' : ∀ base, ∀ v ∈ as.map (ab_em base), v.category = 1 := by
    intro base v hv
    obtain ⟨u, hu, rfl⟩ := List.mem_map.mp hv
    rw [ab_em_cat]; exact hc u hu
  refine ab_ofL hy (fun base => by rw [ab_slen _ (hc' base), List.length_map]; exact hl) (fun base lsr hlv => ?_) hw
  refine ⟨hlv.1, hlv.2.1, fun i v hi => ?_⟩
  obtain ⟨e1, e2⟩ := ab_args as base i 0 _ v hc hi
  rw [Nat.zero_add] at e2
  exact ⟨Or.inl e1, hlv.2.2 _ e2⟩
end
section
/-! ===== THE WEAKEST PRECONDITION of straight code (printed by wip/p28/mkstep.py) ===== -/
abbrev ab_O : Type := Instr × Nat × List Nat × Int
abbrev ab_K : Type := Nat → Nat → Nat → List (Option Value) → List Value → ab_H → Prop
def ab_d0 (l : List Nat) : Nat := match l with | a :: _ => a | _ => 0
def ab_d1 (l : List Nat) : Nat := match l with | _ :: a :: _ => a | _ => 0
def ab_d2 (l : List Nat) : Nat := match l with | _ :: _ :: a :: _ => a | _ => 0
def ab_d3 (l : List Nat) : Nat := match l with | _ :: _ :: _ :: a :: _ => a | _ => 0
def ab_d4 (l : List Nat) : Nat := match l with | _ :: _ :: _ :: _ :: a :: _ => a | _ => 0
def ab_d5 (l : List Nat) : Nat := match l with | _ :: _ :: _ :: _ :: _ :: a :: _ => a | _ => 0
def ab_d6 (l : List Nat) : Nat := match l with | _ :: _ :: _ :: _ :: _ :: _ :: a :: _ => a | _ => 0
def ab_d7 (l : List Nat) : Nat := match l with | _ :: _ :: _ :: _ :: _ :: _ :: _ :: a :: _ => a | _ => 0
def ab_d8 (l : List Nat) : Nat := match l with | _ :: _ :: _ :: _ :: _ :: _ :: _ :: _ :: a :: _ => a | _ => 0
def ab_p1 (st : List Value) (f : Int32 → List Value → Prop) : Prop := match st with | .int x :: r => f x r | _ => False
def ab_p2 (st : List Value) (f : Int32 → Int32 → List Value → Prop) : Prop := match st with | .int y :: .int x :: r => f x y r | _ => False
def ab_p3 (st : List Value) (f : Int32 → Int32 → Nat → List Value → Prop) : Prop := match st with | .int x :: .int i :: .ref b :: r => f x i b r | _ => False
def ab_pa (st : List Value) (f : Int32 → Nat → List Value → Prop) : Prop := match st with | .int i :: .ref b :: r => f i b r | _ => False
def ab_pr (st : List Value) (f : Nat → List Value → Prop) : Prop := match st with | .ref b :: r => f b r | _ => False
def ab_prr (st : List Value) (f : Nat → Nat → List Value → Prop) : Prop := match st with | .ref a :: .ref b :: r => f a b r | _ => False
def ab_pf (st : List Value) (f : UInt32 → List Value → Prop) : Prop := match st with | .float x :: r => f x r | _ => False
def ab_pff (st : List Value) (f : UInt32 → UInt32 → List Value → Prop) : Prop := match st with | .float y :: .float x :: r => f x y r | _ => False
def ab_pq (st : List Value) (f : Value → List Value → Prop) : Prop := match st with | .ref b :: r => f (.ref b) r | .null :: r => f .null r | _ => False
def ab_pn (st : List Value) (f g : List Value → Prop) : Prop := match st with | .ref _ :: r => f r | .null :: r => g r | _ => False
def ab_pv (st : List Value) (f : Value → List Value → Prop) : Prop := match st with | .int x :: r => f (.int x) r | .ref b :: r => f (.ref b) r | _ => False
def ab_pvv (st : List Value) (f : Value → Value → List Value → Prop) : Prop := match st with | .int x :: .ref b :: r => f (.int x) (.ref b) r | _ => False
def ab_pl (st : List Value) (f : Int64 → List Value → Prop) : Prop := match st with | .long x :: r => f x r | _ => False
def ab_pll (st : List Value) (f : Int64 → Int64 → List Value → Prop) : Prop := match st with | .long y :: .long x :: r => f x y r | _ => False
def ab_pil (st : List Value) (f : Int64 → Int32 → List Value → Prop) : Prop := match st with | .int y :: .long x :: r => f x y r | _ => False
def ab_ol (v : Option Value) (f : Int64 → Prop) : Prop := match v with | some (.long x) => f x | _ => False
def ab_oi (v : Option Value) (f : Int32 → Prop) : Prop := match v with | some (.int x) => f x | _ => False
def ab_of' (v : Option Value) (f : UInt32 → Prop) : Prop := match v with | some (.float x) => f x | _ => False
def ab_or (v : Option Value) (f : Value → Prop) : Prop := match v with | some (.ref x) => f (.ref x) | some .null => f .null | _ => False
def ab_cb (c : Jvm.ClassFile.Cond) (x y : Int32) (A B : Prop) : Prop := match c with
  | .eq => (x = y → A) ∧ (¬ x = y → B)
  | .ne => (¬ x = y → A) ∧ (x = y → B)
  | .lt => (x < y → A) ∧ (¬ x < y → B)
  | .ge => (y ≤ x → A) ∧ (¬ y ≤ x → B)
  | .gt => (y < x → A) ∧ (¬ y < x → B)
  | .le => (x ≤ y → A) ∧ (¬ x ≤ y → B)
def ab_sw (x : Int32) (f : Nat → Prop) : Int → List Nat → Prop
  | _, [] => True
  | lo, t :: ts => (x = Int32.ofInt lo → f t) ∧ ab_sw x f (lo + 1) ts
def ab_lk2 (x : Int32) (f : Nat → Prop) (df : Nat) : List (Int × Int) → List Nat → Prop
  | p :: ps, t :: ts => (x = Int32.ofInt p.1 → f t) ∧ (¬ x = Int32.ofInt p.1 → ab_lk2 x f df ps ts)
  | _, _ => f df
def ab_pop : Nat → List Value → List Value → (List Value → List Value → Prop) → Prop
  | 0, acc, st, f => f acc st
  | n + 1, acc, v :: st, f => ab_pop n (v :: acc) st f
  | _ + 1, _, [], _ => False
def ab_ac (n b c : Nat) : Prop := b < n ∧ ab_sh b = c
def ab_ar (n b : Nat) : Prop := b < n ∧ 100 ≤ ab_sh b
def ab_hd (as : List Value) (n ci : Nat) : Prop := match as with | .ref b :: _ => ab_ac n b ci | _ => False
def ab_call (d : Nat) (dt : List Nat) (n bc bs : Nat) (ls : List (Option Value)) (st : List Value) (h : ab_H) (K : ab_K) : Prop := match ab_d2 dt with
  | 0 => ab_pop (ab_d1 dt) [] st fun as r => 1 ≤ d ∧ ab_st1 r = true ∧ ab_hd as n (ab_d8 dt) ∧ ab_C (d - 1) (ab_d0 dt) n as h (fun rv h' => K n bc bs ls (rv.toList ++ r) h')
  | 1 => ab_pop (ab_d1 dt) [] st fun as r => 1 ≤ d ∧ ab_st1 r = true ∧ ab_C (d - 1) (ab_d0 dt) n as h (fun rv h' => K n bc bs ls (rv.toList ++ r) h')
  | 2 => ab_pop (ab_d1 dt) [] st fun as r => 1 ≤ d ∧ ab_st1 r = true ∧ (match as with | .ref _ :: _ => True | _ => False) ∧ ab_mc (ab_d0 dt) ≤ bc ∧ ab_ms (ab_d0 dt) ≤ bs ∧ ab_C (d - 1) (ab_d0 dt) n as h (fun rv h' => K (n + ab_mc (ab_d0 dt)) (bc - ab_mc (ab_d0 dt)) (bs - ab_ms (ab_d0 dt)) ls (rv.toList ++ r) h')
  | 3 => ab_pr st fun _ r => 1 ≤ d ∧ ab_st1 r = true ∧ K n bc bs ls r h
  | 4 => ab_pf st fun x r => 1 ≤ d ∧ ab_st1 r = true ∧ K n bc bs ls (.int x.toInt32 :: r) h
  | 5 => ab_p2 st fun x y r => 1 ≤ d ∧ ab_st1 r = true ∧ K n bc bs ls (.int (if x < y then y else x) :: r) h
  | 6 => ab_p2 st fun x y r => 1 ≤ d ∧ ab_st1 r = true ∧ K n bc bs ls (.int (if y < x then y else x) :: r) h
  | _ => False
def ab_step (d : Nat) (J : Nat → ab_K) (Q : Option Value → ab_H → Prop) (i : Instr) (dt : List Nat) (v : Int) (n bc bs : Nat) (ls : List (Option Value)) (st : List Value) (h : ab_H) (K : ab_K) : Prop := match i with
  | .nop => J (ab_d0 dt) n bc bs ls st h
  | .iadd => ab_p2 st fun x y r => K n bc bs ls (.int (x + y) :: r) h
  | .isub => ab_p2 st fun x y r => K n bc bs ls (.int (x - y) :: r) h
  | .imul => ab_p2 st fun x y r => K n bc bs ls (.int (x * y) :: r) h
  | .iand => ab_p2 st fun x y r => K n bc bs ls (.int (x &&& y) :: r) h
  | .ior => ab_p2 st fun x y r => K n bc bs ls (.int (x ||| y) :: r) h
  | .ixor => ab_p2 st fun x y r => K n bc bs ls (.int (x ^^^ y) :: r) h
  | .ishl => ab_p2 st fun x y r => K n bc bs ls (.int (x <<< (y &&& 31)) :: r) h
  | .ishr => ab_p2 st fun x y r => K n bc bs ls (.int (x >>> (y &&& 31)) :: r) h
  | .iushr => ab_p2 st fun x y r => K n bc bs ls (.int ((x.toUInt32 >>> (y.toUInt32 &&& Int32.toUInt32 31)).toInt32) :: r) h
  | .idiv => ab_p2 st fun x y r => ¬ y = 0 ∧ K n bc bs ls (.int (x / y) :: r) h
  | .irem => ab_p2 st fun x y r => ¬ y = 0 ∧ K n bc bs ls (.int (x - x / y * y) :: r) h
  | .ineg => ab_p1 st fun x r => K n bc bs ls (.int (-x) :: r) h
  | .i2f => ab_p1 st fun x r => K n bc bs ls (.float (FP.i2f x) :: r) h
  | .fdiv => ab_pff st fun x y r => vf_n32 (FP.fdiv x y) ∧ K n bc bs ls (.float (FP.fdiv x y) :: r) h
  | .fmul => ab_pff st fun x y r => vf_n32 (FP.fmul x y) ∧ K n bc bs ls (.float (FP.fmul x y) :: r) h
  | .f2i => ab_pf st fun x r => K n bc bs ls (.int (FP.f2i x) :: r) h
  | .fcmp op => ab_pff st fun x y r => K n bc bs ls (.int (Op.cmpValue (FP.fcmp x y) op) :: r) h
  | .fconst _ => K n bc bs ls (.float FP.fconst2 :: st) h
  | .lconst _ => K n bc bs ls (.long (Int64.ofInt v) :: st) h
  | .ldc2_w _ => K n bc bs ls (.long (Int64.ofInt v) :: st) h
  | .lload_n _ => ab_ol (ab_lg ls (ab_d0 dt)) fun x => K n bc bs ls (.long x :: st) h
  | .lload _ => ab_ol (ab_lg ls (ab_d0 dt)) fun x => K n bc bs ls (.long x :: st) h
  | .lstore_n _ => ab_pl st fun x r => K n bc bs (ab_ls (ab_ln ls (ab_d0 dt + 1)) (ab_d0 dt) (.long x)) r h
  | .lstore _ => ab_pl st fun x r => K n bc bs (ab_ls (ab_ln ls (ab_d0 dt + 1)) (ab_d0 dt) (.long x)) r h
  | .ladd => ab_pll st fun x y r => K n bc bs ls (.long (x + y) :: r) h
  | .lmul => ab_pll st fun x y r => K n bc bs ls (.long (x * y) :: r) h
  | .land => ab_pll st fun x y r => K n bc bs ls (.long (x &&& y) :: r) h
  | .lcmp => ab_pll st fun x y r => K n bc bs ls (.int (lg_cmp x y) :: r) h
  | .lshr => ab_pil st fun x y r => K n bc bs ls (.long (x >>> (y.toInt64 &&& 63)) :: r) h
  | .i2l => ab_p1 st fun x r => K n bc bs ls (.long x.toInt64 :: r) h
  | .l2i => ab_pl st fun x r => K n bc bs ls (.int x.toInt32 :: r) h
  | .lreturn => (match st with | [.long x] => bc = 0 ∧ Q (some (.long x)) h | _ => False)
  | .aconst_null => K n bc bs ls (.null :: st) h
  | .iconst _ => K n bc bs ls (.int (Int32.ofInt v) :: st) h
  | .bipush _ => K n bc bs ls (.int (Int32.ofInt v) :: st) h
  | .sipush _ => K n bc bs ls (.int (Int32.ofInt v) :: st) h
  | .ldc _ => (match ab_d1 dt with | 1 => K n bc bs ls (.float (UInt32.ofNat v.toNat) :: st) h | _ => K n bc bs ls (.int (Int32.ofInt v) :: st) h)
  | .ldc_w _ => (match ab_d1 dt with | 1 => K n bc bs ls (.float (UInt32.ofNat v.toNat) :: st) h | _ => K n bc bs ls (.int (Int32.ofInt v) :: st) h)
  | .iload_n _ => ab_oi (ab_lg ls (ab_d0 dt)) fun x => K n bc bs ls (.int x :: st) h
  | .iload _ => ab_oi (ab_lg ls (ab_d0 dt)) fun x => K n bc bs ls (.int x :: st) h
  | .fload_n _ => ab_of' (ab_lg ls (ab_d0 dt)) fun x => K n bc bs ls (.float x :: st) h
  | .aload_n _ => ab_or (ab_lg ls (ab_d0 dt)) fun w => K n bc bs ls (w :: st) h
  | .aload _ => ab_or (ab_lg ls (ab_d0 dt)) fun w => K n bc bs ls (w :: st) h
  | .istore_n _ => ab_p1 st fun x r => K n bc bs (ab_ls ls (ab_d0 dt) (.int x)) r h
  | .istore _ => ab_p1 st fun x r => K n bc bs (ab_ls ls (ab_d0 dt) (.int x)) r h
  | .fstore_n _ => ab_pf st fun x r => K n bc bs (ab_ls ls (ab_d0 dt) (.float x)) r h
  | .astore_n _ => ab_pq st fun w r => K n bc bs (ab_ls ls (ab_d0 dt) w) r h
  | .astore _ => ab_pq st fun w r => K n bc bs (ab_ls ls (ab_d0 dt) w) r h
  | .iinc _ _ => ab_oi (ab_lg ls (ab_d0 dt)) fun x => K n bc bs (ab_ls ls (ab_d0 dt) (.int (x + Int32.ofInt v))) st h
  | .dup => ab_pv st fun w r => K n bc bs ls (w :: w :: r) h
  | .dup2 => ab_pvv st fun w u r => K n bc bs ls (w :: u :: w :: u :: r) h
  | .if_icmp c _ => ab_p2 st fun x y r => ab_cb c x y (J (ab_d0 dt) n bc bs ls r h) (K n bc bs ls r h)
  | .ifCond c _ => ab_p1 st fun x r => ab_cb c x 0 (J (ab_d0 dt) n bc bs ls r h) (K n bc bs ls r h)
  | .goto _ => J (ab_d0 dt) n bc bs ls st h
  | .ifnull _ => ab_pn st (fun r => K n bc bs ls r h) (fun r => J (ab_d0 dt) n bc bs ls r h)
  | .ifnonnull _ => ab_pn st (fun r => J (ab_d0 dt) n bc bs ls r h) (fun r => K n bc bs ls r h)
  | .tableswitch _ lo hi _ => ab_p1 st fun x r => (x.toInt < lo ∨ hi < x.toInt → J (ab_d0 dt) n bc bs ls r h) ∧ ab_sw x (fun t => J t n bc bs ls r h) lo dt.tail
  | .lookupswitch _ ps => ab_p1 st fun x r => ab_lk2 x (fun t => J t n bc bs ls r h) (ab_d0 dt) ps.toList dt.tail
  | .getfield _ => ab_pr st fun b r => ab_ac n b (ab_d0 dt) ∧ (match ab_d2 dt with | 1 => h.2 b (ab_d1 dt) < 1000 ∧ K n bc bs ls (.ref (h.2 b (ab_d1 dt)) :: r) h | _ => K n bc bs ls (.int (h.1 b (ab_d1 dt)) :: r) h)
  | .putfield _ => (match ab_d2 dt with
    | 1 => ab_prr st fun a b r => ab_ac n b (ab_d0 dt) ∧ a < 1000 ∧ K n bc bs ls r (ab_hr h b (ab_d1 dt) a)
    | 2 => ab_pa st fun x b r => ab_ac n b (ab_d0 dt) ∧ (x = 0 ∨ x = 1) ∧ K n bc bs ls r (ab_hi h b (ab_d1 dt) x)
    | _ => ab_pa st fun x b r => ab_ac n b (ab_d0 dt) ∧ K n bc bs ls r (ab_hi h b (ab_d1 dt) x))
  | .arraylength => ab_pr st fun b r => ab_ar n b ∧ K n bc bs ls (.int (Int32.ofInt ((ab_sh b - 100 : Nat) : Int)) :: r) h
  | .iaload => ab_pa st fun i b r => ab_ar n b ∧ vp_in i (ab_sh b - 100) ∧ K n bc bs ls (.int (h.1 b i.toNatClampNeg) :: r) h
  | .iastore => ab_p3 st fun x i b r => ab_ar n b ∧ vp_in i (ab_sh b - 100) ∧ K n bc bs ls r (ab_hi h b i.toNatClampNeg x)
  | .new _ => ab_sh n = ab_d0 dt ∧ 1 ≤ bc ∧ ab_nf (ab_d0 dt) ≤ bs ∧ K (n + 1) (bc - 1) (bs - ab_nf (ab_d0 dt)) ls (.ref n :: st) (ab_hn h n)
  | .newarray _ => ab_p1 st fun x r => ¬ x < 0 ∧ x.toNatClampNeg ≤ 1000 ∧ ab_sh n = 100 + x.toNatClampNeg ∧ 1 ≤ bc ∧ x.toNatClampNeg ≤ bs ∧ K (n + 1) (bc - 1) (bs - x.toNatClampNeg) ls (.ref n :: r) (ab_hn h n)
  | .invokevirtual _ => ab_call d dt n bc bs ls st h K
  | .invokestatic _ => ab_call d dt n bc bs ls st h K
  | .invokespecial _ => ab_call d dt n bc bs ls st h K
  | .ireturn => (match st with | [.int x] => bc = 0 ∧ (match ab_d0 dt with | 1 => (x = 0 ∨ x = 1) ∧ Q (some (.int x)) h | _ => Q (some (.int x)) h) | _ => False)
  | .areturn => (match st with | [.ref x] => bc = 0 ∧ Q (some (.ref x)) h | [.null] => bc = 0 ∧ Q (some .null) h | _ => False)
  | .return_ => (match st with | [] => bc = 0 ∧ Q none h | _ => False)
  | _ => False
def ab_wp (d : Nat) (J : Nat → ab_K) (Q : Option Value → ab_H → Prop) : List ab_O → ab_K
  | [], _, _, _, _, _, _ => False
  | o :: os, n, bc, bs, ls, st, h => ab_step d J Q o.1 o.2.2.1 o.2.2.2 n bc bs ls st h (ab_wp d J Q os)
def ab_dc (k pc : Nat) (i : Instr) (len : Nat) : Bool := decide (decode (ab_cod k) pc = .ok (i, len))
def ab_cklink (k idx ci f p nest : Nat) : Bool := match nest with
  | 0 => ab_w p (.fieldLink (ab_yn k).cls idx (ab_tx ci f).1 (ab_tx ci f).2.1 (ab_tx ci f).2.2.1)
  | _ => ab_wn p (.fieldLinkNest (ab_yn k).cls idx (ab_tx ci f).1 (ab_tx ci f).2.1 (ab_tx ci f).2.2.1 "FairBooks")
def ab_ckcall (k idx : Nat) (dt : List Nat) : Bool := match ab_d2 dt with
  | 0 => decide (2 ≤ ab_d0 dt) && (decide (ab_d0 dt < 131) && (decide (ab_mc (ab_d0 dt) = 0) && (decide (ab_ms (ab_d0 dt) = 0) && (ab_w (ab_d4 dt) (.methodLink (ab_yn k).cls idx (ab_yn (ab_d0 dt))) && (ab_w (ab_d5 dt) (.instanceMethod (ab_yn (ab_d0 dt))) && (ab_w (ab_d6 dt) (.selects (ab_yn (ab_d0 dt)).cls (ab_yn (ab_d0 dt)) (ab_yn (ab_d0 dt))) && (ab_w (ab_d7 dt) (.initialized (ab_yn (ab_d0 dt)).cls) && (decide (ab_d8 dt < 8) && (decide (ab_cn (ab_d8 dt) = (ab_yn (ab_d0 dt)).cls) && (decide ((parseMethodDescriptor (ab_yn (ab_d0 dt)).desc).map (fun d => d.parameters.length) = some (ab_d1 dt - 1)) && decide (1 ≤ ab_d1 dt)))))))))))
  | 1 => decide (2 ≤ ab_d0 dt) && (decide (ab_d0 dt < 131) && (decide (ab_mc (ab_d0 dt) = 0) && (decide (ab_ms (ab_d0 dt) = 0) && ((match ab_d3 dt with | 0 => ab_w (ab_d4 dt) (.methodLink (ab_yn k).cls idx (ab_yn (ab_d0 dt))) | _ => ab_wn (ab_d4 dt) (.methodLinkNest (ab_yn k).cls idx (ab_yn (ab_d0 dt)) "FairBooks")) && (ab_w (ab_d5 dt) (.static (ab_yn (ab_d0 dt))) && (ab_w (ab_d7 dt) (.initialized (ab_yn (ab_d0 dt)).cls) && decide ((parseMethodDescriptor (ab_yn (ab_d0 dt)).desc).map (fun d => d.parameters.length) = some (ab_d1 dt))))))))
  | 2 => decide (2 ≤ ab_d0 dt) && (decide (ab_d0 dt < 131) && ((match ab_d3 dt with | 0 => ab_w (ab_d4 dt) (.methodLink (ab_yn k).cls idx (ab_yn (ab_d0 dt))) | _ => ab_wn (ab_d4 dt) (.methodLinkNest (ab_yn k).cls idx (ab_yn (ab_d0 dt)) "FairBooks")) && (ab_w (ab_d5 dt) (.instanceMethod (ab_yn (ab_d0 dt))) && (ab_w (ab_d7 dt) (.initialized (ab_yn (ab_d0 dt)).cls) && (decide ((ab_yn (ab_d0 dt)).name = "<init>") && (decide (ab_rt (ab_d0 dt) = none) && (decide ((parseMethodDescriptor (ab_yn (ab_d0 dt)).desc).map (fun d => d.parameters.length) = some (ab_d1 dt - 1)) && decide (1 ≤ ab_d1 dt))))))))
  | 3 => ab_w (ab_d4 dt) (.methodLink (ab_yn k).cls idx objectInit) && (ab_w (ab_d5 dt) (.instanceMethod objectInit) && ab_w (ab_d6 dt) (.code objectInit ⟨#[0xb1]⟩ 1 none))
  | 4 => ab_w (ab_d4 dt) (.methodLink (ab_yn k).cls idx ⟨"java/lang/Float", "floatToRawIntBits", "(F)I"⟩) && (ab_w (ab_d5 dt) (.native ⟨"java/lang/Float", "floatToRawIntBits", "(F)I"⟩) && (ab_w (ab_d6 dt) (.static ⟨"java/lang/Float", "floatToRawIntBits", "(F)I"⟩) && ab_w (ab_d7 dt) (.initialized "java/lang/Float")))
  | 5 => ab_w (ab_d4 dt) (.methodLink (ab_yn k).cls idx Lib.Math.max.name) && (ab_w (ab_d5 dt) (.static Lib.Math.max.name) && (ab_w (ab_d6 dt) (.initialized "java/lang/Math") && ab_w (ab_d7 dt) (.code Lib.Math.max.name Lib.Math.max.code 2 (some .int))))
  | 6 => ab_w (ab_d4 dt) (.methodLink (ab_yn k).cls idx Lib.Math.min.name) && (ab_w (ab_d5 dt) (.static Lib.Math.min.name) && (ab_w (ab_d6 dt) (.initialized "java/lang/Math") && ab_w (ab_d7 dt) (.code Lib.Math.min.name Lib.Math.min.code 2 (some .int))))
  | _ => false
def ab_cksw (pc : Nat) : List Int → List Nat → Bool
  | [], [] => true
  | o :: os, t :: ts => decide ((pc : Int) + o = (t : Int)) && ab_cksw pc os ts
  | _, _ => false
/-- no long ends in front of the slot i -/
def ab_nl (k i : Nat) : Bool := (ab_lo k).all (fun z => decide (z + 1 ≠ i))
theorem ab_nl_in {k i : Nat} (h : ab_nl k i = true) : ∀ z, z + 1 = i → z ∉ ab_lo k := fun z hz hm => absurd hz (of_decide_eq_true (List.all_eq_true.mp h z hm))
def ab_ck (k pc : Nat) (i : Instr) (len : Nat) (dt : List Nat) (v : Int) : Bool := match i with
  | .nop => decide (ab_d0 dt = pc)
  | .fconst f => decide (f = 2) && (ab_dc k pc i len && decide (len = 1))
  | .iconst j => decide (j = v) && (ab_dc k pc i len && decide (len = 1))
  | .bipush j => decide (j = v) && (decide ((Int8.ofInt j).toInt32 = Int32.ofInt j) && (ab_dc k pc i len && decide (len = 2)))
  | .sipush j => decide (j = v) && (decide ((Int16.ofInt j).toInt32 = Int32.ofInt j) && (ab_dc k pc i len && decide (len = 3)))
  | .ldc j => ab_dc k pc i len && (decide (len = 2) && (match ab_d1 dt with | 1 => ab_w (ab_d0 dt) (.constantFloat (ab_yn k).cls j (UInt32.ofNat v.toNat)) | _ => ab_w (ab_d0 dt) (.constant (ab_yn k).cls j (Int32.ofInt v))))
  | .ldc_w j => ab_dc k pc i len && (decide (len = 3) && (match ab_d1 dt with | 1 => ab_w (ab_d0 dt) (.constantFloat (ab_yn k).cls j (UInt32.ofNat v.toNat)) | _ => ab_w (ab_d0 dt) (.constant (ab_yn k).cls j (Int32.ofInt v))))
  | .iload_n j => decide (j.val = ab_d0 dt) && (ab_dc k pc i len && decide (len = 1))
  | .fload_n j => decide (j.val = ab_d0 dt) && (ab_dc k pc i len && decide (len = 1))
  | .aload_n j => decide (j.val = ab_d0 dt) && (ab_dc k pc i len && decide (len = 1))
  | .iload j => decide (j = ab_d0 dt) && (ab_dc k pc i len && decide (len = 2))
  | .aload j => decide (j = ab_d0 dt) && (ab_dc k pc i len && decide (len = 2))
  | .istore_n j => decide (j.val = ab_d0 dt) && (decide (j.val < ab_ml k) && (ab_nl k j.val && (ab_dc k pc i len && decide (len = 1))))
  | .fstore_n j => decide (j.val = ab_d0 dt) && (decide (j.val < ab_ml k) && (ab_nl k j.val && (ab_dc k pc i len && decide (len = 1))))
  | .astore_n j => decide (j.val = ab_d0 dt) && (decide (j.val < ab_ml k) && (ab_nl k j.val && (ab_dc k pc i len && decide (len = 1))))
  | .istore j => decide (j = ab_d0 dt) && (decide (j < ab_ml k) && (ab_nl k j && (ab_dc k pc i len && decide (len = 2))))
  | .astore j => decide (j = ab_d0 dt) && (decide (j < ab_ml k) && (ab_nl k j && (ab_dc k pc i len && decide (len = 2))))
  | .iinc j c => decide (j = ab_d0 dt) && (decide (c = v) && (decide (j < ab_ml k) && (ab_nl k j && (ab_dc k pc i len && decide (len = 3)))))
  | .lconst j => decide (Int64.ofNat (j : Nat) = Int64.ofInt v) && (ab_dc k pc i len && decide (len = 1))
  | .ldc2_w j => ab_dc k pc i len && (decide (len = 3) && ab_w (ab_d0 dt) (.constantLong (ab_yn k).cls j (Int64.ofInt v)))
  | .lload_n j => decide (j.val = ab_d0 dt) && (ab_dc k pc i len && decide (len = 1))
  | .lload j => decide (j = ab_d0 dt) && (ab_dc k pc i len && decide (len = 2))
  | .lstore_n j => decide (j.val = ab_d0 dt) && (decide (j.val + 1 < ab_ml k) && (decide (j.val ∈ ab_lo k) && (ab_nl k j.val && (ab_dc k pc i len && decide (len = 1)))))
  | .lstore j => decide (j = ab_d0 dt) && (decide (j + 1 < ab_ml k) && (decide (j ∈ ab_lo k) && (ab_nl k j && (ab_dc k pc i len && decide (len = 2)))))
  | .lreturn => decide (ab_rt k = some .long) && (ab_dc k pc i len && decide (len = 1))
  | .if_icmp _ off => decide ((pc : Int) + off = (ab_d0 dt : Int)) && (ab_dc k pc i len && decide (len = 3))
  | .ifCond _ off => decide ((pc : Int) + off = (ab_d0 dt : Int)) && (ab_dc k pc i len && decide (len = 3))
  | .goto off => decide ((pc : Int) + off = (ab_d0 dt : Int)) && (ab_dc k pc i len && decide (len = 3))
  | .ifnull off => decide ((pc : Int) + off = (ab_d0 dt : Int)) && (ab_dc k pc i len && decide (len = 3))
  | .ifnonnull off => decide ((pc : Int) + off = (ab_d0 dt : Int)) && (ab_dc k pc i len && decide (len = 3))
  | .tableswitch df lo hi offs => ab_cksw pc (df :: offs.toList) dt && (decide (hi = lo + offs.toList.length - 1) && ab_dc k pc i len)
  | .lookupswitch df ps => ab_cksw pc (df :: ps.toList.map Prod.snd) dt && ((ps.toList.zip (ps.toList.drop 1)).all (fun (a, next) => a.1 < next.1) && (ab_dc k pc i len && ps.toList.all (fun p => decide (-2147483648 ≤ p.1) && decide (p.1 < 2147483648))))
  | .getfield j => ab_cklink k j (ab_d0 dt) (ab_d1 dt) (ab_d3 dt) (ab_d4 dt) && (decide (ab_d0 dt < 8) && (decide (ab_d1 dt < ab_nf (ab_d0 dt)) && ((match ab_d2 dt with | 1 => decide (ab_fk (ab_d0 dt) (ab_d1 dt) = 1) | _ => decide (ab_fk (ab_d0 dt) (ab_d1 dt) ≠ 1)) && (ab_dc k pc i len && decide (len = 3)))))
  | .putfield j => ab_cklink k j (ab_d0 dt) (ab_d1 dt) (ab_d3 dt) (ab_d4 dt) && (decide (ab_d0 dt < 8) && (decide (ab_d1 dt < ab_nf (ab_d0 dt)) && ((match ab_d2 dt with | 1 => decide (ab_fk (ab_d0 dt) (ab_d1 dt) = 1) | 2 => decide (ab_fk (ab_d0 dt) (ab_d1 dt) = 2) | _ => decide (ab_fk (ab_d0 dt) (ab_d1 dt) = 0)) && ((match ab_d5 dt with | 0 => decide ((ab_tx (ab_d0 dt) (ab_d1 dt)).2.2.2 = false) | _ => decide ((ab_tx (ab_d0 dt) (ab_d1 dt)).2.2.2 = true) && (decide ((ab_yn k).name = "<init>") && (decide ((ab_tx (ab_d0 dt) (ab_d1 dt)).1 = (ab_yn k).cls) && ab_cklink k j (ab_d0 dt) (ab_d1 dt) (ab_d3 dt) 0))) && (ab_dc k pc i len && decide (len = 3))))))
  | .new j => decide (ab_d0 dt < 8) && (ab_w (ab_d1 dt) (.classLink (ab_yn k).cls j (ab_cn (ab_d0 dt))) && (ab_w (ab_d2 dt) (.instantiable (ab_cn (ab_d0 dt)) (ab_nf (ab_d0 dt))) && (ab_w (ab_d3 dt) (.initialized (ab_cn (ab_d0 dt))) && (ab_dc k pc i len && decide (len = 3)))))
  | .newarray t => decide (t = .int) && (ab_w (ab_d0 dt) (.arrayClass .int) && (ab_dc k pc i len && decide (len = 2)))
  | .invokevirtual j => decide (ab_d2 dt = 0) && (ab_ckcall k j dt && (ab_dc k pc i len && decide (len = 3)))
  | .invokestatic j => decide (ab_d2 dt = 1 ∨ 4 ≤ ab_d2 dt) && (ab_ckcall k j dt && (ab_dc k pc i len && decide (len = 3)))
  | .invokespecial j => decide (ab_d2 dt = 2 ∨ ab_d2 dt = 3) && (ab_ckcall k j dt && (ab_dc k pc i len && decide (len = 3)))
  | .ireturn => (match ab_d0 dt with | 1 => decide (ab_rt k = some .boolean) | _ => decide (ab_rt k = some .int)) && (ab_dc k pc i len && decide (len = 1))
  | .areturn => decide (ab_rt k = some (.object "FairBooks$Book")) && (ab_dc k pc i len && decide (len = 1))
  | .return_ => decide (ab_rt k = none) && (ab_dc k pc i len && decide (len = 1))
  | _ => ab_dc k pc i len && decide (len = 1)
def ab_chk (k : Nat) : Nat → List ab_O → Bool
  | _, [] => true
  | pc, o :: os => ab_ck k pc o.1 o.2.1 o.2.2.1 o.2.2.2 && ab_chk k (pc + o.2.1) os
end
section
/-! ===== the weakest precondition is sound (printed by wip/p28/mksound.py) ===== -/
theorem ab_p1_i {st : List Value} {f : Int32 → List Value → Prop} (h : ab_p1 st f) : ∃ x r, st = .int x :: r ∧ f x r := by
  unfold ab_p1 at h
  split at h
  · exact ⟨_, _,  rfl, h⟩
  · exact h.elim
theorem ab_p2_i {st : List Value} {f : Int32 → Int32 → List Value → Prop} (h : ab_p2 st f) : ∃ x y r, st = .int y :: .int x :: r ∧ f x y r := by
  unfold ab_p2 at h
  split at h
  · exact ⟨_, _, _,  rfl, h⟩
  · exact h.elim
theorem ab_p3_i {st : List Value} {f : Int32 → Int32 → Nat → List Value → Prop} (h : ab_p3 st f) : ∃ x i b r, st = .int x :: .int i :: .ref b :: r ∧ f x i b r := by
  unfold ab_p3 at h
  split at h
  · exact ⟨_, _, _, _,  rfl, h⟩
  · exact h.elim
theorem ab_pa_i {st : List Value} {f : Int32 → Nat → List Value → Prop} (h : ab_pa st f) : ∃ i b r, st = .int i :: .ref b :: r ∧ f i b r := by
  unfold ab_pa at h
  split at h
  · exact ⟨_, _, _,  rfl, h⟩
  · exact h.elim
theorem ab_pr_i {st : List Value} {f : Nat → List Value → Prop} (h : ab_pr st f) : ∃ b r, st = .ref b :: r ∧ f b r := by
  unfold ab_pr at h
  split at h
  · exact ⟨_, _,  rfl, h⟩
  · exact h.elim
theorem ab_prr_i {st : List Value} {f : Nat → Nat → List Value → Prop} (h : ab_prr st f) : ∃ a b r, st = .ref a :: .ref b :: r ∧ f a b r := by
  unfold ab_prr at h
  split at h
  · exact ⟨_, _, _,  rfl, h⟩
  · exact h.elim
theorem ab_pl_i {st : List Value} {f : Int64 → List Value → Prop} (h : ab_pl st f) : ∃ x r, st = .long x :: r ∧ f x r := by
  unfold ab_pl at h
  split at h
  · exact ⟨_, _,  rfl, h⟩
  · exact h.elim
theorem ab_pll_i {st : List Value} {f : Int64 → Int64 → List Value → Prop} (h : ab_pll st f) : ∃ x y r, st = .long y :: .long x :: r ∧ f x y r := by
  unfold ab_pll at h
  split at h
  · exact ⟨_, _, _,  rfl, h⟩
  · exact h.elim
theorem ab_pil_i {st : List Value} {f : Int64 → Int32 → List Value → Prop} (h : ab_pil st f) : ∃ x y r, st = .int y :: .long x :: r ∧ f x y r := by
  unfold ab_pil at h
  split at h
  · exact ⟨_, _, _,  rfl, h⟩
  · exact h.elim
theorem ab_pf_i {st : List Value} {f : UInt32 → List Value → Prop} (h : ab_pf st f) : ∃ x r, st = .float x :: r ∧ f x r := by
  unfold ab_pf at h
  split at h
  · exact ⟨_, _,  rfl, h⟩
  · exact h.elim
theorem ab_pff_i {st : List Value} {f : UInt32 → UInt32 → List Value → Prop} (h : ab_pff st f) : ∃ x y r, st = .float y :: .float x :: r ∧ f x y r := by
  unfold ab_pff at h
  split at h
  · exact ⟨_, _, _,  rfl, h⟩
  · exact h.elim
theorem ab_pvv_i {st : List Value} {f : Value → Value → List Value → Prop} (h : ab_pvv st f) : ∃ x b r, st = .int x :: .ref b :: r ∧ f (.int x) (.ref b) r := by
  unfold ab_pvv at h
  split at h
  · exact ⟨_, _, _,  rfl, h⟩
  · exact h.elim
theorem ab_pq_i {st : List Value} {f : Value → List Value → Prop} (h : ab_pq st f) : (∃ b r, st = .ref b :: r ∧ f (.ref b) r) ∨ ∃ r, st = .null :: r ∧ f .null r := by
  unfold ab_pq at h
  split at h
  · exact Or.inl ⟨_, _, rfl, h⟩
  · exact Or.inr ⟨_, rfl, h⟩
  · exact h.elim
theorem ab_pn_i {st : List Value} {f g : List Value → Prop} (h : ab_pn st f g) : (∃ b r, st = .ref b :: r ∧ f r) ∨ ∃ r, st = .null :: r ∧ g r := by
  unfold ab_pn at h
  split at h
  · exact Or.inl ⟨_, _, rfl, h⟩
  · exact Or.inr ⟨_, rfl, h⟩
  · exact h.elim
theorem ab_pv_i {st : List Value} {f : Value → List Value → Prop} (h : ab_pv st f) : ∃ v r, st = v :: r ∧ v.category = 1 ∧ f v r := by
  unfold ab_pv at h
  split at h
  · exact ⟨_, _, rfl, rfl, h⟩
  · exact ⟨_, _, rfl, rfl, h⟩
  · exact h.elim
theorem ab_oi_i {v : Option Value} {f : Int32 → Prop} (h : ab_oi v f) : ∃ x, v = some (.int x) ∧ f x := by
  unfold ab_oi at h
  split at h
  · exact ⟨_, rfl, h⟩
  · exact h.elim
theorem ab_ol_i {v : Option Value} {f : Int64 → Prop} (h : ab_ol v f) : ∃ x, v = some (.long x) ∧ f x := by
  unfold ab_ol at h
  split at h
  · exact ⟨_, rfl, h⟩
  · exact h.elim
theorem ab_of_i {v : Option Value} {f : UInt32 → Prop} (h : ab_of' v f) : ∃ x, v = some (.float x) ∧ f x := by
  unfold ab_of' at h
  split at h
  · exact ⟨_, rfl, h⟩
  · exact h.elim
theorem ab_or_i {v : Option Value} {f : Value → Prop} (h : ab_or v f) : (∃ x, v = some (.ref x) ∧ f (.ref x)) ∨ (v = some .null ∧ f .null) := by
  unfold ab_or at h
  split at h
  · exact Or.inl ⟨_, rfl, h⟩
  · exact Or.inr ⟨rfl, h⟩
  · exact h.elim
theorem ab_pop_i : ∀ {n : Nat} {acc st : List Value} {f : List Value → List Value → Prop}, ab_pop n acc st f → ∃ xs r, xs.length = n ∧ st = xs ++ r ∧ f (xs.reverse ++ acc) r
  | 0, acc, st, f, h => ⟨[], st, rfl, rfl, h⟩
  | n + 1, acc, [], f, h => h.elim
  | n + 1, acc, v :: st, f, h => by
    obtain ⟨xs, r, h1, h2, h3⟩ := ab_pop_i (n := n) (acc := v :: acc) (st := st) h
    refine ⟨v :: xs, r, by rw [List.length_cons, h1], by rw [h2]; rfl, ?_⟩
    rw [List.reverse_cons, List.append_assoc]
    exact h3
theorem ab_of_toInt (x : Int32) : x = Int32.ofInt x.toInt := (Int32.ofInt_toInt x).symm
theorem ab_sw_i {x : Int32} {f : Nat → Prop} : ∀ {ts : List Nat} {lo : Int} {j : Nat}, ab_sw x f lo ts → j < ts.length → x.toInt = lo + j → ∃ t, ts[j]? = some t ∧ f t
  | [], lo, j, h, hj, hx => absurd hj (Nat.not_lt_zero _)
  | t :: ts, lo, 0, h, hj, hx => ⟨t, rfl, h.1 (by rw [ab_of_toInt x, hx]; congr 1; omega)⟩
  | t :: ts, lo, j + 1, h, hj, hx => by
    obtain ⟨u, h1, h2⟩ := ab_sw_i (ts := ts) (lo := lo + 1) (j := j) h.2 (by simpa using hj) (by rw [hx]; omega)
    exact ⟨u, h1, h2⟩
theorem ab_cksw_len {pc : Nat} : ∀ {os : List Int} {ts : List Nat}, ab_cksw pc os ts = true → os.length = ts.length
  | [], [], _ => rfl
  | [], _ :: _, h => by cases h
  | _ :: _, [], h => by cases h
  | o :: os, t :: ts, h => by
    simp only [ab_cksw, Bool.and_eq_true] at h
    rw [List.length_cons, List.length_cons, ab_cksw_len h.2]
theorem ab_cksw_i {pc : Nat} : ∀ {os : List Int} {ts : List Nat} {j : Nat} {t : Nat}, ab_cksw pc os ts = true → ts[j]? = some t → ∃ off, os[j]? = some off ∧ (pc : Int) + off = (t : Int)
  | [], [], j, t, _, h => by cases j <;> cases h
  | [], _ :: _, _, _, h, _ => by cases h
  | _ :: _, [], _, _, h, _ => by cases h
  | o :: os, u :: ts, 0, t, h, ht => by
    simp only [ab_cksw, Bool.and_eq_true, decide_eq_true_eq] at h
    cases ht
    exact ⟨o, rfl, h.1⟩
  | o :: os, u :: ts, j + 1, t, h, ht => by
    simp only [ab_cksw, Bool.and_eq_true] at h
    exact ab_cksw_i (os := os) (ts := ts) (j := j) h.2 ht
theorem fb0_bmod {z : Int} (h1 : -2147483648 ≤ z) (h2 : z < 2147483648) : z.bmod (2 ^ 32) = z := by
  rw [Int.bmod_def]
  omega
theorem ab_lk_i {pc : Nat} {x : Int32} {f : Nat → Prop} {df : Nat} {dfo : Int} (hd : (pc : Int) + dfo = (df : Int)) : ∀ {ps : List (Int × Int)} {ts : List Nat}, (∀ p ∈ ps, -2147483648 ≤ p.1 ∧ p.1 < 2147483648) → ab_cksw pc (ps.map Prod.snd) ts = true → ab_lk2 x f df ps ts → ∃ t : Nat, (pc : Int) + Op.lookupswitch.offset ps dfo x.toInt = (t : Int) ∧ f t
  | [], [], _, _, h => ⟨df, hd, h⟩
  | [], _ :: _, _, hc, h => by cases hc
  | _ :: _, [], _, hc, h => by cases hc
  | (a, o) :: ps, t :: ts, hr, hc, h => by
    simp only [List.map_cons, ab_cksw, Bool.and_eq_true, decide_eq_true_eq] at hc
    rw [Op.lookupswitch.offset_cons]
    by_cases hx : a = x.toInt
    · rw [if_pos hx]
      exact ⟨t, hc.1, h.1 (by rw [ab_of_toInt x, ← hx])⟩
    · rw [if_neg hx]
      refine ab_lk_i hd (fun p hp => hr p (List.mem_cons_of_mem _ hp)) hc.2 (h.2 (fun q => hx ?_))
      have h1 := hr (a, o) List.mem_cons_self
      have h2 := congrArg Int32.toInt q
      rw [Int32.toInt_ofInt] at h2
      have h3 : a.bmod (2 ^ 32) = a := fb0_bmod h1.1 h1.2
      exact (h2.trans h3).symm

theorem ab_lk_of {k idx ci f p nest : Nat} (h : ab_cklink k idx ci f p nest = true) : ab_lk k idx (ab_tx ci f) := by
  unfold ab_cklink at h
  split at h
  · exact Or.inl (ab_w_in h)
  · exact Or.inr ⟨_, ab_wn_in h⟩
theorem ab_mnk {k idx y p nest : Nat} (h : (match nest with | 0 => ab_w p (.methodLink (ab_yn k).cls idx (ab_yn y)) | _ => ab_wn p (.methodLinkNest (ab_yn k).cls idx (ab_yn y) "FairBooks")) = true) : Jvm.Cond.methodLink (ab_yn k).cls idx (ab_yn y) ∈ ab_Tg ∨ Jvm.Cond.methodLinkNest (ab_yn k).cls idx (ab_yn y) "FairBooks" ∈ ab_nw := by
  split at h
  · exact Or.inl (ab_w_in h)
  · exact Or.inr (ab_wn_in h)
section ABS
variable {d k pc len n bc bs : Nat} {dt : List Nat} {v : Int} {ls : List (Option Value)} {st : List Value} {h : ab_H} {J : Nat → ab_K} {K : ab_K} {Q : Option Value → ab_H → Prop}
theorem ab_cs0 {idx : Nat} (hdc : decode (ab_cod k) pc = .ok (.invokevirtual idx, 3)) (h0 : ab_d2 dt = 0) (hc : ab_ckcall k idx dt = true) (hs : ab_call d dt n bc bs ls st h K) (hK : ∀ n bc bs ls st h, K n bc bs ls st h → ab_W d k (pc + 3) n bc bs ls st h Q) : ab_W d k pc n bc bs ls st h Q := by
  unfold ab_ckcall at hc
  unfold ab_call at hs
  rw [h0] at hc hs
  simp only [Bool.and_eq_true, decide_eq_true_eq] at hc hs
  obtain ⟨c1, c2, c3, c4, c5, c6, c7, c8, c9, c10, c11, c12⟩ := hc
  obtain ⟨xs, r, e1, e2, e3, e4, e5, e6⟩ := ab_pop_i hs
  rw [List.append_nil] at e5 e6
  subst e2
  cases hx : xs.reverse with
  | nil => rw [hx] at e5; exact e5.elim
  | cons w as =>
    rw [hx] at e5 e6
    cases w with
    | ref b =>
      have hxs : xs = as.reverse ++ [.ref b] := by rw [← List.reverse_reverse xs, hx, List.reverse_cons]
      have hl : as.length = ab_d1 dt - 1 := by rw [← e1, hxs]; simp
      rw [hxs, List.append_assoc]
      have g := ar_cV (bc := bc) (bs := bs) (ls := ls) (st := r) (Q := Q) hdc ⟨c1, c2⟩ e3 e4 (ab_w_in c5) (ab_w_in c6) (ab_w_in c8) (ab_w_in c7) c9 c10 e5.1 e5.2 c11 hl e6 (fun rv h' q => by rw [c3]; exact hK _ _ _ _ _ _ q)
      rw [c3, c4] at g
      exact g
    | int _ => exact e5.elim
    | long _ => exact e5.elim
    | float _ => exact e5.elim
    | double _ => exact e5.elim
    | null => exact e5.elim
    | retAddr _ => exact e5.elim
theorem ab_cs1 {idx : Nat} (hdc : decode (ab_cod k) pc = .ok (.invokestatic idx, 3)) (h0 : ab_d2 dt = 1) (hc : ab_ckcall k idx dt = true) (hs : ab_call d dt n bc bs ls st h K) (hK : ∀ n bc bs ls st h, K n bc bs ls st h → ab_W d k (pc + 3) n bc bs ls st h Q) : ab_W d k pc n bc bs ls st h Q := by
  unfold ab_ckcall at hc
  unfold ab_call at hs
  rw [h0] at hc hs
  simp only [Bool.and_eq_true, decide_eq_true_eq] at hc hs
  obtain ⟨c1, c2, c3, c4, c5, c6, c8, c11⟩ := hc
  obtain ⟨xs, r, e1, e2, e3, e4, e6⟩ := ab_pop_i hs
  rw [List.append_nil] at e6
  subst e2
  have hl : xs.reverse.length = ab_d1 dt := by rw [List.length_reverse]; exact e1
  rw [show xs = xs.reverse.reverse from (List.reverse_reverse xs).symm]
  rcases ab_mnk c5 with q | q
  · have g := ar_cS (bc := bc) (bs := bs) (ls := ls) (st := r) (Q := Q) hdc ⟨c1, c2⟩ e3 e4 q (ab_w_in c6) (ab_w_in c8) c11 hl e6 (fun rv h' q => by rw [c3]; exact hK _ _ _ _ _ _ q)
    rw [c3, c4] at g
    exact g
  · have g := ar_cSN (bc := bc) (bs := bs) (ls := ls) (st := r) (Q := Q) hdc ⟨c1, c2⟩ e3 e4 q (ab_w_in c6) (ab_w_in c8) c11 hl e6 (fun rv h' q => by rw [c3]; exact hK _ _ _ _ _ _ q)
    rw [c3, c4] at g
    exact g
theorem ab_cs2 {idx : Nat} (hdc : decode (ab_cod k) pc = .ok (.invokespecial idx, 3)) (h0 : ab_d2 dt = 2) (hc : ab_ckcall k idx dt = true) (hs : ab_call d dt n bc bs ls st h K) (hK : ∀ n bc bs ls st h, K n bc bs ls st h → ab_W d k (pc + 3) n bc bs ls st h Q) : ab_W d k pc n bc bs ls st h Q := by
  unfold ab_ckcall at hc
  unfold ab_call at hs
  rw [h0] at hc hs
  simp only [Bool.and_eq_true, decide_eq_true_eq] at hc hs
  obtain ⟨c1, c2, c5, c6, c8, c9, c10, c11, c12⟩ := hc
  obtain ⟨xs, r, e1, e2, e3, e4, e5, e7, e8, e6⟩ := ab_pop_i hs
  rw [List.append_nil] at e5 e6
  subst e2
  cases hx : xs.reverse with
  | nil => rw [hx] at e5; exact e5.elim
  | cons w as =>
    rw [hx] at e5 e6
    cases w with
    | ref b =>
      have hxs : xs = as.reverse ++ [.ref b] := by rw [← List.reverse_reverse xs, hx, List.reverse_cons]
      have hl : as.length = ab_d1 dt - 1 := by rw [← e1, hxs]; simp
      rw [hxs, List.append_assoc]
      rcases ab_mnk c5 with q | q
      · have g := ar_cI (bc := bc - ab_mc (ab_d0 dt)) (bs := bs - ab_ms (ab_d0 dt)) (ls := ls) (st := r) (Q := Q) hdc ⟨c1, c2⟩ e3 e4 q (ab_w_in c6) (ab_w_in c8) c9 c10 c11 hl e6 (fun rv h' q => hK _ _ _ _ _ _ q)
        rw [Nat.sub_add_cancel e7, Nat.sub_add_cancel e8] at g
        exact g
      · have g := ar_cIN (bc := bc - ab_mc (ab_d0 dt)) (bs := bs - ab_ms (ab_d0 dt)) (ls := ls) (st := r) (Q := Q) hdc ⟨c1, c2⟩ e3 e4 q (ab_w_in c6) (ab_w_in c8) c9 c10 c11 hl e6 (fun rv h' q => hK _ _ _ _ _ _ q)
        rw [Nat.sub_add_cancel e7, Nat.sub_add_cancel e8] at g
        exact g
    | int _ => exact e5.elim
    | long _ => exact e5.elim
    | float _ => exact e5.elim
    | double _ => exact e5.elim
    | null => exact e5.elim
    | retAddr _ => exact e5.elim
theorem ab_cs3 {idx : Nat} (hdc : decode (ab_cod k) pc = .ok (.invokespecial idx, 3)) (h0 : ab_d2 dt = 3) (hc : ab_ckcall k idx dt = true) (hs : ab_call d dt n bc bs ls st h K) (hK : ∀ n bc bs ls st h, K n bc bs ls st h → ab_W d k (pc + 3) n bc bs ls st h Q) : ab_W d k pc n bc bs ls st h Q := by
  unfold ab_ckcall at hc
  unfold ab_call at hs
  rw [h0] at hc hs
  simp only [Bool.and_eq_true] at hc hs
  obtain ⟨b, r, rfl, e3, e4, e5⟩ := ab_pr_i hs
  exact ar_objInit hdc e3 e4 (ab_w_in hc.1) (ab_w_in hc.2.1) (ab_w_in hc.2.2) (hK _ _ _ _ _ _ e5)
theorem ab_cs4 {idx : Nat} (hdc : decode (ab_cod k) pc = .ok (.invokestatic idx, 3)) (h0 : 4 ≤ ab_d2 dt) (hc : ab_ckcall k idx dt = true) (hs : ab_call d dt n bc bs ls st h K) (hK : ∀ n bc bs ls st h, K n bc bs ls st h → ab_W d k (pc + 3) n bc bs ls st h Q) : ab_W d k pc n bc bs ls st h Q := by
  unfold ab_ckcall at hc
  unfold ab_call at hs
  obtain ⟨z, hz⟩ : ∃ z, z = ab_d2 dt := ⟨_, rfl⟩
  rw [← hz] at h0 hc hs
  match z, h0, hc, hs with
  | 4, _, hc, hs =>
    simp only [Bool.and_eq_true] at hc hs
    obtain ⟨x, r, rfl, e3, e4, e5⟩ := ab_pf_i hs
    exact ar_raw hdc e3 e4 (ab_w_in hc.1) (ab_w_in hc.2.1) (ab_w_in hc.2.2.1) (ab_w_in hc.2.2.2) (hK _ _ _ _ _ _ e5)
  | 5, _, hc, hs =>
    simp only [Bool.and_eq_true] at hc hs
    obtain ⟨x, y, r, rfl, e3, e4, e5⟩ := ab_p2_i hs
    exact ar_max hdc e3 e4 (ab_w_in hc.1) (ab_w_in hc.2.1) (ab_w_in hc.2.2.1) (ab_w_in hc.2.2.2) (hK _ _ _ _ _ _ e5)
  | 6, _, hc, hs =>
    simp only [Bool.and_eq_true] at hc hs
    obtain ⟨x, y, r, rfl, e3, e4, e5⟩ := ab_p2_i hs
    exact ar_min hdc e3 e4 (ab_w_in hc.1) (ab_w_in hc.2.1) (ab_w_in hc.2.2.1) (ab_w_in hc.2.2.2) (hK _ _ _ _ _ _ e5)
  | z + 7, _, hc, hs => exact hs.elim
theorem ab_int_ty {ci f : Nat} (hk : ab_fk ci f = 0) : ab_ty ci f = .int := by
  unfold ab_fk at hk
  split at hk
  · assumption
  · omega
  · omega
theorem ab_bool_ty {ci f : Nat} (hk : ab_fk ci f = 2) : ab_ty ci f = .boolean := by
  unfold ab_fk at hk
  split at hk
  · omega
  · assumption
  · omega
theorem ab_ref_ty {ci f : Nat} (hc : ci < 8) (hf : f < ab_nf ci) (hk : ab_fk ci f = 1) : (∀ a, narrow (ab_ty ci f) (.ref a) = .ref a) ∧ ∀ a, fits (ab_ty ci f) (.ref a) = true := by
  have h1 := List.all_eq_true.mp (List.all_eq_true.mp ab_tk9 ci (List.mem_range.mpr hc)) f (List.mem_range.mpr hf)
  unfold ab_fk at hk
  cases ht : ab_ty ci f <;> rw [ht] at h1 hk <;> first | (cases h1; done) | (exact ⟨fun _ => rfl, fun _ => rfl⟩) | (simp at hk)
set_option maxHeartbeats 4000000 in
theorem ab_step_ok {i : Instr} (hc : ab_ck k pc i len dt v = true) (hs : ab_step d J Q i dt v n bc bs ls st h K) (hK : ∀ n bc bs ls st h, K n bc bs ls st h → ab_W d k (pc + len) n bc bs ls st h Q) (hJ : ∀ t n bc bs ls st h, J t n bc bs ls st h → ab_W d k t n bc bs ls st h Q) : ab_W d k pc n bc bs ls st h Q := by
  cases i
  case nop =>
    simp only [ab_ck, Bool.and_eq_true, decide_eq_true_eq, ab_dc] at hc
    have g := hJ _ _ _ _ _ _ _ hs
    rw [hc] at g
    exact g
  case iadd =>
    simp only [ab_ck, Bool.and_eq_true, decide_eq_true_eq, ab_dc] at hc
    obtain ⟨rfl⟩ := hc.2
    obtain ⟨x, y, r, rfl, hk⟩ := ab_p2_i hs
    exact ar_iadd hc.1 (hK _ _ _ _ _ _ hk)
  case isub =>
    simp only [ab_ck, Bool.and_eq_true, decide_eq_true_eq, ab_dc] at hc
    obtain ⟨rfl⟩ := hc.2
    obtain ⟨x, y, r, rfl, hk⟩ := ab_p2_i hs
    exact ar_isub hc.1 (hK _ _ _ _ _ _ hk)
  case imul =>
    simp only [ab_ck, Bool.and_eq_true, decide_eq_true_eq, ab_dc] at hc
    obtain ⟨rfl⟩ := hc.2
    obtain ⟨x, y, r, rfl, hk⟩ := ab_p2_i hs
    exact ar_imul hc.1 (hK _ _ _ _ _ _ hk)
  case iand =>
    simp only [ab_ck, Bool.and_eq_true, decide_eq_true_eq, ab_dc] at hc
    obtain ⟨rfl⟩ := hc.2
    obtain ⟨x, y, r, rfl, hk⟩ := ab_p2_i hs
    exact ar_iand hc.1 (hK _ _ _ _ _ _ hk)
  case ior =>
    simp only [ab_ck, Bool.and_eq_true, decide_eq_true_eq, ab_dc] at hc
    obtain ⟨rfl⟩ := hc.2
    obtain ⟨x, y, r, rfl, hk⟩ := ab_p2_i hs
    exact ar_ior hc.1 (hK _ _ _ _ _ _ hk)
  case ixor =>
    simp only [ab_ck, Bool.and_eq_true, decide_eq_true_eq, ab_dc] at hc
    obtain ⟨rfl⟩ := hc.2
    obtain ⟨x, y, r, rfl, hk⟩ := ab_p2_i hs
    exact ar_ixor hc.1 (hK _ _ _ _ _ _ hk)
  case ishl =>
    simp only [ab_ck, Bool.and_eq_true, decide_eq_true_eq, ab_dc] at hc
    obtain ⟨rfl⟩ := hc.2
    obtain ⟨x, y, r, rfl, hk⟩ := ab_p2_i hs
    exact ar_ishl hc.1 (hK _ _ _ _ _ _ hk)
  case ishr =>
    simp only [ab_ck, Bool.and_eq_true, decide_eq_true_eq, ab_dc] at hc
    obtain ⟨rfl⟩ := hc.2
    obtain ⟨x, y, r, rfl, hk⟩ := ab_p2_i hs
    exact ar_ishr hc.1 (hK _ _ _ _ _ _ hk)
  case iushr =>
    simp only [ab_ck, Bool.and_eq_true, decide_eq_true_eq, ab_dc] at hc
    obtain ⟨rfl⟩ := hc.2
    obtain ⟨x, y, r, rfl, hk⟩ := ab_p2_i hs
    exact ar_iushr hc.1 (hK _ _ _ _ _ _ hk)
  case idiv =>
    simp only [ab_ck, Bool.and_eq_true, decide_eq_true_eq, ab_dc] at hc
    obtain ⟨rfl⟩ := hc.2
    obtain ⟨x, y, r, rfl, hz, hk⟩ := ab_p2_i hs
    exact ar_idiv hc.1 hz (hK _ _ _ _ _ _ hk)
  case irem =>
    simp only [ab_ck, Bool.and_eq_true, decide_eq_true_eq, ab_dc] at hc
    obtain ⟨rfl⟩ := hc.2
    obtain ⟨x, y, r, rfl, hz, hk⟩ := ab_p2_i hs
    exact ar_irem hc.1 hz (hK _ _ _ _ _ _ hk)
  case ineg =>
    simp only [ab_ck, Bool.and_eq_true, decide_eq_true_eq, ab_dc] at hc
    obtain ⟨rfl⟩ := hc.2
    obtain ⟨x, r, rfl, hk⟩ := ab_p1_i hs
    exact ar_ineg hc.1 (hK _ _ _ _ _ _ hk)
  case i2f =>
    simp only [ab_ck, Bool.and_eq_true, decide_eq_true_eq, ab_dc] at hc
    obtain ⟨rfl⟩ := hc.2
    obtain ⟨x, r, rfl, hk⟩ := ab_p1_i hs
    exact ar_i2f hc.1 (hK _ _ _ _ _ _ hk)
  case fdiv =>
    simp only [ab_ck, Bool.and_eq_true, decide_eq_true_eq, ab_dc] at hc
    obtain ⟨rfl⟩ := hc.2
    obtain ⟨x, y, r, rfl, hz, hk⟩ := ab_pff_i hs
    exact ar_fdiv hc.1 hz (hK _ _ _ _ _ _ hk)
  case fmul =>
    simp only [ab_ck, Bool.and_eq_true, decide_eq_true_eq, ab_dc] at hc
    obtain ⟨rfl⟩ := hc.2
    obtain ⟨x, y, r, rfl, hz, hk⟩ := ab_pff_i hs
    exact ar_fmul hc.1 hz (hK _ _ _ _ _ _ hk)
  case f2i =>
    simp only [ab_ck, Bool.and_eq_true, decide_eq_true_eq, ab_dc] at hc
    obtain ⟨rfl⟩ := hc.2
    obtain ⟨x, r, rfl, hk⟩ := ab_pf_i hs
    exact ar_f2i hc.1 (hK _ _ _ _ _ _ hk)
  case fcmp op =>
    simp only [ab_ck, Bool.and_eq_true, decide_eq_true_eq, ab_dc] at hc
    obtain ⟨rfl⟩ := hc.2
    obtain ⟨x, y, r, rfl, hk⟩ := ab_pff_i hs
    exact ar_fcmp hc.1 (hK _ _ _ _ _ _ hk)
  case fconst f =>
    simp only [ab_ck, Bool.and_eq_true, decide_eq_true_eq, ab_dc] at hc
    obtain ⟨rfl, hd, rfl⟩ := hc
    exact ar_fconst2 hd (hK _ _ _ _ _ _ hs)
  case aconst_null =>
    simp only [ab_ck, Bool.and_eq_true, decide_eq_true_eq, ab_dc] at hc
    obtain ⟨rfl⟩ := hc.2
    exact ar_aconst_null hc.1 (hK _ _ _ _ _ _ hs)
  case iconst j =>
    simp only [ab_ck, Bool.and_eq_true, decide_eq_true_eq, ab_dc] at hc
    obtain ⟨rfl, hd, rfl⟩ := hc
    exact ar_iconst hd (hK _ _ _ _ _ _ hs)
  case bipush j =>
    simp only [ab_ck, Bool.and_eq_true, decide_eq_true_eq, ab_dc] at hc
    obtain ⟨rfl, hz, hd, rfl⟩ := hc
    exact ar_bipush hd hz (hK _ _ _ _ _ _ hs)
  case sipush j =>
    simp only [ab_ck, Bool.and_eq_true, decide_eq_true_eq, ab_dc] at hc
    obtain ⟨rfl, hz, hd, rfl⟩ := hc
    exact ar_sipush hd hz (hK _ _ _ _ _ _ hs)
  case ldc j =>
    simp only [ab_ck, Bool.and_eq_true, decide_eq_true_eq, ab_dc] at hc
    obtain ⟨hd, rfl, hw⟩ := hc
    simp only [ab_step] at hs
    split at hs
    next he =>
      rw [he] at hw
      exact ar_ldcf hd (ab_w_in hw) (hK _ _ _ _ _ _ hs)
    next he =>
      have hw2 : ab_w (ab_d0 dt) (.constant (ab_yn k).cls j (Int32.ofInt v)) = true := by
        split at hw
        next h1 => exact absurd h1 he
        next => exact hw
      exact ar_ldc hd (ab_w_in hw2) (hK _ _ _ _ _ _ hs)
  case ldc_w j =>
    simp only [ab_ck, Bool.and_eq_true, decide_eq_true_eq, ab_dc] at hc
    obtain ⟨hd, rfl, hw⟩ := hc
    simp only [ab_step] at hs
    split at hs
    next he =>
      rw [he] at hw
      exact ar_ldcwf hd (ab_w_in hw) (hK _ _ _ _ _ _ hs)
    next he =>
      have hw2 : ab_w (ab_d0 dt) (.constant (ab_yn k).cls j (Int32.ofInt v)) = true := by
        split at hw
        next h1 => exact absurd h1 he
        next => exact hw
      exact ar_ldc_w hd (ab_w_in hw2) (hK _ _ _ _ _ _ hs)
  case iload_n j =>
    simp only [ab_ck, Bool.and_eq_true, decide_eq_true_eq, ab_dc] at hc
    obtain ⟨hj, hd, rfl⟩ := hc
    obtain ⟨x, hx, hk⟩ := ab_oi_i hs
    exact ar_iload_n hd (by rw [hj]; exact hx) (hK _ _ _ _ _ _ hk)
  case fload_n j =>
    simp only [ab_ck, Bool.and_eq_true, decide_eq_true_eq, ab_dc] at hc
    obtain ⟨hj, hd, rfl⟩ := hc
    obtain ⟨x, hx, hk⟩ := ab_of_i hs
    exact ar_fload_n hd (by rw [hj]; exact hx) (hK _ _ _ _ _ _ hk)
  case iload j =>
    simp only [ab_ck, Bool.and_eq_true, decide_eq_true_eq, ab_dc] at hc
    obtain ⟨hj, hd, rfl⟩ := hc
    obtain ⟨x, hx, hk⟩ := ab_oi_i hs
    exact ar_iload hd (by rw [hj]; exact hx) (hK _ _ _ _ _ _ hk)
  case aload_n j =>
    simp only [ab_ck, Bool.and_eq_true, decide_eq_true_eq, ab_dc] at hc
    obtain ⟨hj, hd, rfl⟩ := hc
    simp only [ab_step] at hs
    rcases ab_or_i hs with ⟨x, hx, hk⟩ | ⟨hx, hk⟩
    · exact ar_aload_n hd (by rw [hj]; exact hx) (hK _ _ _ _ _ _ hk)
    · exact ar_aload_nN hd (by rw [hj]; exact hx) (hK _ _ _ _ _ _ hk)
  case aload j =>
    simp only [ab_ck, Bool.and_eq_true, decide_eq_true_eq, ab_dc] at hc
    obtain ⟨hj, hd, rfl⟩ := hc
    simp only [ab_step] at hs
    rcases ab_or_i hs with ⟨x, hx, hk⟩ | ⟨hx, hk⟩
    · exact ar_aload hd (by rw [hj]; exact hx) (hK _ _ _ _ _ _ hk)
    · exact ar_aloadN hd (by rw [hj]; exact hx) (hK _ _ _ _ _ _ hk)
  case istore_n j =>
    simp only [ab_ck, Bool.and_eq_true, decide_eq_true_eq, ab_dc] at hc
    obtain ⟨hj, hm, hnl, hd, rfl⟩ := hc
    obtain ⟨x, r, rfl, hk⟩ := ab_p1_i hs
    exact ar_istore_n hd hm (ab_nl_in hnl) (by rw [hj]; exact hK _ _ _ _ _ _ hk)
  case fstore_n j =>
    simp only [ab_ck, Bool.and_eq_true, decide_eq_true_eq, ab_dc] at hc
    obtain ⟨hj, hm, hnl, hd, rfl⟩ := hc
    obtain ⟨x, r, rfl, hk⟩ := ab_pf_i hs
    exact ar_fstore_n hd hm (ab_nl_in hnl) (by rw [hj]; exact hK _ _ _ _ _ _ hk)
  case istore j =>
    simp only [ab_ck, Bool.and_eq_true, decide_eq_true_eq, ab_dc] at hc
    obtain ⟨hj, hm, hnl, hd, rfl⟩ := hc
    obtain ⟨x, r, rfl, hk⟩ := ab_p1_i hs
    exact ar_istore hd hm (ab_nl_in hnl) (by rw [hj]; exact hK _ _ _ _ _ _ hk)
  case astore_n j =>
    simp only [ab_ck, Bool.and_eq_true, decide_eq_true_eq, ab_dc] at hc
    obtain ⟨hj, hm, hnl, hd, rfl⟩ := hc
    simp only [ab_step] at hs
    rcases ab_pq_i hs with ⟨x, r, rfl, hk⟩ | ⟨r, rfl, hk⟩
    · exact ar_astore_n hd hm (ab_nl_in hnl) (by rw [hj]; exact hK _ _ _ _ _ _ hk)
    · exact ar_astore_nN hd hm (ab_nl_in hnl) (by rw [hj]; exact hK _ _ _ _ _ _ hk)
  case astore j =>
    simp only [ab_ck, Bool.and_eq_true, decide_eq_true_eq, ab_dc] at hc
    obtain ⟨hj, hm, hnl, hd, rfl⟩ := hc
    simp only [ab_step] at hs
    rcases ab_pq_i hs with ⟨x, r, rfl, hk⟩ | ⟨r, rfl, hk⟩
    · exact ar_astore hd hm (ab_nl_in hnl) (by rw [hj]; exact hK _ _ _ _ _ _ hk)
    · exact ar_astoreN hd hm (ab_nl_in hnl) (by rw [hj]; exact hK _ _ _ _ _ _ hk)
  case iinc j c =>
    simp only [ab_ck, Bool.and_eq_true, decide_eq_true_eq, ab_dc] at hc
    obtain ⟨hj, rfl, hm, hnl, hd, rfl⟩ := hc
    obtain ⟨x, hx, hk⟩ := ab_oi_i hs
    exact ar_iinc hd hm (ab_nl_in hnl) (by rw [hj]; exact hx) (by rw [hj]; exact hK _ _ _ _ _ _ hk)
  case ladd =>
    simp only [ab_ck, Bool.and_eq_true, decide_eq_true_eq, ab_dc] at hc
    obtain ⟨rfl⟩ := hc.2
    obtain ⟨x, y, r, rfl, hk⟩ := ab_pll_i hs
    exact ar_ladd hc.1 (hK _ _ _ _ _ _ hk)
  case lmul =>
    simp only [ab_ck, Bool.and_eq_true, decide_eq_true_eq, ab_dc] at hc
    obtain ⟨rfl⟩ := hc.2
    obtain ⟨x, y, r, rfl, hk⟩ := ab_pll_i hs
    exact ar_lmul hc.1 (hK _ _ _ _ _ _ hk)
  case land =>
    simp only [ab_ck, Bool.and_eq_true, decide_eq_true_eq, ab_dc] at hc
    obtain ⟨rfl⟩ := hc.2
    obtain ⟨x, y, r, rfl, hk⟩ := ab_pll_i hs
    exact ar_land hc.1 (hK _ _ _ _ _ _ hk)
  case lcmp =>
    simp only [ab_ck, Bool.and_eq_true, decide_eq_true_eq, ab_dc] at hc
    obtain ⟨rfl⟩ := hc.2
    obtain ⟨x, y, r, rfl, hk⟩ := ab_pll_i hs
    exact ar_lcmp hc.1 (hK _ _ _ _ _ _ hk)
  case lshr =>
    simp only [ab_ck, Bool.and_eq_true, decide_eq_true_eq, ab_dc] at hc
    obtain ⟨rfl⟩ := hc.2
    obtain ⟨x, y, r, rfl, hk⟩ := ab_pil_i hs
    exact ar_lshr hc.1 (hK _ _ _ _ _ _ hk)
  case i2l =>
    simp only [ab_ck, Bool.and_eq_true, decide_eq_true_eq, ab_dc] at hc
    obtain ⟨rfl⟩ := hc.2
    obtain ⟨x, r, rfl, hk⟩ := ab_p1_i hs
    exact ar_i2l hc.1 (hK _ _ _ _ _ _ hk)
  case l2i =>
    simp only [ab_ck, Bool.and_eq_true, decide_eq_true_eq, ab_dc] at hc
    obtain ⟨rfl⟩ := hc.2
    obtain ⟨x, r, rfl, hk⟩ := ab_pl_i hs
    exact ar_l2i hc.1 (hK _ _ _ _ _ _ hk)
  case lconst j =>
    simp only [ab_ck, Bool.and_eq_true, decide_eq_true_eq, ab_dc] at hc
    obtain ⟨hz, hd, rfl⟩ := hc
    exact ar_lconst hd hz (hK _ _ _ _ _ _ hs)
  case ldc2_w j =>
    simp only [ab_ck, Bool.and_eq_true, decide_eq_true_eq, ab_dc] at hc
    obtain ⟨hd, rfl, hw⟩ := hc
    exact ar_ldc2_w hd (ab_w_in hw) (hK _ _ _ _ _ _ hs)
  case lload_n j =>
    simp only [ab_ck, Bool.and_eq_true, decide_eq_true_eq, ab_dc] at hc
    obtain ⟨hj, hd, rfl⟩ := hc
    obtain ⟨x, hx, hk⟩ := ab_ol_i hs
    exact ar_lload_n hd (by rw [hj]; exact hx) (hK _ _ _ _ _ _ hk)
  case lload j =>
    simp only [ab_ck, Bool.and_eq_true, decide_eq_true_eq, ab_dc] at hc
    obtain ⟨hj, hd, rfl⟩ := hc
    obtain ⟨x, hx, hk⟩ := ab_ol_i hs
    exact ar_lload hd (by rw [hj]; exact hx) (hK _ _ _ _ _ _ hk)
  case lstore_n j =>
    simp only [ab_ck, Bool.and_eq_true, decide_eq_true_eq, ab_dc] at hc
    obtain ⟨hj, hm, hlo, hnl, hd, rfl⟩ := hc
    obtain ⟨x, r, rfl, hk⟩ := ab_pl_i hs
    exact ar_lstore_n hd hm hlo (ab_nl_in hnl) (by rw [hj]; exact hK _ _ _ _ _ _ hk)
  case lstore j =>
    simp only [ab_ck, Bool.and_eq_true, decide_eq_true_eq, ab_dc] at hc
    obtain ⟨hj, hm, hlo, hnl, hd, rfl⟩ := hc
    obtain ⟨x, r, rfl, hk⟩ := ab_pl_i hs
    exact ar_lstore hd hm hlo (ab_nl_in hnl) (by rw [hj]; exact hK _ _ _ _ _ _ hk)
  case lreturn =>
    simp only [ab_ck, Bool.and_eq_true, decide_eq_true_eq, ab_dc] at hc
    obtain ⟨hrt, hd, rfl⟩ := hc
    simp only [ab_step] at hs
    split at hs
    next x =>
      obtain ⟨rfl, hs⟩ := hs
      exact ar_ret (r := some (.long x)) ⟨hd, hrt⟩ hs
    next => exact hs.elim
  case dup =>
    simp only [ab_ck, Bool.and_eq_true, decide_eq_true_eq, ab_dc] at hc
    obtain ⟨rfl⟩ := hc.2
    simp only [ab_step] at hs
    obtain ⟨w, r, rfl, hw, hk⟩ := ab_pv_i hs
    exact ar_dup hc.1 hw (hK _ _ _ _ _ _ hk)
  case dup2 =>
    simp only [ab_ck, Bool.and_eq_true, decide_eq_true_eq, ab_dc] at hc
    obtain ⟨rfl⟩ := hc.2
    simp only [ab_step] at hs
    obtain ⟨x, b, r, rfl, hk⟩ := ab_pvv_i hs
    exact ar_dup2 hc.1 rfl rfl (hK _ _ _ _ _ _ hk)
  case if_icmp c off =>
    simp only [ab_ck, Bool.and_eq_true, decide_eq_true_eq, ab_dc] at hc
    obtain ⟨ht, hd, rfl⟩ := hc
    obtain ⟨x, y, r, rfl, hk⟩ := ab_p2_i hs
    cases c with
    | eq => exact ar_icmp_eq hd ht (fun q => hJ _ _ _ _ _ _ _ (hk.1 q)) (fun q => hK _ _ _ _ _ _ (hk.2 q))
    | ne => exact ar_icmp_ne hd ht (fun q => hJ _ _ _ _ _ _ _ (hk.1 q)) (fun q => hK _ _ _ _ _ _ (hk.2 q))
    | lt => exact ar_icmp_lt hd ht (fun q => hJ _ _ _ _ _ _ _ (hk.1 q)) (fun q => hK _ _ _ _ _ _ (hk.2 q))
    | ge => exact ar_icmp_ge hd ht (fun q => hJ _ _ _ _ _ _ _ (hk.1 q)) (fun q => hK _ _ _ _ _ _ (hk.2 q))
    | gt => exact ar_icmp_gt hd ht (fun q => hJ _ _ _ _ _ _ _ (hk.1 q)) (fun q => hK _ _ _ _ _ _ (hk.2 q))
    | le => exact ar_icmp_le hd ht (fun q => hJ _ _ _ _ _ _ _ (hk.1 q)) (fun q => hK _ _ _ _ _ _ (hk.2 q))
  case ifCond c off =>
    simp only [ab_ck, Bool.and_eq_true, decide_eq_true_eq, ab_dc] at hc
    obtain ⟨ht, hd, rfl⟩ := hc
    obtain ⟨x, r, rfl, hk⟩ := ab_p1_i hs
    cases c with
    | eq => exact ar_if_eq hd ht (fun q => hJ _ _ _ _ _ _ _ (hk.1 q)) (fun q => hK _ _ _ _ _ _ (hk.2 q))
    | ne => exact ar_if_ne hd ht (fun q => hJ _ _ _ _ _ _ _ (hk.1 q)) (fun q => hK _ _ _ _ _ _ (hk.2 q))
    | lt => exact ar_if_lt hd ht (fun q => hJ _ _ _ _ _ _ _ (hk.1 q)) (fun q => hK _ _ _ _ _ _ (hk.2 q))
    | ge => exact ar_if_ge hd ht (fun q => hJ _ _ _ _ _ _ _ (hk.1 q)) (fun q => hK _ _ _ _ _ _ (hk.2 q))
    | gt => exact ar_if_gt hd ht (fun q => hJ _ _ _ _ _ _ _ (hk.1 q)) (fun q => hK _ _ _ _ _ _ (hk.2 q))
    | le => exact ar_if_le hd ht (fun q => hJ _ _ _ _ _ _ _ (hk.1 q)) (fun q => hK _ _ _ _ _ _ (hk.2 q))
  case goto off =>
    simp only [ab_ck, Bool.and_eq_true, decide_eq_true_eq, ab_dc] at hc
    obtain ⟨ht, hd, rfl⟩ := hc
    exact ar_goto hd ht (hJ _ _ _ _ _ _ _ hs)
  case ifnull off =>
    simp only [ab_ck, Bool.and_eq_true, decide_eq_true_eq, ab_dc] at hc
    obtain ⟨ht, hd, rfl⟩ := hc
    simp only [ab_step] at hs
    rcases ab_pn_i hs with ⟨x, r, rfl, hk⟩ | ⟨r, rfl, hk⟩
    · exact ar_ifnull hd ht (hK _ _ _ _ _ _ hk)
    · exact ar_ifnullN hd ht (hJ _ _ _ _ _ _ _ hk)
  case ifnonnull off =>
    simp only [ab_ck, Bool.and_eq_true, decide_eq_true_eq, ab_dc] at hc
    obtain ⟨ht, hd, rfl⟩ := hc
    simp only [ab_step] at hs
    rcases ab_pn_i hs with ⟨x, r, rfl, hk⟩ | ⟨r, rfl, hk⟩
    · exact ar_ifnonnull hd ht (hJ _ _ _ _ _ _ _ hk)
    · exact ar_ifnonnullN hd ht (hK _ _ _ _ _ _ hk)
  case tableswitch df lo hi offs =>
    simp only [ab_ck, Bool.and_eq_true, decide_eq_true_eq, ab_dc] at hc
    obtain ⟨hw, hh, hd⟩ := hc
    obtain ⟨x, r, rfl, hk1, hk2⟩ := ab_p1_i hs
    cases dt with
    | nil => cases hw
    | cons t0 ts =>
      simp only [ab_cksw, Bool.and_eq_true, decide_eq_true_eq] at hw
      by_cases hx : x.toInt < lo ∨ hi < x.toInt
      · exact ar_tout hd hx hw.1 (hJ _ _ _ _ _ _ _ (hk1 hx))
      · have hlen := ab_cksw_len hw.2
        have hj : (x.toInt - lo).toNat < ts.length := by omega
        obtain ⟨t, ht, hf⟩ := ab_sw_i (j := (x.toInt - lo).toNat) hk2 hj (by omega)
        obtain ⟨off, h1, h2⟩ := ab_cksw_i hw.2 ht
        exact ar_tin hd (fun q => hx (Or.inl q)) (fun q => hx (Or.inr q)) (by rw [← Array.getElem?_toList]; exact h1) h2 (hJ _ _ _ _ _ _ _ hf)
  case lookupswitch df ps =>
    simp only [ab_ck, Bool.and_eq_true, decide_eq_true_eq, ab_dc] at hc
    obtain ⟨hw, hp, hd, hr⟩ := hc
    obtain ⟨x, r, rfl, hk⟩ := ab_p1_i hs
    cases dt with
    | nil => cases hw
    | cons t0 ts =>
      simp only [ab_cksw, Bool.and_eq_true, decide_eq_true_eq] at hw
      obtain ⟨t, h1, h2⟩ := ab_lk_i hw.1 (fun p hp => by have := List.all_eq_true.mp hr p hp; simp only [Bool.and_eq_true, decide_eq_true_eq] at this; exact this) hw.2 hk
      exact ar_lookup hd hp rfl h1 (hJ _ _ _ _ _ _ _ h2)
  case getfield j =>
    simp only [ab_ck, Bool.and_eq_true, decide_eq_true_eq, ab_dc] at hc
    obtain ⟨hl, h9, hf, hkd, hd, rfl⟩ := hc
    obtain ⟨b, r, rfl, ⟨hb, hsh⟩, hk⟩ := ab_pr_i hs
    split at hk
    next he =>
      rw [he] at hkd
      simp only [decide_eq_true_eq] at hkd
      exact ar_get hd h9 hf hb hsh (ab_lk_of hl) (v := .ref (h.2 b (ab_d1 dt))) (fun base => by unfold ab_fv; rw [if_pos hkd, if_neg (by have := hk.1; unfold ab_nul; omega)]; rfl) (hK _ _ _ _ _ _ hk.2)
    next he =>
      have hkd2 : ab_fk (ab_d0 dt) (ab_d1 dt) ≠ 1 := by
        split at hkd
        next h1 => exact absurd h1 he
        next => simpa using hkd
      exact ar_get hd h9 hf hb hsh (ab_lk_of hl) (v := .int (h.1 b (ab_d1 dt))) (fun base => by unfold ab_fv; rw [if_neg hkd2]; rfl) (hK _ _ _ _ _ _ hk)
  case putfield j =>
    simp only [ab_ck, Bool.and_eq_true, decide_eq_true_eq, ab_dc] at hc
    obtain ⟨hl, h9, hf, hkd, hfin, hd, rfl⟩ := hc
    have hfi : (ab_tx (ab_d0 dt) (ab_d1 dt)).2.2.2 = false ∨ ((ab_tx (ab_d0 dt) (ab_d1 dt)).2.2.2 = true ∧ (ab_yn k).name = "<init>" ∧ (ab_tx (ab_d0 dt) (ab_d1 dt)).1 = (ab_yn k).cls ∧ Jvm.Cond.fieldLink (ab_yn k).cls j (ab_tx (ab_d0 dt) (ab_d1 dt)).1 (ab_tx (ab_d0 dt) (ab_d1 dt)).2.1 (ab_tx (ab_d0 dt) (ab_d1 dt)).2.2.1 ∈ ab_Tg) := by
      split at hfin
      · exact Or.inl (by simpa using hfin)
      · simp only [Bool.and_eq_true, decide_eq_true_eq] at hfin
        exact Or.inr ⟨hfin.1, hfin.2.1, hfin.2.2.1, ab_w_in hfin.2.2.2⟩
    simp only [ab_step] at hs
    split at hs
    next he =>
      obtain ⟨a, b, r, rfl, ⟨hb, hsh⟩, ha, hk⟩ := ab_prr_i hs
      rw [he] at hkd
      simp only [decide_eq_true_eq] at hkd
      have hty := ab_ref_ty h9 hf hkd
      exact ar_put hd h9 hf hb hsh (ab_lk_of hl) hfi (v := .ref a) (fun base => hty.1 (base + a)) (fun base => hty.2 (base + a)) (fun base => ab_ob_hr hf hkd (by unfold ab_nul; omega)) (fun cA base k hk => ab_ce_hr hk) (hK _ _ _ _ _ _ hk)
    next he =>
      obtain ⟨x, b, r, rfl, ⟨hb, hsh⟩, hx, hk⟩ := ab_pa_i hs
      rw [he] at hkd
      simp only [decide_eq_true_eq] at hkd
      have hty := ab_bool_ty hkd
      exact ar_put hd h9 hf hb hsh (ab_lk_of hl) hfi (v := .int x) (fun base => by rw [hty]; rcases hx with rfl | rfl <;> rfl) (fun base => by rw [hty]; rcases hx with rfl | rfl <;> rfl) (fun base => ab_ob_hi hf (by rw [hkd]; decide)) (fun cA base k hk => ab_ce_hi hk) (hK _ _ _ _ _ _ hk)
    next he1 he2 =>
      obtain ⟨x, b, r, rfl, ⟨hb, hsh⟩, hk⟩ := ab_pa_i hs
      have hkd2 : ab_fk (ab_d0 dt) (ab_d1 dt) = 0 := by
        split at hkd
        next h1 => exact absurd h1 he1
        next h1 => exact absurd h1 he2
        next => simpa using hkd
      have hty := ab_int_ty hkd2
      exact ar_put hd h9 hf hb hsh (ab_lk_of hl) hfi (v := .int x) (fun base => by rw [hty]; rfl) (fun base => by rw [hty]; rfl) (fun base => ab_ob_hi hf (by rw [hkd2]; decide)) (fun cA base k hk => ab_ce_hi hk) (hK _ _ _ _ _ _ hk)
  case arraylength =>
    simp only [ab_ck, Bool.and_eq_true, decide_eq_true_eq, ab_dc] at hc
    obtain ⟨rfl⟩ := hc.2
    obtain ⟨b, r, rfl, ⟨hb, hsh⟩, hk⟩ := ab_pr_i hs
    exact ar_alen hc.1 hb hsh (hK _ _ _ _ _ _ hk)
  case iaload =>
    simp only [ab_ck, Bool.and_eq_true, decide_eq_true_eq, ab_dc] at hc
    obtain ⟨rfl⟩ := hc.2
    obtain ⟨i, b, r, rfl, ⟨hb, hsh⟩, hi, hk⟩ := ab_pa_i hs
    exact ar_iald hc.1 hb hsh hi (hK _ _ _ _ _ _ hk)
  case iastore =>
    simp only [ab_ck, Bool.and_eq_true, decide_eq_true_eq, ab_dc] at hc
    obtain ⟨rfl⟩ := hc.2
    obtain ⟨x, i, b, r, rfl, ⟨hb, hsh⟩, hi, hk⟩ := ab_p3_i hs
    exact ar_iast hc.1 hb hsh hi (hK _ _ _ _ _ _ hk)
  case new j =>
    simp only [ab_ck, Bool.and_eq_true, decide_eq_true_eq, ab_dc] at hc
    obtain ⟨h9, hw1, hw2, hw3, hd, rfl⟩ := hc
    obtain ⟨hsh, hb, hb2, hk⟩ := hs
    have g := ar_new (bc := bc - 1) (bs := bs - ab_nf (ab_d0 dt)) hd h9 hsh (ab_w_in hw1) (ab_w_in hw2) (ab_w_in hw3) (hK _ _ _ _ _ _ hk)
    rw [Nat.sub_add_cancel hb, Nat.sub_add_cancel hb2] at g
    exact g
  case newarray t =>
    simp only [ab_ck, Bool.and_eq_true, decide_eq_true_eq, ab_dc] at hc
    obtain ⟨rfl, hw1, hd, rfl⟩ := hc
    obtain ⟨x, r, rfl, hx, hx2, hsh, hb, hb2, hk⟩ := ab_p1_i hs
    have g := ar_newa (bc := bc - 1) (bs := bs - x.toNatClampNeg) hd hx rfl hx2 hsh (ab_w_in hw1) (hK _ _ _ _ _ _ hk)
    rw [Nat.sub_add_cancel hb, Nat.sub_add_cancel hb2] at g
    exact g
  case invokevirtual j =>
    simp only [ab_ck, Bool.and_eq_true, decide_eq_true_eq, ab_dc] at hc
    obtain ⟨h0, hcc, hd, rfl⟩ := hc
    exact ab_cs0 hd h0 hcc hs hK
  case invokestatic j =>
    simp only [ab_ck, Bool.and_eq_true, decide_eq_true_eq, ab_dc] at hc
    obtain ⟨h0, hcc, hd, rfl⟩ := hc
    rcases h0 with h0 | h0
    · exact ab_cs1 hd h0 hcc hs hK
    · exact ab_cs4 hd h0 hcc hs hK
  case invokespecial j =>
    simp only [ab_ck, Bool.and_eq_true, decide_eq_true_eq, ab_dc] at hc
    obtain ⟨h0, hcc, hd, rfl⟩ := hc
    rcases h0 with h0 | h0
    · exact ab_cs2 hd h0 hcc hs hK
    · exact ab_cs3 hd h0 hcc hs hK
  case ireturn =>
    simp only [ab_ck, Bool.and_eq_true, decide_eq_true_eq, ab_dc] at hc
    obtain ⟨hrt, hd, rfl⟩ := hc
    simp only [ab_step] at hs
    split at hs
    next x =>
      obtain ⟨rfl, hs⟩ := hs
      split at hs
      next he =>
        rw [he] at hrt
        simp only [decide_eq_true_eq] at hrt
        exact ar_ret (r := some (.int x)) ⟨hd, _, hrt, by rcases hs.1 with rfl | rfl <;> rfl⟩ hs.2
      next he =>
        have hrt2 : ab_rt k = some .int := by
          split at hrt
          next h1 => exact absurd h1 he
          next => simpa using hrt
        exact ar_ret (r := some (.int x)) ⟨hd, _, hrt2, rfl⟩ hs
    next => exact hs.elim
  case areturn =>
    simp only [ab_ck, Bool.and_eq_true, decide_eq_true_eq, ab_dc] at hc
    obtain ⟨hrt, hd, rfl⟩ := hc
    simp only [ab_step] at hs
    split at hs
    next x =>
      obtain ⟨rfl, hs⟩ := hs
      exact ar_ret (r := some (.ref x)) ⟨hd, ⟨_, hrt⟩, Or.inr ⟨_, rfl⟩⟩ hs
    next =>
      obtain ⟨rfl, hs⟩ := hs
      exact ar_ret (r := some .null) ⟨hd, ⟨_, hrt⟩, Or.inl rfl⟩ hs
    next => exact hs.elim
  case return_ =>
    simp only [ab_ck, Bool.and_eq_true, decide_eq_true_eq, ab_dc] at hc
    obtain ⟨hrt, hd, rfl⟩ := hc
    simp only [ab_step] at hs
    split at hs
    next =>
      obtain ⟨rfl, hs⟩ := hs
      exact ar_ret (r := none) ⟨hd, hrt⟩ hs
    next => exact hs.elim
  all_goals exact False.elim hs
theorem ab_wp_ok (hJ : ∀ t n bc bs ls st h, J t n bc bs ls st h → ab_W d k t n bc bs ls st h Q) : ∀ (os : List ab_O) {pc n bc bs : Nat} {ls : List (Option Value)} {st : List Value} {h : ab_H}, ab_chk k pc os = true → ab_wp d J Q os n bc bs ls st h → ab_W d k pc n bc bs ls st h Q
  | [], _, _, _, _, _, _, _, _, hw => hw.elim
  | (i, len, dt, v) :: os, pc, n, bc, bs, ls, st, h, hc, hw => by
    rw [ab_chk, Bool.and_eq_true] at hc
    exact ab_step_ok hc.1 hw (fun n bc bs ls st h q => ab_wp_ok hJ os hc.2 q) hJ
end ABS
end
section
/-! ===== the code as blocks (printed by wip/p28/mkcode.py) ===== -/
abbrev yn_Integer_bitCount : Nat := 2
def bk_Integer_bitCount_0 : List ab_O := [(.iload_n 0, 1, [0], 0), (.iload_n 0, 1, [0], 0), (.iconst 1, 1, [], 1), (.iushr, 1, [], 0), (.ldc_w 265, 3, [402], 1431655765), (.iand, 1, [], 0), (.isub, 1, [], 0), (.istore_n 0, 1, [0], 0), (.iload_n 0, 1, [0], 0), (.ldc_w 266, 3, [403], 858993459), (.iand, 1, [], 0), (.iload_n 0, 1, [0], 0), (.iconst 2, 1, [], 2), (.iushr, 1, [], 0), (.ldc_w 266, 3, [403], 858993459), (.iand, 1, [], 0), (.iadd, 1, [], 0), (.istore_n 0, 1, [0], 0), (.iload_n 0, 1, [0], 0), (.iload_n 0, 1, [0], 0), (.iconst 4, 1, [], 4), (.iushr, 1, [], 0), (.iadd, 1, [], 0), (.ldc_w 267, 3, [404], 252645135), (.iand, 1, [], 0), (.istore_n 0, 1, [0], 0), (.iload_n 0, 1, [0], 0), (.iload_n 0, 1, [0], 0), (.bipush 8, 2, [], 8), (.iushr, 1, [], 0), (.iadd, 1, [], 0), (.istore_n 0, 1, [0], 0), (.iload_n 0, 1, [0], 0), (.iload_n 0, 1, [0], 0), (.bipush 16, 2, [], 16), (.iushr, 1, [], 0), (.iadd, 1, [], 0), (.istore_n 0, 1, [0], 0), (.iload_n 0, 1, [0], 0), (.bipush 63, 2, [], 63), (.iand, 1, [], 0), (.ireturn, 1, [0], 0)]
def bt_Integer_bitCount : List (Nat × List ab_O) := [(0, bk_Integer_bitCount_0)]
abbrev yn_Names_init : Nat := 3
def bk_Names_init_0 : List ab_O := [(.aload_n 0, 1, [0], 0), (.invokespecial 3, 3, [999,1,3,0,38,25,26], 0), (.aload_n 0, 1, [0], 0), (.bipush 16, 2, [], 16), (.newarray .int, 2, [51], 0), (.putfield 9, 3, [4,0,1,39,0,1], 0), (.aload_n 0, 1, [0], 0), (.bipush 16, 2, [], 16), (.newarray .int, 2, [51], 0), (.putfield 15, 3, [4,1,1,40,0,1], 0), (.return_, 1, [], 0)]
def bt_Names_init : List (Nat × List ab_O) := [(0, bk_Names_init_0)]
abbrev yn_Names_has : Nat := 4
def bk_Names_has_0 : List ab_O := [(.iload_n 1, 1, [1], 0), (.ifCond .lt 15, 3, [16], 0), (.iload_n 1, 1, [1], 0), (.aload_n 0, 1, [0], 0), (.getfield 18, 3, [4,2,0,41,0], 0), (.if_icmp .ge 7, 3, [16], 0), (.iconst 1, 1, [], 1), (.goto 4, 3, [17], 0)]
def bk_Names_has_16 : List ab_O := [(.iconst 0, 1, [], 0), (.nop, 0, [17], 0)]
def bk_Names_has_17 : List ab_O := [(.ireturn, 1, [1], 0)]
def bt_Names_has : List (Nat × List ab_O) := [(0, bk_Names_has_0), (16, bk_Names_has_16), (17, bk_Names_has_17)]
abbrev yn_Names_fameOf : Nat := 5
def bk_Names_fameOf_0 : List ab_O := [(.iload_n 1, 1, [1], 0), (.ifCond .lt 21, 3, [22], 0), (.iload_n 1, 1, [1], 0), (.aload_n 0, 1, [0], 0), (.getfield 9, 3, [4,0,1,39,0], 0), (.arraylength, 1, [], 0), (.if_icmp .ge 12, 3, [22], 0), (.aload_n 0, 1, [0], 0), (.getfield 9, 3, [4,0,1,39,0], 0), (.iload_n 1, 1, [1], 0), (.iaload, 1, [], 0), (.goto 4, 3, [23], 0)]
def bk_Names_fameOf_22 : List ab_O := [(.iconst 0, 1, [], 0), (.nop, 0, [23], 0)]
def bk_Names_fameOf_23 : List ab_O := [(.ireturn, 1, [0], 0)]
def bt_Names_fameOf : List (Nat × List ab_O) := [(0, bk_Names_fameOf_0), (22, bk_Names_fameOf_22), (23, bk_Names_fameOf_23)]
abbrev yn_Names_themeOf : Nat := 6
def bk_Names_themeOf_0 : List ab_O := [(.iload_n 1, 1, [1], 0), (.ifCond .lt 21, 3, [22], 0), (.iload_n 1, 1, [1], 0), (.aload_n 0, 1, [0], 0), (.getfield 15, 3, [4,1,1,40,0], 0), (.arraylength, 1, [], 0), (.if_icmp .ge 12, 3, [22], 0), (.aload_n 0, 1, [0], 0), (.getfield 15, 3, [4,1,1,40,0], 0), (.iload_n 1, 1, [1], 0), (.iaload, 1, [], 0), (.goto 4, 3, [23], 0)]
def bk_Names_themeOf_22 : List ab_O := [(.iconst (-1), 1, [], (-1)), (.nop, 0, [23], 0)]
def bk_Names_themeOf_23 : List ab_O := [(.ireturn, 1, [0], 0)]
def bt_Names_themeOf : List (Nat × List ab_O) := [(0, bk_Names_themeOf_0), (22, bk_Names_themeOf_22), (23, bk_Names_themeOf_23)]
abbrev yn_Names_setOf : Nat := 7
def bk_Names_setOf_0 : List ab_O := [(.iconst 0, 1, [], 0), (.istore_n 2, 1, [2], 0), (.iconst 0, 1, [], 0), (.istore_n 3, 1, [3], 0), (.nop, 0, [4], 0)]
def bk_Names_setOf_4 : List ab_O := [(.iload_n 3, 1, [3], 0), (.aload_n 0, 1, [0], 0), (.getfield 18, 3, [4,2,0,41,0], 0), (.if_icmp .ge 34, 3, [43], 0), (.iload_n 3, 1, [3], 0), (.aload_n 0, 1, [0], 0), (.getfield 15, 3, [4,1,1,40,0], 0), (.arraylength, 1, [], 0), (.if_icmp .ge 25, 3, [43], 0), (.aload_n 0, 1, [0], 0), (.getfield 15, 3, [4,1,1,40,0], 0), (.iload_n 3, 1, [3], 0), (.iaload, 1, [], 0), (.iload_n 1, 1, [1], 0), (.if_icmp .ne 9, 3, [37], 0), (.iload_n 2, 1, [2], 0), (.iconst 1, 1, [], 1), (.iload_n 3, 1, [3], 0), (.ishl, 1, [], 0), (.ior, 1, [], 0), (.istore_n 2, 1, [2], 0), (.nop, 0, [37], 0)]
def bk_Names_setOf_37 : List ab_O := [(.iinc 3 1, 3, [3], 1), (.goto (-36), 3, [4], 0)]
def bk_Names_setOf_43 : List ab_O := [(.iload_n 2, 1, [2], 0), (.ireturn, 1, [0], 0)]
def bt_Names_setOf : List (Nat × List ab_O) := [(0, bk_Names_setOf_0), (4, bk_Names_setOf_4), (37, bk_Names_setOf_37), (43, bk_Names_setOf_43)]
abbrev yn_Names_add : Nat := 8
def bk_Names_add_0 : List ab_O := [(.aload_n 0, 1, [0], 0), (.getfield 18, 3, [4,2,0,41,0], 0), (.ifCond .lt 57, 3, [61], 0), (.aload_n 0, 1, [0], 0), (.getfield 18, 3, [4,2,0,41,0], 0), (.aload_n 0, 1, [0], 0), (.getfield 9, 3, [4,0,1,39,0], 0), (.arraylength, 1, [], 0), (.if_icmp .ge 45, 3, [61], 0), (.aload_n 0, 1, [0], 0), (.getfield 18, 3, [4,2,0,41,0], 0), (.aload_n 0, 1, [0], 0), (.getfield 15, 3, [4,1,1,40,0], 0), (.arraylength, 1, [], 0), (.if_icmp .ge 33, 3, [61], 0), (.aload_n 0, 1, [0], 0), (.getfield 9, 3, [4,0,1,39,0], 0), (.aload_n 0, 1, [0], 0), (.getfield 18, 3, [4,2,0,41,0], 0), (.iload_n 1, 1, [1], 0), (.iastore, 1, [], 0), (.aload_n 0, 1, [0], 0), (.getfield 15, 3, [4,1,1,40,0], 0), (.aload_n 0, 1, [0], 0), (.getfield 18, 3, [4,2,0,41,0], 0), (.iload_n 2, 1, [2], 0), (.iastore, 1, [], 0), (.aload_n 0, 1, [0], 0), (.dup, 1, [], 0), (.getfield 18, 3, [4,2,0,41,0], 0), (.iconst 1, 1, [], 1), (.iadd, 1, [], 0), (.putfield 18, 3, [4,2,0,41,0,0], 0), (.nop, 0, [61], 0)]
def bk_Names_add_61 : List ab_O := [(.return_, 1, [], 0)]
def bt_Names_add : List (Nat × List ab_O) := [(0, bk_Names_add_0), (61, bk_Names_add_61)]
abbrev yn_Names_copyFrom : Nat := 9
def bk_Names_copyFrom_0 : List ab_O := [(.aload_n 0, 1, [0], 0), (.iconst 0, 1, [], 0), (.putfield 18, 3, [4,2,0,41,0,0], 0), (.iconst 0, 1, [], 0), (.istore_n 2, 1, [2], 0), (.nop, 0, [7], 0)]
def bk_Names_copyFrom_7 : List ab_O := [(.iload_n 2, 1, [2], 0), (.aload_n 1, 1, [1], 0), (.getfield 18, 3, [4,2,0,41,0], 0), (.if_icmp .ge 23, 3, [35], 0), (.aload_n 0, 1, [0], 0), (.aload_n 1, 1, [1], 0), (.iload_n 2, 1, [2], 0), (.invokevirtual 22, 3, [5,2,0,0,256,257,258,11,4], 0), (.aload_n 1, 1, [1], 0), (.iload_n 2, 1, [2], 0), (.invokevirtual 26, 3, [6,2,0,0,260,261,262,11,4], 0), (.invokevirtual 29, 3, [8,3,0,0,264,265,266,11,4], 0), (.iinc 2 1, 3, [2], 1), (.goto (-25), 3, [7], 0)]
def bk_Names_copyFrom_35 : List ab_O := [(.return_, 1, [], 0)]
def bt_Names_copyFrom : List (Nat × List ab_O) := [(0, bk_Names_copyFrom_0), (7, bk_Names_copyFrom_7), (35, bk_Names_copyFrom_35)]
abbrev yn_Book_init : Nat := 10
def bk_Book_init_0 : List ab_O := [(.aload_n 0, 1, [0], 0), (.invokespecial 3, 3, [999,1,3,0,57,25,26], 0), (.aload_n 0, 1, [0], 0), (.bipush 16, 2, [], 16), (.newarray .int, 2, [51], 0), (.putfield 9, 3, [2,0,1,58,0,1], 0), (.aload_n 0, 1, [0], 0), (.bipush 32, 2, [], 32), (.newarray .int, 2, [51], 0), (.putfield 15, 3, [2,1,1,59,0,1], 0), (.aload_n 0, 1, [0], 0), (.bipush 32, 2, [], 32), (.newarray .int, 2, [51], 0), (.putfield 18, 3, [2,2,1,60,0,1], 0), (.aload_n 0, 1, [0], 0), (.bipush 32, 2, [], 32), (.newarray .int, 2, [51], 0), (.putfield 21, 3, [2,3,1,61,0,1], 0), (.aload_n 0, 1, [0], 0), (.iload_n 1, 1, [1], 0), (.putfield 24, 3, [2,4,0,62,0,0], 0), (.return_, 1, [], 0)]
def bt_Book_init : List (Nat × List ab_O) := [(0, bk_Book_init_0)]
abbrev yn_Book_numberAt : Nat := 11
def bk_Book_numberAt_0 : List ab_O := [(.iload_n 1, 1, [1], 0), (.ifCond .lt 21, 3, [22], 0), (.iload_n 1, 1, [1], 0), (.aload_n 0, 1, [0], 0), (.getfield 9, 3, [2,0,1,58,0], 0), (.arraylength, 1, [], 0), (.if_icmp .ge 12, 3, [22], 0), (.aload_n 0, 1, [0], 0), (.getfield 9, 3, [2,0,1,58,0], 0), (.iload_n 1, 1, [1], 0), (.iaload, 1, [], 0), (.goto 4, 3, [23], 0)]
def bk_Book_numberAt_22 : List ab_O := [(.iconst (-1), 1, [], (-1)), (.nop, 0, [23], 0)]
def bk_Book_numberAt_23 : List ab_O := [(.ireturn, 1, [0], 0)]
def bt_Book_numberAt : List (Nat × List ab_O) := [(0, bk_Book_numberAt_0), (22, bk_Book_numberAt_22), (23, bk_Book_numberAt_23)]
abbrev yn_Book_kindOf : Nat := 12
def bk_Book_kindOf_0 : List ab_O := [(.iload_n 1, 1, [1], 0), (.ifCond .lt 21, 3, [22], 0), (.iload_n 1, 1, [1], 0), (.aload_n 0, 1, [0], 0), (.getfield 15, 3, [2,1,1,59,0], 0), (.arraylength, 1, [], 0), (.if_icmp .ge 12, 3, [22], 0), (.aload_n 0, 1, [0], 0), (.getfield 15, 3, [2,1,1,59,0], 0), (.iload_n 1, 1, [1], 0), (.iaload, 1, [], 0), (.goto 4, 3, [23], 0)]
def bk_Book_kindOf_22 : List ab_O := [(.iconst 0, 1, [], 0), (.nop, 0, [23], 0)]
def bk_Book_kindOf_23 : List ab_O := [(.ireturn, 1, [0], 0)]
def bt_Book_kindOf : List (Nat × List ab_O) := [(0, bk_Book_kindOf_0), (22, bk_Book_kindOf_22), (23, bk_Book_kindOf_23)]
abbrev yn_Book_nameOn : Nat := 13
def bk_Book_nameOn_0 : List ab_O := [(.iload_n 1, 1, [1], 0), (.ifCond .lt 21, 3, [22], 0), (.iload_n 1, 1, [1], 0), (.aload_n 0, 1, [0], 0), (.getfield 18, 3, [2,2,1,60,0], 0), (.arraylength, 1, [], 0), (.if_icmp .ge 12, 3, [22], 0), (.aload_n 0, 1, [0], 0), (.getfield 18, 3, [2,2,1,60,0], 0), (.iload_n 1, 1, [1], 0), (.iaload, 1, [], 0), (.goto 4, 3, [23], 0)]
def bk_Book_nameOn_22 : List ab_O := [(.iconst 0, 1, [], 0), (.nop, 0, [23], 0)]
def bk_Book_nameOn_23 : List ab_O := [(.ireturn, 1, [0], 0)]
def bt_Book_nameOn : List (Nat × List ab_O) := [(0, bk_Book_nameOn_0), (22, bk_Book_nameOn_22), (23, bk_Book_nameOn_23)]
abbrev yn_Book_friendOn : Nat := 14
def bk_Book_friendOn_0 : List ab_O := [(.iload_n 1, 1, [1], 0), (.ifCond .lt 21, 3, [22], 0), (.iload_n 1, 1, [1], 0), (.aload_n 0, 1, [0], 0), (.getfield 21, 3, [2,3,1,61,0], 0), (.arraylength, 1, [], 0), (.if_icmp .ge 12, 3, [22], 0), (.aload_n 0, 1, [0], 0), (.getfield 21, 3, [2,3,1,61,0], 0), (.iload_n 1, 1, [1], 0), (.iaload, 1, [], 0), (.goto 4, 3, [23], 0)]
def bk_Book_friendOn_22 : List ab_O := [(.iconst (-1), 1, [], (-1)), (.nop, 0, [23], 0)]
def bk_Book_friendOn_23 : List ab_O := [(.ireturn, 1, [0], 0)]
def bt_Book_friendOn : List (Nat × List ab_O) := [(0, bk_Book_friendOn_0), (22, bk_Book_friendOn_22), (23, bk_Book_friendOn_23)]
abbrev yn_Book_find : Nat := 15
def bk_Book_find_0 : List ab_O := [(.iconst 0, 1, [], 0), (.istore_n 2, 1, [2], 0), (.nop, 0, [2], 0)]
def bk_Book_find_2 : List ab_O := [(.iload_n 2, 1, [2], 0), (.aload_n 0, 1, [0], 0), (.getfield 28, 3, [2,5,0,68,0], 0), (.if_icmp .ge 30, 3, [37], 0), (.iload_n 2, 1, [2], 0), (.aload_n 0, 1, [0], 0), (.getfield 9, 3, [2,0,1,58,0], 0), (.arraylength, 1, [], 0), (.if_icmp .ge 21, 3, [37], 0), (.aload_n 0, 1, [0], 0), (.getfield 9, 3, [2,0,1,58,0], 0), (.iload_n 2, 1, [2], 0), (.iaload, 1, [], 0), (.iload_n 1, 1, [1], 0), (.if_icmp .ne 5, 3, [31], 0), (.iload_n 2, 1, [2], 0), (.ireturn, 1, [0], 0)]
def bk_Book_find_31 : List ab_O := [(.iinc 2 1, 3, [2], 1), (.goto (-32), 3, [2], 0)]
def bk_Book_find_37 : List ab_O := [(.iconst (-1), 1, [], (-1)), (.ireturn, 1, [0], 0)]
def bt_Book_find : List (Nat × List ab_O) := [(0, bk_Book_find_0), (2, bk_Book_find_2), (31, bk_Book_find_31), (37, bk_Book_find_37)]
abbrev yn_Book_startsEntry : Nat := 16
def bk_Book_startsEntry_0 : List ab_O := [(.aload_n 0, 1, [0], 0), (.iload_n 1, 1, [1], 0), (.invokevirtual 31, 3, [12,2,0,0,288,289,290,12,2], 0), (.iconst 1, 1, [], 1), (.if_icmp .eq 12, 3, [18], 0), (.aload_n 0, 1, [0], 0), (.iload_n 1, 1, [1], 0), (.invokevirtual 31, 3, [12,2,0,0,288,289,290,12,2], 0), (.iconst 2, 1, [], 2), (.if_icmp .ne 7, 3, [22], 0), (.nop, 0, [18], 0)]
def bk_Book_startsEntry_18 : List ab_O := [(.iconst 1, 1, [], 1), (.goto 4, 3, [23], 0)]
def bk_Book_startsEntry_22 : List ab_O := [(.iconst 0, 1, [], 0), (.nop, 0, [23], 0)]
def bk_Book_startsEntry_23 : List ab_O := [(.ireturn, 1, [1], 0)]
def bt_Book_startsEntry : List (Nat × List ab_O) := [(0, bk_Book_startsEntry_0), (18, bk_Book_startsEntry_18), (22, bk_Book_startsEntry_22), (23, bk_Book_startsEntry_23)]
abbrev yn_Book_countEntries : Nat := 17
def bk_Book_countEntries_0 : List ab_O := [(.iconst 0, 1, [], 0), (.istore_n 1, 1, [1], 0), (.iconst 0, 1, [], 0), (.istore_n 2, 1, [2], 0), (.nop, 0, [4], 0)]
def bk_Book_countEntries_4 : List ab_O := [(.iload_n 2, 1, [2], 0), (.iconst 2, 1, [], 2), (.aload_n 0, 1, [0], 0), (.getfield 28, 3, [2,5,0,68,0], 0), (.imul, 1, [], 0), (.if_icmp .ge 20, 3, [31], 0), (.aload_n 0, 1, [0], 0), (.iload_n 2, 1, [2], 0), (.invokevirtual 35, 3, [16,2,0,0,378,379,380,12,2], 0), (.ifCond .eq 6, 3, [25], 0), (.iinc 1 1, 3, [1], 1), (.nop, 0, [25], 0)]
def bk_Book_countEntries_25 : List ab_O := [(.iinc 2 1, 3, [2], 1), (.goto (-24), 3, [4], 0)]
def bk_Book_countEntries_31 : List ab_O := [(.iload_n 1, 1, [1], 0), (.ireturn, 1, [0], 0)]
def bt_Book_countEntries : List (Nat × List ab_O) := [(0, bk_Book_countEntries_0), (4, bk_Book_countEntries_4), (25, bk_Book_countEntries_25), (31, bk_Book_countEntries_31)]
abbrev yn_Book_countEntriesOf : Nat := 18
def bk_Book_countEntriesOf_0 : List ab_O := [(.iconst 0, 1, [], 0), (.istore_n 2, 1, [2], 0), (.iconst 0, 1, [], 0), (.istore_n 3, 1, [3], 0), (.nop, 0, [4], 0)]
def bk_Book_countEntriesOf_4 : List ab_O := [(.iload_n 3, 1, [3], 0), (.iconst 2, 1, [], 2), (.aload_n 0, 1, [0], 0), (.getfield 28, 3, [2,5,0,68,0], 0), (.imul, 1, [], 0), (.if_icmp .ge 29, 3, [40], 0), (.aload_n 0, 1, [0], 0), (.iload_n 3, 1, [3], 0), (.invokevirtual 35, 3, [16,2,0,0,378,379,380,12,2], 0), (.ifCond .eq 15, 3, [34], 0), (.aload_n 0, 1, [0], 0), (.iload_n 3, 1, [3], 0), (.invokevirtual 39, 3, [13,2,0,0,292,293,294,12,2], 0), (.iload_n 1, 1, [1], 0), (.if_icmp .ne 6, 3, [34], 0), (.iinc 2 1, 3, [2], 1), (.nop, 0, [34], 0)]
def bk_Book_countEntriesOf_34 : List ab_O := [(.iinc 3 1, 3, [3], 1), (.goto (-33), 3, [4], 0)]
def bk_Book_countEntriesOf_40 : List ab_O := [(.iload_n 2, 1, [2], 0), (.ireturn, 1, [0], 0)]
def bt_Book_countEntriesOf : List (Nat × List ab_O) := [(0, bk_Book_countEntriesOf_0), (4, bk_Book_countEntriesOf_4), (34, bk_Book_countEntriesOf_34), (40, bk_Book_countEntriesOf_40)]
abbrev yn_Book_countDedicatedTo : Nat := 19
def bk_Book_countDedicatedTo_0 : List ab_O := [(.iconst 0, 1, [], 0), (.istore_n 2, 1, [2], 0), (.iconst 0, 1, [], 0), (.istore_n 3, 1, [3], 0), (.nop, 0, [4], 0)]
def bk_Book_countDedicatedTo_4 : List ab_O := [(.iload_n 3, 1, [3], 0), (.iconst 2, 1, [], 2), (.aload_n 0, 1, [0], 0), (.getfield 28, 3, [2,5,0,68,0], 0), (.imul, 1, [], 0), (.if_icmp .ge 29, 3, [40], 0), (.aload_n 0, 1, [0], 0), (.iload_n 3, 1, [3], 0), (.invokevirtual 35, 3, [16,2,0,0,378,379,380,12,2], 0), (.ifCond .eq 15, 3, [34], 0), (.aload_n 0, 1, [0], 0), (.iload_n 3, 1, [3], 0), (.invokevirtual 42, 3, [14,2,0,0,296,297,298,12,2], 0), (.iload_n 1, 1, [1], 0), (.if_icmp .ne 6, 3, [34], 0), (.iinc 2 1, 3, [2], 1), (.nop, 0, [34], 0)]
def bk_Book_countDedicatedTo_34 : List ab_O := [(.iinc 3 1, 3, [3], 1), (.goto (-33), 3, [4], 0)]
def bk_Book_countDedicatedTo_40 : List ab_O := [(.iload_n 2, 1, [2], 0), (.ireturn, 1, [0], 0)]
def bt_Book_countDedicatedTo : List (Nat × List ab_O) := [(0, bk_Book_countDedicatedTo_0), (4, bk_Book_countDedicatedTo_4), (34, bk_Book_countDedicatedTo_34), (40, bk_Book_countDedicatedTo_40)]
abbrev yn_Book_countDedicated : Nat := 20
def bk_Book_countDedicated_0 : List ab_O := [(.aload_n 0, 1, [0], 0), (.invokevirtual 45, 3, [17,1,0,0,559,536,537,12,2], 0), (.aload_n 0, 1, [0], 0), (.iconst (-1), 1, [], (-1)), (.invokevirtual 49, 3, [19,2,0,0,560,561,562,12,2], 0), (.isub, 1, [], 0), (.ireturn, 1, [0], 0)]
def bt_Book_countDedicated : List (Nat × List ab_O) := [(0, bk_Book_countDedicated_0)]
abbrev yn_Book_nameSet : Nat := 21
def bk_Book_nameSet_0 : List ab_O := [(.aload_n 0, 1, [0], 0), (.iconst 2, 1, [], 2), (.aload_n 0, 1, [0], 0), (.getfield 28, 3, [2,5,0,68,0], 0), (.imul, 1, [], 0), (.invokevirtual 52, 3, [22,2,0,0,391,392,393,12,2], 0), (.ireturn, 1, [0], 0)]
def bt_Book_nameSet : List (Nat × List ab_O) := [(0, bk_Book_nameSet_0)]
abbrev yn_Book_namesAhead : Nat := 22
def bk_Book_namesAhead_0 : List ab_O := [(.iconst 0, 1, [], 0), (.istore_n 2, 1, [2], 0), (.iconst 0, 1, [], 0), (.istore_n 3, 1, [3], 0), (.nop, 0, [4], 0)]
def bk_Book_namesAhead_4 : List ab_O := [(.iload_n 3, 1, [3], 0), (.iload_n 1, 1, [1], 0), (.if_icmp .ge 27, 3, [33], 0), (.aload_n 0, 1, [0], 0), (.iload_n 3, 1, [3], 0), (.invokevirtual 31, 3, [12,2,0,0,288,289,290,12,2], 0), (.ifCond .eq 13, 3, [27], 0), (.iload_n 2, 1, [2], 0), (.iconst 1, 1, [], 1), (.aload_n 0, 1, [0], 0), (.iload_n 3, 1, [3], 0), (.invokevirtual 39, 3, [13,2,0,0,292,293,294,12,2], 0), (.ishl, 1, [], 0), (.ior, 1, [], 0), (.istore_n 2, 1, [2], 0), (.nop, 0, [27], 0)]
def bk_Book_namesAhead_27 : List ab_O := [(.iinc 3 1, 3, [3], 1), (.goto (-26), 3, [4], 0)]
def bk_Book_namesAhead_33 : List ab_O := [(.iload_n 2, 1, [2], 0), (.ireturn, 1, [0], 0)]
def bt_Book_namesAhead : List (Nat × List ab_O) := [(0, bk_Book_namesAhead_0), (4, bk_Book_namesAhead_4), (27, bk_Book_namesAhead_27), (33, bk_Book_namesAhead_33)]
abbrev yn_Book_valueOn : Nat := 23
def bk_Book_valueOn_0 : List ab_O := [(.aload_n 0, 1, [0], 0), (.iload_n 1, 1, [1], 0), (.invokevirtual 31, 3, [12,2,0,0,288,289,290,12,2], 0), (.iconst 3, 1, [], 3), (.if_icmp .ne 9, 3, [15], 0), (.iload_n 1, 1, [1], 0), (.iconst 1, 1, [], 1), (.isub, 1, [], 0), (.goto 4, 3, [16], 0)]
def bk_Book_valueOn_15 : List ab_O := [(.iload_n 1, 1, [1], 0), (.nop, 0, [16], 0)]
def bk_Book_valueOn_16 : List ab_O := [(.istore_n 3, 1, [3], 0), (.aload_n 0, 1, [0], 0), (.aload_n 0, 1, [0], 0), (.iload_n 3, 1, [3], 0), (.invokevirtual 52, 3, [22,2,0,0,391,392,393,12,2], 0), (.iload_n 3, 1, [3], 0), (.aload_n 2, 1, [2], 0), (.invokevirtual 55, 3, [24,4,0,0,382,383,384,12,2], 0), (.ireturn, 1, [0], 0)]
def bt_Book_valueOn : List (Nat × List ab_O) := [(0, bk_Book_valueOn_0), (15, bk_Book_valueOn_15), (16, bk_Book_valueOn_16)]
abbrev yn_Book_valueBehind : Nat := 24
def bk_Book_valueBehind_0 : List ab_O := [(.aload_n 0, 1, [0], 0), (.iload_n 2, 1, [2], 0), (.invokevirtual 31, 3, [12,2,0,0,288,289,290,12,2], 0), (.iconst 1, 1, [], 1), (.if_icmp .ne 8, 3, [14], 0), (.bipush 10, 2, [], 10), (.goto 5, 3, [16], 0)]
def bk_Book_valueBehind_14 : List ab_O := [(.bipush 15, 2, [], 15), (.nop, 0, [16], 0)]
def bk_Book_valueBehind_16 : List ab_O := [(.aload_n 3, 1, [3], 0), (.aload_n 0, 1, [0], 0), (.iload_n 2, 1, [2], 0), (.invokevirtual 39, 3, [13,2,0,0,292,293,294,12,2], 0), (.invokevirtual 59, 3, [5,2,0,0,386,257,258,11,4], 0), (.imul, 1, [], 0), (.istore 4, 2, [4], 0), (.aload_n 0, 1, [0], 0), (.iload_n 2, 1, [2], 0), (.invokevirtual 42, 3, [14,2,0,0,296,297,298,12,2], 0), (.istore 5, 2, [5], 0), (.iload 5, 2, [5], 0), (.iconst (-1), 1, [], (-1)), (.if_icmp .eq 25, 3, [63], 0), (.iload 5, 2, [5], 0), (.aload_n 0, 1, [0], 0), (.getfield 24, 3, [2,4,0,62,0], 0), (.if_icmp .ne 10, 3, [57], 0), (.iload 4, 2, [4], 0), (.iconst 2, 1, [], 2), (.imul, 1, [], 0), (.goto 7, 3, [61], 0)]
def bk_Book_valueBehind_57 : List ab_O := [(.iload 4, 2, [4], 0), (.iconst 2, 1, [], 2), (.idiv, 1, [], 0), (.nop, 0, [61], 0)]
def bk_Book_valueBehind_61 : List ab_O := [(.istore 4, 2, [4], 0), (.nop, 0, [63], 0)]
def bk_Book_valueBehind_63 : List ab_O := [(.iload_n 1, 1, [1], 0), (.iconst 1, 1, [], 1), (.aload_n 0, 1, [0], 0), (.iload_n 2, 1, [2], 0), (.invokevirtual 39, 3, [13,2,0,0,292,293,294,12,2], 0), (.ishl, 1, [], 0), (.iand, 1, [], 0), (.ifCond .eq 7, 3, [79], 0), (.iconst 1, 1, [], 1), (.goto 4, 3, [80], 0)]
def bk_Book_valueBehind_79 : List ab_O := [(.iconst 0, 1, [], 0), (.nop, 0, [80], 0)]
def bk_Book_valueBehind_80 : List ab_O := [(.istore 6, 2, [6], 0), (.iload 6, 2, [6], 0), (.ifCond .eq 10, 3, [94], 0), (.iload 4, 2, [4], 0), (.iconst 2, 1, [], 2), (.idiv, 1, [], 0), (.goto 5, 3, [96], 0)]
def bk_Book_valueBehind_94 : List ab_O := [(.iload 4, 2, [4], 0), (.nop, 0, [96], 0)]
def bk_Book_valueBehind_96 : List ab_O := [(.ireturn, 1, [0], 0)]
def bt_Book_valueBehind : List (Nat × List ab_O) := [(0, bk_Book_valueBehind_0), (14, bk_Book_valueBehind_14), (16, bk_Book_valueBehind_16), (57, bk_Book_valueBehind_57), (61, bk_Book_valueBehind_61), (63, bk_Book_valueBehind_63), (79, bk_Book_valueBehind_79), (80, bk_Book_valueBehind_80), (94, bk_Book_valueBehind_94), (96, bk_Book_valueBehind_96)]
abbrev yn_Book_sumOfValues : Nat := 25
def bk_Book_sumOfValues_0 : List ab_O := [(.iconst 0, 1, [], 0), (.istore_n 2, 1, [2], 0), (.iconst 0, 1, [], 0), (.istore_n 3, 1, [3], 0), (.iconst 0, 1, [], 0), (.istore 4, 2, [4], 0), (.nop, 0, [7], 0)]
def bk_Book_sumOfValues_7 : List ab_O := [(.iload 4, 2, [4], 0), (.iconst 2, 1, [], 2), (.aload_n 0, 1, [0], 0), (.getfield 28, 3, [2,5,0,68,0], 0), (.imul, 1, [], 0), (.if_icmp .ge 40, 3, [55], 0), (.aload_n 0, 1, [0], 0), (.iload 4, 2, [4], 0), (.invokevirtual 35, 3, [16,2,0,0,378,379,380,12,2], 0), (.ifCond .eq 25, 3, [49], 0), (.iload_n 2, 1, [2], 0), (.aload_n 0, 1, [0], 0), (.iload_n 3, 1, [3], 0), (.iload 4, 2, [4], 0), (.aload_n 1, 1, [1], 0), (.invokevirtual 55, 3, [24,4,0,0,382,383,384,12,2], 0), (.iadd, 1, [], 0), (.istore_n 2, 1, [2], 0), (.iload_n 3, 1, [3], 0), (.iconst 1, 1, [], 1), (.aload_n 0, 1, [0], 0), (.iload 4, 2, [4], 0), (.invokevirtual 39, 3, [13,2,0,0,292,293,294,12,2], 0), (.ishl, 1, [], 0), (.ior, 1, [], 0), (.istore_n 3, 1, [3], 0), (.nop, 0, [49], 0)]
def bk_Book_sumOfValues_49 : List ab_O := [(.iinc 4 1, 3, [4], 1), (.goto (-45), 3, [7], 0)]
def bk_Book_sumOfValues_55 : List ab_O := [(.iload_n 2, 1, [2], 0), (.ireturn, 1, [0], 0)]
def bt_Book_sumOfValues : List (Nat × List ab_O) := [(0, bk_Book_sumOfValues_0), (7, bk_Book_sumOfValues_7), (49, bk_Book_sumOfValues_49), (55, bk_Book_sumOfValues_55)]
abbrev yn_Book_wholeThemes : Nat := 26
def bk_Book_wholeThemes_0 : List ab_O := [(.aload_n 0, 1, [0], 0), (.iconst 2, 1, [], 2), (.aload_n 0, 1, [0], 0), (.getfield 28, 3, [2,5,0,68,0], 0), (.imul, 1, [], 0), (.invokevirtual 52, 3, [22,2,0,0,391,392,393,12,2], 0), (.istore_n 2, 1, [2], 0), (.iconst 0, 1, [], 0), (.istore_n 3, 1, [3], 0), (.iconst 0, 1, [], 0), (.istore 4, 2, [4], 0), (.nop, 0, [16], 0)]
def bk_Book_wholeThemes_16 : List ab_O := [(.iload 4, 2, [4], 0), (.iconst 4, 1, [], 4), (.if_icmp .ge 38, 3, [57], 0), (.aload_n 1, 1, [1], 0), (.iload 4, 2, [4], 0), (.invokevirtual 64, 3, [7,2,0,0,395,396,397,11,4], 0), (.istore 5, 2, [5], 0), (.iload 5, 2, [5], 0), (.ifCond .eq 19, 3, [51], 0), (.iload 5, 2, [5], 0), (.iload_n 2, 1, [2], 0), (.iconst (-1), 1, [], (-1)), (.ixor, 1, [], 0), (.iand, 1, [], 0), (.ifCond .ne 10, 3, [51], 0), (.iload_n 3, 1, [3], 0), (.iconst 1, 1, [], 1), (.iload 4, 2, [4], 0), (.ishl, 1, [], 0), (.ior, 1, [], 0), (.istore_n 3, 1, [3], 0), (.nop, 0, [51], 0)]
def bk_Book_wholeThemes_51 : List ab_O := [(.iinc 4 1, 3, [4], 1), (.goto (-38), 3, [16], 0)]
def bk_Book_wholeThemes_57 : List ab_O := [(.iload_n 3, 1, [3], 0), (.ireturn, 1, [0], 0)]
def bt_Book_wholeThemes : List (Nat × List ab_O) := [(0, bk_Book_wholeThemes_0), (16, bk_Book_wholeThemes_16), (51, bk_Book_wholeThemes_51), (57, bk_Book_wholeThemes_57)]
abbrev yn_Book_worth : Nat := 27
def bk_Book_worth_0 : List ab_O := [(.aload_n 0, 1, [0], 0), (.aload_n 1, 1, [1], 0), (.invokevirtual 67, 3, [25,2,0,0,374,375,376,12,2], 0), (.istore_n 2, 1, [2], 0), (.aload_n 0, 1, [0], 0), (.aload_n 1, 1, [1], 0), (.invokevirtual 71, 3, [26,2,0,0,387,388,389,12,2], 0), (.istore_n 3, 1, [3], 0), (.iconst 0, 1, [], 0), (.istore 4, 2, [4], 0), (.nop, 0, [15], 0)]
def bk_Book_worth_15 : List ab_O := [(.iload 4, 2, [4], 0), (.iconst 4, 1, [], 4), (.if_icmp .ge 33, 3, [51], 0), (.iload_n 3, 1, [3], 0), (.iconst 1, 1, [], 1), (.iload 4, 2, [4], 0), (.ishl, 1, [], 0), (.iand, 1, [], 0), (.ifCond .eq 18, 3, [45], 0), (.iload_n 2, 1, [2], 0), (.bipush 25, 2, [], 25), (.aload_n 1, 1, [1], 0), (.iload 4, 2, [4], 0), (.invokevirtual 64, 3, [7,2,0,0,395,396,397,11,4], 0), (.invokestatic 74, 3, [2,1,1,0,399,400,0,17], 0), (.imul, 1, [], 0), (.iadd, 1, [], 0), (.istore_n 2, 1, [2], 0), (.nop, 0, [45], 0)]
def bk_Book_worth_45 : List ab_O := [(.iinc 4 1, 3, [4], 1), (.goto (-33), 3, [15], 0)]
def bk_Book_worth_51 : List ab_O := [(.iload_n 2, 1, [2], 0), (.ireturn, 1, [0], 0)]
def bt_Book_worth : List (Nat × List ab_O) := [(0, bk_Book_worth_0), (15, bk_Book_worth_15), (45, bk_Book_worth_45), (51, bk_Book_worth_51)]
abbrev yn_Book_isJoined : Nat := 28
def bk_Book_isJoined_0 : List ab_O := [(.iconst 2, 1, [], 2), (.iload_n 1, 1, [1], 0), (.imul, 1, [], 0), (.iconst 1, 1, [], 1), (.iadd, 1, [], 0), (.istore_n 2, 1, [2], 0), (.iload_n 2, 1, [2], 0), (.ifCond .lt 26, 3, [33], 0), (.iload_n 2, 1, [2], 0), (.aload_n 0, 1, [0], 0), (.getfield 15, 3, [2,1,1,59,0], 0), (.arraylength, 1, [], 0), (.if_icmp .ge 17, 3, [33], 0), (.aload_n 0, 1, [0], 0), (.getfield 15, 3, [2,1,1,59,0], 0), (.iload_n 2, 1, [2], 0), (.iaload, 1, [], 0), (.iconst 2, 1, [], 2), (.if_icmp .ne 7, 3, [33], 0), (.iconst 1, 1, [], 1), (.goto 4, 3, [34], 0)]
def bk_Book_isJoined_33 : List ab_O := [(.iconst 0, 1, [], 0), (.nop, 0, [34], 0)]
def bk_Book_isJoined_34 : List ab_O := [(.ireturn, 1, [1], 0)]
def bt_Book_isJoined : List (Nat × List ab_O) := [(0, bk_Book_isJoined_0), (33, bk_Book_isJoined_33), (34, bk_Book_isJoined_34)]
abbrev yn_Book_startsBundle : Nat := 29
def bk_Book_startsBundle_0 : List ab_O := [(.aload_n 0, 1, [0], 0), (.iload_n 1, 1, [1], 0), (.iconst 1, 1, [], 1), (.isub, 1, [], 0), (.invokevirtual 79, 3, [28,2,0,0,421,422,423,12,2], 0), (.ifCond .ne 7, 3, [14], 0), (.iconst 1, 1, [], 1), (.goto 4, 3, [15], 0)]
def bk_Book_startsBundle_14 : List ab_O := [(.iconst 0, 1, [], 0), (.nop, 0, [15], 0)]
def bk_Book_startsBundle_15 : List ab_O := [(.ireturn, 1, [1], 0)]
def bt_Book_startsBundle : List (Nat × List ab_O) := [(0, bk_Book_startsBundle_0), (14, bk_Book_startsBundle_14), (15, bk_Book_startsBundle_15)]
abbrev yn_Book_bundleFirst : Nat := 30
def bk_Book_bundleFirst_0 : List ab_O := [(.iload_n 1, 1, [1], 0), (.istore_n 2, 1, [2], 0), (.nop, 0, [2], 0)]
def bk_Book_bundleFirst_2 : List ab_O := [(.iload_n 2, 1, [2], 0), (.ifCond .le 19, 3, [22], 0), (.aload_n 0, 1, [0], 0), (.iload_n 2, 1, [2], 0), (.iconst 1, 1, [], 1), (.isub, 1, [], 0), (.invokevirtual 79, 3, [28,2,0,0,421,422,423,12,2], 0), (.ifCond .eq 9, 3, [22], 0), (.iinc 2 (-1), 3, [2], (-1)), (.goto (-17), 3, [2], 0)]
def bk_Book_bundleFirst_22 : List ab_O := [(.iload_n 2, 1, [2], 0), (.ireturn, 1, [0], 0)]
def bt_Book_bundleFirst : List (Nat × List ab_O) := [(0, bk_Book_bundleFirst_0), (2, bk_Book_bundleFirst_2), (22, bk_Book_bundleFirst_22)]
abbrev yn_Book_bundleEnd : Nat := 31
def bk_Book_bundleEnd_0 : List ab_O := [(.iload_n 1, 1, [1], 0), (.iconst 1, 1, [], 1), (.iadd, 1, [], 0), (.istore_n 2, 1, [2], 0), (.nop, 0, [4], 0)]
def bk_Book_bundleEnd_4 : List ab_O := [(.iload_n 2, 1, [2], 0), (.aload_n 0, 1, [0], 0), (.getfield 28, 3, [2,5,0,68,0], 0), (.if_icmp .ge 19, 3, [28], 0), (.aload_n 0, 1, [0], 0), (.iload_n 2, 1, [2], 0), (.iconst 1, 1, [], 1), (.isub, 1, [], 0), (.invokevirtual 79, 3, [28,2,0,0,421,422,423,12,2], 0), (.ifCond .eq 9, 3, [28], 0), (.iinc 2 1, 3, [2], 1), (.goto (-21), 3, [4], 0)]
def bk_Book_bundleEnd_28 : List ab_O := [(.iload_n 2, 1, [2], 0), (.ireturn, 1, [0], 0)]
def bt_Book_bundleEnd : List (Nat × List ab_O) := [(0, bk_Book_bundleEnd_0), (4, bk_Book_bundleEnd_4), (28, bk_Book_bundleEnd_28)]
abbrev yn_Book_bundleSize : Nat := 32
def bk_Book_bundleSize_0 : List ab_O := [(.aload_n 0, 1, [0], 0), (.iload_n 1, 1, [1], 0), (.invokevirtual 82, 3, [31,2,0,0,417,418,419,12,2], 0), (.aload_n 0, 1, [0], 0), (.iload_n 1, 1, [1], 0), (.invokevirtual 85, 3, [30,2,0,0,425,426,427,12,2], 0), (.isub, 1, [], 0), (.ireturn, 1, [0], 0)]
def bt_Book_bundleSize : List (Nat × List ab_O) := [(0, bk_Book_bundleSize_0)]
abbrev yn_Book_countBundles : Nat := 33
def bk_Book_countBundles_0 : List ab_O := [(.iconst 0, 1, [], 0), (.istore_n 1, 1, [1], 0), (.iconst 0, 1, [], 0), (.istore_n 2, 1, [2], 0), (.nop, 0, [4], 0)]
def bk_Book_countBundles_4 : List ab_O := [(.iload_n 2, 1, [2], 0), (.aload_n 0, 1, [0], 0), (.getfield 28, 3, [2,5,0,68,0], 0), (.if_icmp .ge 20, 3, [29], 0), (.aload_n 0, 1, [0], 0), (.iload_n 2, 1, [2], 0), (.invokevirtual 88, 3, [29,2,0,0,605,606,607,12,2], 0), (.ifCond .eq 6, 3, [23], 0), (.iinc 1 1, 3, [1], 1), (.nop, 0, [23], 0)]
def bk_Book_countBundles_23 : List ab_O := [(.iinc 2 1, 3, [2], 1), (.goto (-22), 3, [4], 0)]
def bk_Book_countBundles_29 : List ab_O := [(.iload_n 1, 1, [1], 0), (.ireturn, 1, [0], 0)]
def bt_Book_countBundles : List (Nat × List ab_O) := [(0, bk_Book_countBundles_0), (4, bk_Book_countBundles_4), (23, bk_Book_countBundles_23), (29, bk_Book_countBundles_29)]
abbrev yn_Book_canShift : Nat := 34
def bk_Book_canShift_0 : List ab_O := [(.aload_n 0, 1, [0], 0), (.iload_n 1, 1, [1], 0), (.invokevirtual 91, 3, [32,2,0,0,454,414,415,12,2], 0), (.istore_n 3, 1, [3], 0), (.iload_n 2, 1, [2], 0), (.aload_n 0, 1, [0], 0), (.getfield 28, 3, [2,5,0,68,0], 0), (.iload_n 3, 1, [3], 0), (.isub, 1, [], 0), (.if_icmp .le 5, 3, [18], 0), (.iconst 0, 1, [], 0), (.ireturn, 1, [1], 0)]
def bk_Book_canShift_18 : List ab_O := [(.iload_n 2, 1, [2], 0), (.iconst 1, 1, [], 1), (.isub, 1, [], 0), (.istore 4, 2, [4], 0), (.aload_n 0, 1, [0], 0), (.iload 4, 2, [4], 0), (.aload_n 0, 1, [0], 0), (.iload_n 1, 1, [1], 0), (.invokevirtual 85, 3, [30,2,0,0,425,426,427,12,2], 0), (.if_icmp .ge 8, 3, [39], 0), (.iload 4, 2, [4], 0), (.goto 7, 3, [43], 0)]
def bk_Book_canShift_39 : List ab_O := [(.iload 4, 2, [4], 0), (.iload_n 3, 1, [3], 0), (.iadd, 1, [], 0), (.nop, 0, [43], 0)]
def bk_Book_canShift_43 : List ab_O := [(.invokevirtual 79, 3, [28,2,0,0,421,422,423,12,2], 0), (.ifCond .ne 7, 3, [53], 0), (.iconst 1, 1, [], 1), (.goto 4, 3, [54], 0)]
def bk_Book_canShift_53 : List ab_O := [(.iconst 0, 1, [], 0), (.nop, 0, [54], 0)]
def bk_Book_canShift_54 : List ab_O := [(.ireturn, 1, [1], 0)]
def bt_Book_canShift : List (Nat × List ab_O) := [(0, bk_Book_canShift_0), (18, bk_Book_canShift_18), (39, bk_Book_canShift_39), (43, bk_Book_canShift_43), (53, bk_Book_canShift_53), (54, bk_Book_canShift_54)]
abbrev yn_Book_setEntry : Nat := 35
def bk_Book_setEntry_0 : List ab_O := [(.iload_n 1, 1, [1], 0), (.ifCond .lt 52, 3, [53], 0), (.iload_n 1, 1, [1], 0), (.aload_n 0, 1, [0], 0), (.getfield 15, 3, [2,1,1,59,0], 0), (.arraylength, 1, [], 0), (.if_icmp .ge 43, 3, [53], 0), (.iload_n 1, 1, [1], 0), (.aload_n 0, 1, [0], 0), (.getfield 18, 3, [2,2,1,60,0], 0), (.arraylength, 1, [], 0), (.if_icmp .ge 34, 3, [53], 0), (.iload_n 1, 1, [1], 0), (.aload_n 0, 1, [0], 0), (.getfield 21, 3, [2,3,1,61,0], 0), (.arraylength, 1, [], 0), (.if_icmp .ge 25, 3, [53], 0), (.aload_n 0, 1, [0], 0), (.getfield 15, 3, [2,1,1,59,0], 0), (.iload_n 1, 1, [1], 0), (.iload_n 2, 1, [2], 0), (.iastore, 1, [], 0), (.aload_n 0, 1, [0], 0), (.getfield 18, 3, [2,2,1,60,0], 0), (.iload_n 1, 1, [1], 0), (.iload_n 3, 1, [3], 0), (.iastore, 1, [], 0), (.aload_n 0, 1, [0], 0), (.getfield 21, 3, [2,3,1,61,0], 0), (.iload_n 1, 1, [1], 0), (.iload 4, 2, [4], 0), (.iastore, 1, [], 0), (.nop, 0, [53], 0)]
def bk_Book_setEntry_53 : List ab_O := [(.return_, 1, [], 0)]
def bt_Book_setEntry : List (Nat × List ab_O) := [(0, bk_Book_setEntry_0), (53, bk_Book_setEntry_53)]
abbrev yn_Book_setFriend : Nat := 36
def bk_Book_setFriend_0 : List ab_O := [(.aload_n 0, 1, [0], 0), (.iload_n 1, 1, [1], 0), (.aload_n 0, 1, [0], 0), (.iload_n 1, 1, [1], 0), (.invokevirtual 31, 3, [12,2,0,0,288,289,290,12,2], 0), (.aload_n 0, 1, [0], 0), (.iload_n 1, 1, [1], 0), (.invokevirtual 39, 3, [13,2,0,0,292,293,294,12,2], 0), (.iload_n 2, 1, [2], 0), (.invokevirtual 94, 3, [35,5,0,0,300,301,302,12,2], 0), (.return_, 1, [], 0)]
def bt_Book_setFriend : List (Nat × List ab_O) := [(0, bk_Book_setFriend_0)]
abbrev yn_Book_addLeaf : Nat := 37
def bk_Book_addLeaf_0 : List ab_O := [(.aload_n 0, 1, [0], 0), (.getfield 28, 3, [2,5,0,68,0], 0), (.ifCond .lt 63, 3, [67], 0), (.aload_n 0, 1, [0], 0), (.getfield 28, 3, [2,5,0,68,0], 0), (.aload_n 0, 1, [0], 0), (.getfield 9, 3, [2,0,1,58,0], 0), (.arraylength, 1, [], 0), (.if_icmp .ge 51, 3, [67], 0), (.aload_n 0, 1, [0], 0), (.getfield 9, 3, [2,0,1,58,0], 0), (.aload_n 0, 1, [0], 0), (.getfield 28, 3, [2,5,0,68,0], 0), (.iload_n 1, 1, [1], 0), (.iastore, 1, [], 0), (.aload_n 0, 1, [0], 0), (.iconst 2, 1, [], 2), (.aload_n 0, 1, [0], 0), (.getfield 28, 3, [2,5,0,68,0], 0), (.imul, 1, [], 0), (.iconst 0, 1, [], 0), (.iconst 0, 1, [], 0), (.iconst (-1), 1, [], (-1)), (.invokevirtual 94, 3, [35,5,0,0,300,301,302,12,2], 0), (.aload_n 0, 1, [0], 0), (.iconst 2, 1, [], 2), (.aload_n 0, 1, [0], 0), (.getfield 28, 3, [2,5,0,68,0], 0), (.imul, 1, [], 0), (.iconst 1, 1, [], 1), (.iadd, 1, [], 0), (.iconst 0, 1, [], 0), (.iconst 0, 1, [], 0), (.iconst (-1), 1, [], (-1)), (.invokevirtual 94, 3, [35,5,0,0,300,301,302,12,2], 0), (.aload_n 0, 1, [0], 0), (.dup, 1, [], 0), (.getfield 28, 3, [2,5,0,68,0], 0), (.iconst 1, 1, [], 1), (.iadd, 1, [], 0), (.putfield 28, 3, [2,5,0,68,0,0], 0), (.nop, 0, [67], 0)]
def bk_Book_addLeaf_67 : List ab_O := [(.return_, 1, [], 0)]
def bt_Book_addLeaf : List (Nat × List ab_O) := [(0, bk_Book_addLeaf_0), (67, bk_Book_addLeaf_67)]
abbrev yn_Book_addLeaves : Nat := 38
def bk_Book_addLeaves_0 : List ab_O := [(.iload_n 2, 1, [2], 0), (.istore 4, 2, [4], 0), (.nop, 0, [3], 0)]
def bk_Book_addLeaves_3 : List ab_O := [(.iload 4, 2, [4], 0), (.iload_n 3, 1, [3], 0), (.if_icmp .ge 123, 3, [129], 0), (.aload_n 0, 1, [0], 0), (.getfield 28, 3, [2,5,0,68,0], 0), (.ifCond .lt 116, 3, [129], 0), (.aload_n 0, 1, [0], 0), (.getfield 28, 3, [2,5,0,68,0], 0), (.aload_n 0, 1, [0], 0), (.getfield 9, 3, [2,0,1,58,0], 0), (.arraylength, 1, [], 0), (.if_icmp .ge 104, 3, [129], 0), (.iconst 2, 1, [], 2), (.iload 4, 2, [4], 0), (.imul, 1, [], 0), (.istore 5, 2, [5], 0), (.iload 5, 2, [5], 0), (.iconst 1, 1, [], 1), (.iadd, 1, [], 0), (.istore 6, 2, [6], 0), (.aload_n 0, 1, [0], 0), (.getfield 9, 3, [2,0,1,58,0], 0), (.aload_n 0, 1, [0], 0), (.getfield 28, 3, [2,5,0,68,0], 0), (.aload_n 1, 1, [1], 0), (.iload 4, 2, [4], 0), (.invokevirtual 98, 3, [11,2,0,0,284,285,286,12,2], 0), (.iastore, 1, [], 0), (.aload_n 0, 1, [0], 0), (.iconst 2, 1, [], 2), (.aload_n 0, 1, [0], 0), (.getfield 28, 3, [2,5,0,68,0], 0), (.imul, 1, [], 0), (.aload_n 1, 1, [1], 0), (.iload 5, 2, [5], 0), (.invokevirtual 31, 3, [12,2,0,0,288,289,290,12,2], 0), (.aload_n 1, 1, [1], 0), (.iload 5, 2, [5], 0), (.invokevirtual 39, 3, [13,2,0,0,292,293,294,12,2], 0), (.aload_n 1, 1, [1], 0), (.iload 5, 2, [5], 0), (.invokevirtual 42, 3, [14,2,0,0,296,297,298,12,2], 0), (.invokevirtual 94, 3, [35,5,0,0,300,301,302,12,2], 0), (.aload_n 0, 1, [0], 0), (.iconst 2, 1, [], 2), (.aload_n 0, 1, [0], 0), (.getfield 28, 3, [2,5,0,68,0], 0), (.imul, 1, [], 0), (.iconst 1, 1, [], 1), (.iadd, 1, [], 0), (.aload_n 1, 1, [1], 0), (.iload 6, 2, [6], 0), (.invokevirtual 31, 3, [12,2,0,0,288,289,290,12,2], 0), (.aload_n 1, 1, [1], 0), (.iload 6, 2, [6], 0), (.invokevirtual 39, 3, [13,2,0,0,292,293,294,12,2], 0), (.aload_n 1, 1, [1], 0), (.iload 6, 2, [6], 0), (.invokevirtual 42, 3, [14,2,0,0,296,297,298,12,2], 0), (.invokevirtual 94, 3, [35,5,0,0,300,301,302,12,2], 0), (.aload_n 0, 1, [0], 0), (.dup, 1, [], 0), (.getfield 28, 3, [2,5,0,68,0], 0), (.iconst 1, 1, [], 1), (.iadd, 1, [], 0), (.putfield 28, 3, [2,5,0,68,0,0], 0), (.iinc 4 1, 3, [4], 1), (.goto (-123), 3, [3], 0)]
def bk_Book_addLeaves_129 : List ab_O := [(.return_, 1, [], 0)]
def bt_Book_addLeaves : List (Nat × List ab_O) := [(0, bk_Book_addLeaves_0), (3, bk_Book_addLeaves_3), (129, bk_Book_addLeaves_129)]
abbrev yn_Book_clearFor : Nat := 39
def bk_Book_clearFor_0 : List ab_O := [(.aload_n 0, 1, [0], 0), (.iload_n 1, 1, [1], 0), (.putfield 24, 3, [2,4,0,62,0,0], 0), (.aload_n 0, 1, [0], 0), (.iconst 0, 1, [], 0), (.putfield 28, 3, [2,5,0,68,0,0], 0), (.return_, 1, [], 0)]
def bt_Book_clearFor : List (Nat × List ab_O) := [(0, bk_Book_clearFor_0)]
abbrev yn_Book_copyFrom : Nat := 40
def bk_Book_copyFrom_0 : List ab_O := [(.aload_n 0, 1, [0], 0), (.aload_n 1, 1, [1], 0), (.getfield 24, 3, [2,4,0,62,0], 0), (.invokevirtual 101, 3, [39,2,0,0,276,277,278,12,2], 0), (.aload_n 0, 1, [0], 0), (.aload_n 1, 1, [1], 0), (.iconst 0, 1, [], 0), (.aload_n 1, 1, [1], 0), (.getfield 28, 3, [2,5,0,68,0], 0), (.invokevirtual 105, 3, [38,4,0,0,280,281,282,12,2], 0), (.return_, 1, [], 0)]
def bt_Book_copyFrom : List (Nat × List ab_O) := [(0, bk_Book_copyFrom_0)]
abbrev yn_Bench_init : Nat := 41
def bk_Bench_init_0 : List ab_O := [(.aload_n 0, 1, [0], 0), (.invokespecial 3, 3, [999,1,3,0,182,25,26], 0), (.aload_n 0, 1, [0], 0), (.new 9, 3, [2,183,53,12], 0), (.dup, 1, [], 0), (.iconst 0, 1, [], 0), (.invokespecial 11, 3, [10,2,2,0,184,55,0,12], 0), (.putfield 14, 3, [0,0,1,185,0,1], 0), (.aload_n 0, 1, [0], 0), (.new 9, 3, [2,183,53,12], 0), (.dup, 1, [], 0), (.iconst 0, 1, [], 0), (.invokespecial 11, 3, [10,2,2,0,184,55,0,12], 0), (.putfield 20, 3, [0,1,1,186,0,1], 0), (.aload_n 0, 1, [0], 0), (.aload_n 0, 1, [0], 0), (.getfield 14, 3, [0,0,1,185,0], 0), (.putfield 23, 3, [0,2,1,187,0,0], 0), (.aload_n 0, 1, [0], 0), (.aload_n 0, 1, [0], 0), (.getfield 20, 3, [0,1,1,186,0], 0), (.putfield 26, 3, [0,3,1,188,0,0], 0), (.return_, 1, [], 0)]
def bt_Bench_init : List (Nat × List ab_O) := [(0, bk_Bench_init_0)]
abbrev yn_Bench_takeOut : Nat := 42
def bk_Bench_takeOut_0 : List ab_O := [(.aload_n 0, 1, [0], 0), (.getfield 14, 3, [0,0,1,185,0], 0), (.aload_n 1, 1, [1], 0), (.getfield 29, 3, [2,4,0,63,1], 0), (.invokevirtual 33, 3, [39,2,0,0,460,277,278,12,2], 0), (.aload_n 0, 1, [0], 0), (.getfield 14, 3, [0,0,1,185,0], 0), (.aload_n 1, 1, [1], 0), (.iconst 0, 1, [], 0), (.aload_n 1, 1, [1], 0), (.iload_n 2, 1, [2], 0), (.invokevirtual 36, 3, [30,2,0,0,461,426,427,12,2], 0), (.invokevirtual 40, 3, [38,4,0,0,463,281,282,12,2], 0), (.aload_n 0, 1, [0], 0), (.getfield 14, 3, [0,0,1,185,0], 0), (.aload_n 1, 1, [1], 0), (.aload_n 1, 1, [1], 0), (.iload_n 2, 1, [2], 0), (.invokevirtual 44, 3, [31,2,0,0,462,418,419,12,2], 0), (.aload_n 1, 1, [1], 0), (.getfield 47, 3, [2,5,0,67,1], 0), (.invokevirtual 40, 3, [38,4,0,0,463,281,282,12,2], 0), (.aload_n 1, 1, [1], 0), (.aload_n 0, 1, [0], 0), (.getfield 14, 3, [0,0,1,185,0], 0), (.invokevirtual 50, 3, [40,2,0,0,468,273,274,12,2], 0), (.return_, 1, [], 0)]
def bt_Bench_takeOut : List (Nat × List ab_O) := [(0, bk_Bench_takeOut_0)]
abbrev yn_Bench_shift : Nat := 43
def bk_Bench_shift_0 : List ab_O := [(.aload_n 0, 1, [0], 0), (.getfield 20, 3, [0,1,1,186,0], 0), (.aload_n 1, 1, [1], 0), (.getfield 29, 3, [2,4,0,63,1], 0), (.invokevirtual 33, 3, [39,2,0,0,460,277,278,12,2], 0), (.aload_n 0, 1, [0], 0), (.getfield 20, 3, [0,1,1,186,0], 0), (.aload_n 1, 1, [1], 0), (.aload_n 1, 1, [1], 0), (.iload_n 2, 1, [2], 0), (.invokevirtual 36, 3, [30,2,0,0,461,426,427,12,2], 0), (.aload_n 1, 1, [1], 0), (.iload_n 2, 1, [2], 0), (.invokevirtual 44, 3, [31,2,0,0,462,418,419,12,2], 0), (.invokevirtual 40, 3, [38,4,0,0,463,281,282,12,2], 0), (.aload_n 0, 1, [0], 0), (.aload_n 1, 1, [1], 0), (.iload_n 2, 1, [2], 0), (.invokevirtual 54, 3, [42,3,0,0,464,465,466,15,0], 0), (.aload_n 0, 1, [0], 0), (.getfield 14, 3, [0,0,1,185,0], 0), (.aload_n 1, 1, [1], 0), (.getfield 29, 3, [2,4,0,63,1], 0), (.invokevirtual 33, 3, [39,2,0,0,460,277,278,12,2], 0), (.aload_n 0, 1, [0], 0), (.getfield 14, 3, [0,0,1,185,0], 0), (.aload_n 1, 1, [1], 0), (.iconst 0, 1, [], 0), (.iload_n 3, 1, [3], 0), (.invokevirtual 40, 3, [38,4,0,0,463,281,282,12,2], 0), (.aload_n 0, 1, [0], 0), (.getfield 14, 3, [0,0,1,185,0], 0), (.aload_n 0, 1, [0], 0), (.getfield 20, 3, [0,1,1,186,0], 0), (.iconst 0, 1, [], 0), (.aload_n 0, 1, [0], 0), (.getfield 20, 3, [0,1,1,186,0], 0), (.getfield 47, 3, [2,5,0,67,1], 0), (.invokevirtual 40, 3, [38,4,0,0,463,281,282,12,2], 0), (.aload_n 0, 1, [0], 0), (.getfield 14, 3, [0,0,1,185,0], 0), (.aload_n 1, 1, [1], 0), (.iload_n 3, 1, [3], 0), (.aload_n 1, 1, [1], 0), (.getfield 47, 3, [2,5,0,67,1], 0), (.invokevirtual 40, 3, [38,4,0,0,463,281,282,12,2], 0), (.aload_n 1, 1, [1], 0), (.aload_n 0, 1, [0], 0), (.getfield 14, 3, [0,0,1,185,0], 0), (.invokevirtual 50, 3, [40,2,0,0,468,273,274,12,2], 0), (.return_, 1, [], 0)]
def bt_Bench_shift : List (Nat × List ab_O) := [(0, bk_Bench_shift_0)]
abbrev yn_Bench_layOut : Nat := 44
def bk_Bench_layOut_0 : List ab_O := [(.aload_n 0, 1, [0], 0), (.aload_n 1, 1, [1], 0), (.putfield 23, 3, [0,2,1,187,0,0], 0), (.aload_n 0, 1, [0], 0), (.aload_n 3, 1, [3], 0), (.putfield 26, 3, [0,3,1,188,0,0], 0), (.aload_n 0, 1, [0], 0), (.aload_n 0, 1, [0], 0), (.getfield 14, 3, [0,0,1,185,0], 0), (.aload_n 1, 1, [1], 0), (.iload_n 2, 1, [2], 0), (.aload_n 3, 1, [3], 0), (.iload 4, 2, [4], 0), (.invokevirtual 58, 3, [45,6,0,0,484,486,0,15,0], 0), (.aload_n 0, 1, [0], 0), (.aload_n 0, 1, [0], 0), (.getfield 20, 3, [0,1,1,186,0], 0), (.aload_n 3, 1, [3], 0), (.iload 4, 2, [4], 0), (.aload_n 1, 1, [1], 0), (.iload_n 2, 1, [2], 0), (.invokevirtual 58, 3, [45,6,0,0,484,486,0,15,0], 0), (.aload_n 0, 1, [0], 0), (.aload_n 1, 1, [1], 0), (.iload_n 2, 1, [2], 0), (.invokevirtual 62, 3, [32,2,0,0,488,414,415,12,2], 0), (.aload_n 3, 1, [3], 0), (.iload 4, 2, [4], 0), (.invokevirtual 62, 3, [32,2,0,0,488,414,415,12,2], 0), (.iadd, 1, [], 0), (.putfield 65, 3, [0,4,0,189,0,0], 0), (.return_, 1, [], 0)]
def bt_Bench_layOut : List (Nat × List ab_O) := [(0, bk_Bench_layOut_0)]
abbrev yn_Bench_layOutFor : Nat := 45
def bk_Bench_layOutFor_0 : List ab_O := [(.aload_n 1, 1, [1], 0), (.aload_n 2, 1, [2], 0), (.getfield 29, 3, [2,4,0,63,1], 0), (.invokevirtual 33, 3, [39,2,0,0,460,277,278,12,2], 0), (.aload_n 1, 1, [1], 0), (.aload_n 2, 1, [2], 0), (.iconst 0, 1, [], 0), (.aload_n 2, 1, [2], 0), (.iload_n 3, 1, [3], 0), (.invokevirtual 36, 3, [30,2,0,0,461,426,427,12,2], 0), (.invokevirtual 40, 3, [38,4,0,0,463,281,282,12,2], 0), (.aload_n 1, 1, [1], 0), (.aload 4, 2, [4], 0), (.aload 4, 2, [4], 0), (.iload 5, 2, [5], 0), (.invokevirtual 36, 3, [30,2,0,0,461,426,427,12,2], 0), (.aload 4, 2, [4], 0), (.iload 5, 2, [5], 0), (.invokevirtual 44, 3, [31,2,0,0,462,418,419,12,2], 0), (.invokevirtual 40, 3, [38,4,0,0,463,281,282,12,2], 0), (.aload_n 1, 1, [1], 0), (.aload_n 2, 1, [2], 0), (.aload_n 2, 1, [2], 0), (.iload_n 3, 1, [3], 0), (.invokevirtual 44, 3, [31,2,0,0,462,418,419,12,2], 0), (.aload_n 2, 1, [2], 0), (.getfield 47, 3, [2,5,0,67,1], 0), (.invokevirtual 40, 3, [38,4,0,0,463,281,282,12,2], 0), (.return_, 1, [], 0)]
def bt_Bench_layOutFor : List (Nat × List ab_O) := [(0, bk_Bench_layOutFor_0)]
abbrev yn_Bench_fits : Nat := 46
def bk_Bench_fits_0 : List ab_O := [(.aload_n 0, 1, [0], 0), (.getfield 14, 3, [0,0,1,185,0], 0), (.getfield 47, 3, [2,5,0,67,1], 0), (.bipush 8, 2, [], 8), (.if_icmp .gt 19, 3, [28], 0), (.aload_n 0, 1, [0], 0), (.getfield 20, 3, [0,1,1,186,0], 0), (.getfield 47, 3, [2,5,0,67,1], 0), (.bipush 8, 2, [], 8), (.if_icmp .gt 7, 3, [28], 0), (.iconst 1, 1, [], 1), (.goto 4, 3, [29], 0)]
def bk_Bench_fits_28 : List ab_O := [(.iconst 0, 1, [], 0), (.nop, 0, [29], 0)]
def bk_Bench_fits_29 : List ab_O := [(.ireturn, 1, [1], 0)]
def bt_Bench_fits : List (Nat × List ab_O) := [(0, bk_Bench_fits_0), (28, bk_Bench_fits_28), (29, bk_Bench_fits_29)]
abbrev yn_Bench_gainOfOne : Nat := 47
def bk_Bench_gainOfOne_0 : List ab_O := [(.aload_n 0, 1, [0], 0), (.getfield 14, 3, [0,0,1,185,0], 0), (.aload_n 1, 1, [1], 0), (.invokevirtual 68, 3, [27,2,0,0,666,371,372,12,2], 0), (.aload_n 0, 1, [0], 0), (.getfield 23, 3, [0,2,1,187,0], 0), (.aload_n 1, 1, [1], 0), (.invokevirtual 68, 3, [27,2,0,0,666,371,372,12,2], 0), (.isub, 1, [], 0), (.ireturn, 1, [0], 0)]
def bt_Bench_gainOfOne : List (Nat × List ab_O) := [(0, bk_Bench_gainOfOne_0)]
abbrev yn_Bench_gainOfOther : Nat := 48
def bk_Bench_gainOfOther_0 : List ab_O := [(.aload_n 0, 1, [0], 0), (.getfield 20, 3, [0,1,1,186,0], 0), (.aload_n 1, 1, [1], 0), (.invokevirtual 68, 3, [27,2,0,0,666,371,372,12,2], 0), (.aload_n 0, 1, [0], 0), (.getfield 26, 3, [0,3,1,188,0], 0), (.aload_n 1, 1, [1], 0), (.invokevirtual 68, 3, [27,2,0,0,666,371,372,12,2], 0), (.isub, 1, [], 0), (.ireturn, 1, [0], 0)]
def bt_Bench_gainOfOther : List (Nat × List ab_O) := [(0, bk_Bench_gainOfOther_0)]
abbrev yn_Bench_settle : Nat := 49
def bk_Bench_settle_0 : List ab_O := [(.aload_n 0, 1, [0], 0), (.getfield 23, 3, [0,2,1,187,0], 0), (.aload_n 0, 1, [0], 0), (.getfield 14, 3, [0,0,1,185,0], 0), (.invokevirtual 50, 3, [40,2,0,0,468,273,274,12,2], 0), (.aload_n 0, 1, [0], 0), (.getfield 26, 3, [0,3,1,188,0], 0), (.aload_n 0, 1, [0], 0), (.getfield 20, 3, [0,1,1,186,0], 0), (.invokevirtual 50, 3, [40,2,0,0,468,273,274,12,2], 0), (.return_, 1, [], 0)]
def bt_Bench_settle : List (Nat × List ab_O) := [(0, bk_Bench_settle_0)]
abbrev yn_State_init : Nat := 50
def bk_State_init_0 : List ab_O := [(.aload_n 0, 1, [0], 0), (.invokespecial 3, 3, [999,1,3,0,32,25,26], 0), (.aload_n 0, 1, [0], 0), (.new 9, 3, [4,33,34,11], 0), (.dup, 1, [], 0), (.invokespecial 11, 3, [3,1,2,1,35,36,0,11], 0), (.putfield 12, 3, [6,0,1,84,0,1], 0), (.aload_n 0, 1, [0], 0), (.new 18, 3, [2,52,53,12], 0), (.dup, 1, [], 0), (.iconst 0, 1, [], 0), (.invokespecial 20, 3, [10,2,2,0,54,55,0,12], 0), (.putfield 23, 3, [6,1,1,87,0,1], 0), (.aload_n 0, 1, [0], 0), (.new 18, 3, [2,52,53,12], 0), (.dup, 1, [], 0), (.iconst 1, 1, [], 1), (.invokespecial 20, 3, [10,2,2,0,54,55,0,12], 0), (.putfield 27, 3, [6,2,1,88,0,1], 0), (.aload_n 0, 1, [0], 0), (.new 18, 3, [2,52,53,12], 0), (.dup, 1, [], 0), (.iconst 2, 1, [], 2), (.invokespecial 20, 3, [10,2,2,0,54,55,0,12], 0), (.putfield 30, 3, [6,3,1,89,0,1], 0), (.aload_n 0, 1, [0], 0), (.new 18, 3, [2,52,53,12], 0), (.dup, 1, [], 0), (.iconst 3, 1, [], 3), (.invokespecial 20, 3, [10,2,2,0,54,55,0,12], 0), (.putfield 33, 3, [6,4,1,90,0,1], 0), (.aload_n 0, 1, [0], 0), (.iconst 4, 1, [], 4), (.newarray .int, 2, [51], 0), (.dup, 1, [], 0), (.iconst 0, 1, [], 0), (.bipush 100, 2, [], 100), (.iastore, 1, [], 0), (.dup, 1, [], 0), (.iconst 1, 1, [], 1), (.bipush 100, 2, [], 100), (.iastore, 1, [], 0), (.dup, 1, [], 0), (.iconst 2, 1, [], 2), (.bipush 100, 2, [], 100), (.iastore, 1, [], 0), (.dup, 1, [], 0), (.iconst 3, 1, [], 3), (.bipush 100, 2, [], 100), (.iastore, 1, [], 0), (.putfield 36, 3, [6,5,1,91,0,1], 0), (.return_, 1, [], 0)]
def bt_State_init : List (Nat × List ab_O) := [(0, bk_State_init_0)]
abbrev yn_State_copyFrom : Nat := 51
def bk_State_copyFrom_0 : List ab_O := [(.aload_n 0, 1, [0], 0), (.getfield 12, 3, [6,0,1,84,0], 0), (.aload_n 1, 1, [1], 0), (.getfield 12, 3, [6,0,1,84,0], 0), (.invokevirtual 40, 3, [9,2,0,0,252,253,254,11,4], 0), (.iconst 0, 1, [], 0), (.istore_n 2, 1, [2], 0), (.nop, 0, [13], 0)]
def bk_State_copyFrom_13 : List ab_O := [(.iload_n 2, 1, [2], 0), (.iconst 4, 1, [], 4), (.if_icmp .ge 32, 3, [47], 0), (.aload_n 0, 1, [0], 0), (.iload_n 2, 1, [2], 0), (.invokevirtual 44, 3, [52,2,0,0,268,269,270,10,6], 0), (.aload_n 1, 1, [1], 0), (.iload_n 2, 1, [2], 0), (.invokevirtual 44, 3, [52,2,0,0,268,269,270,10,6], 0), (.invokevirtual 48, 3, [40,2,0,0,272,273,274,12,2], 0), (.aload_n 0, 1, [0], 0), (.iload_n 2, 1, [2], 0), (.aload_n 1, 1, [1], 0), (.iload_n 2, 1, [2], 0), (.invokevirtual 51, 3, [54,2,0,0,304,305,306,10,6], 0), (.invokevirtual 55, 3, [55,3,0,0,308,309,310,10,6], 0), (.iinc 2 1, 3, [2], 1), (.goto (-31), 3, [13], 0)]
def bk_State_copyFrom_47 : List ab_O := [(.aload_n 0, 1, [0], 0), (.aload_n 1, 1, [1], 0), (.getfield 59, 3, [6,6,0,92,0], 0), (.putfield 59, 3, [6,6,0,92,0,0], 0), (.aload_n 0, 1, [0], 0), (.aload_n 1, 1, [1], 0), (.getfield 63, 3, [6,7,0,94,0], 0), (.putfield 63, 3, [6,7,0,94,0,0], 0), (.return_, 1, [], 0)]
def bt_State_copyFrom : List (Nat × List ab_O) := [(0, bk_State_copyFrom_0), (13, bk_State_copyFrom_13), (47, bk_State_copyFrom_47)]
abbrev yn_State_bookOf : Nat := 52
def bk_State_bookOf_0 : List ab_O := [(.iload_n 1, 1, [1], 0), (.tableswitch 42 0 2 #[27, 32, 37], 27, [43,28,33,38], 0)]
def bk_State_bookOf_28 : List ab_O := [(.aload_n 0, 1, [0], 0), (.getfield 23, 3, [6,1,1,87,0], 0), (.areturn, 1, [], 0)]
def bk_State_bookOf_33 : List ab_O := [(.aload_n 0, 1, [0], 0), (.getfield 27, 3, [6,2,1,88,0], 0), (.areturn, 1, [], 0)]
def bk_State_bookOf_38 : List ab_O := [(.aload_n 0, 1, [0], 0), (.getfield 30, 3, [6,3,1,89,0], 0), (.areturn, 1, [], 0)]
def bk_State_bookOf_43 : List ab_O := [(.aload_n 0, 1, [0], 0), (.getfield 33, 3, [6,4,1,90,0], 0), (.areturn, 1, [], 0)]
def bt_State_bookOf : List (Nat × List ab_O) := [(0, bk_State_bookOf_0), (28, bk_State_bookOf_28), (33, bk_State_bookOf_33), (38, bk_State_bookOf_38), (43, bk_State_bookOf_43)]
abbrev yn_State_bookWith : Nat := 53
def bk_State_bookWith_0 : List ab_O := [(.iconst 0, 1, [], 0), (.istore_n 2, 1, [2], 0), (.nop, 0, [2], 0)]
def bk_State_bookWith_2 : List ab_O := [(.iload_n 2, 1, [2], 0), (.iconst 4, 1, [], 4), (.if_icmp .ge 28, 3, [32], 0), (.aload_n 0, 1, [0], 0), (.iload_n 2, 1, [2], 0), (.invokevirtual 44, 3, [52,2,0,0,268,269,270,10,6], 0), (.iload_n 1, 1, [1], 0), (.invokevirtual 66, 3, [15,2,0,0,356,357,358,12,2], 0), (.iconst (-1), 1, [], (-1)), (.if_icmp .eq 9, 3, [26], 0), (.aload_n 0, 1, [0], 0), (.iload_n 2, 1, [2], 0), (.invokevirtual 44, 3, [52,2,0,0,268,269,270,10,6], 0), (.areturn, 1, [], 0)]
def bk_State_bookWith_26 : List ab_O := [(.iinc 2 1, 3, [2], 1), (.goto (-27), 3, [2], 0)]
def bk_State_bookWith_32 : List ab_O := [(.aconst_null, 1, [], 0), (.areturn, 1, [], 0)]
def bt_State_bookWith : List (Nat × List ab_O) := [(0, bk_State_bookWith_0), (2, bk_State_bookWith_2), (26, bk_State_bookWith_26), (32, bk_State_bookWith_32)]
abbrev yn_State_purseOf : Nat := 54
def bk_State_purseOf_0 : List ab_O := [(.iload_n 1, 1, [1], 0), (.ifCond .lt 21, 3, [22], 0), (.iload_n 1, 1, [1], 0), (.aload_n 0, 1, [0], 0), (.getfield 36, 3, [6,5,1,91,0], 0), (.arraylength, 1, [], 0), (.if_icmp .ge 12, 3, [22], 0), (.aload_n 0, 1, [0], 0), (.getfield 36, 3, [6,5,1,91,0], 0), (.iload_n 1, 1, [1], 0), (.iaload, 1, [], 0), (.goto 4, 3, [23], 0)]
def bk_State_purseOf_22 : List ab_O := [(.iconst 0, 1, [], 0), (.nop, 0, [23], 0)]
def bk_State_purseOf_23 : List ab_O := [(.ireturn, 1, [0], 0)]
def bt_State_purseOf : List (Nat × List ab_O) := [(0, bk_State_purseOf_0), (22, bk_State_purseOf_22), (23, bk_State_purseOf_23)]
abbrev yn_State_setPurse : Nat := 55
def bk_State_setPurse_0 : List ab_O := [(.iload_n 1, 1, [1], 0), (.ifCond .lt 19, 3, [20], 0), (.iload_n 1, 1, [1], 0), (.aload_n 0, 1, [0], 0), (.getfield 36, 3, [6,5,1,91,0], 0), (.arraylength, 1, [], 0), (.if_icmp .ge 10, 3, [20], 0), (.aload_n 0, 1, [0], 0), (.getfield 36, 3, [6,5,1,91,0], 0), (.iload_n 1, 1, [1], 0), (.iload_n 2, 1, [2], 0), (.iastore, 1, [], 0), (.nop, 0, [20], 0)]
def bk_State_setPurse_20 : List ab_O := [(.return_, 1, [], 0)]
def bt_State_setPurse : List (Nat × List ab_O) := [(0, bk_State_setPurse_0), (20, bk_State_setPurse_20)]
abbrev yn_State_addName : Nat := 56
def bk_State_addName_0 : List ab_O := [(.iload_n 1, 1, [1], 0), (.iconst 1, 1, [], 1), (.if_icmp .lt 16, 3, [18], 0), (.iload_n 1, 1, [1], 0), (.bipush 50, 2, [], 50), (.if_icmp .gt 10, 3, [18], 0), (.iload_n 2, 1, [2], 0), (.invokestatic 69, 3, [118,1,1,1,316,317,0,9], 0), (.ifCond .ne 6, 3, [21], 0), (.nop, 0, [18], 0)]
def bk_State_addName_18 : List ab_O := [(.ldc 73, 2, [319], (-1000001)), (.ireturn, 1, [0], 0)]
def bk_State_addName_21 : List ab_O := [(.aload_n 0, 1, [0], 0), (.getfield 12, 3, [6,0,1,84,0], 0), (.getfield 74, 3, [4,2,0,42,1], 0), (.bipush 16, 2, [], 16), (.if_icmp .lt 6, 3, [36], 0), (.ldc 77, 2, [320], (-1000003)), (.ireturn, 1, [0], 0)]
def bk_State_addName_36 : List ab_O := [(.aload_n 0, 1, [0], 0), (.getfield 12, 3, [6,0,1,84,0], 0), (.iload_n 1, 1, [1], 0), (.iload_n 2, 1, [2], 0), (.invokevirtual 78, 3, [8,3,0,0,321,265,266,11,4], 0), (.aload_n 0, 1, [0], 0), (.getfield 12, 3, [6,0,1,84,0], 0), (.getfield 74, 3, [4,2,0,42,1], 0), (.iconst 1, 1, [], 1), (.isub, 1, [], 0), (.ireturn, 1, [0], 0)]
def bt_State_addName : List (Nat × List ab_O) := [(0, bk_State_addName_0), (18, bk_State_addName_18), (21, bk_State_addName_21), (36, bk_State_addName_36)]
abbrev yn_State_addLeaf : Nat := 57
def bk_State_addLeaf_0 : List ab_O := [(.iload_n 1, 1, [1], 0), (.invokestatic 81, 3, [117,1,1,1,337,338,0,9], 0), (.ifCond .ne 6, 3, [10], 0), (.ldc 73, 2, [319], (-1000001)), (.ireturn, 1, [0], 0)]
def bk_State_addLeaf_10 : List ab_O := [(.aload_n 0, 1, [0], 0), (.iload_n 1, 1, [1], 0), (.invokevirtual 44, 3, [52,2,0,0,268,269,270,10,6], 0), (.astore_n 2, 1, [2], 0), (.aload_n 2, 1, [2], 0), (.getfield 84, 3, [2,5,0,69,1], 0), (.bipush 8, 2, [], 8), (.if_icmp .lt 6, 3, [28], 0), (.ldc 77, 2, [320], (-1000003)), (.ireturn, 1, [0], 0)]
def bk_State_addLeaf_28 : List ab_O := [(.aload_n 2, 1, [2], 0), (.aload_n 0, 1, [0], 0), (.getfield 63, 3, [6,7,0,94,0], 0), (.invokevirtual 85, 3, [37,2,0,0,340,341,342,12,2], 0), (.aload_n 0, 1, [0], 0), (.dup, 1, [], 0), (.getfield 63, 3, [6,7,0,94,0], 0), (.iconst 1, 1, [], 1), (.iadd, 1, [], 0), (.putfield 63, 3, [6,7,0,94,0,0], 0), (.aload_n 0, 1, [0], 0), (.getfield 63, 3, [6,7,0,94,0], 0), (.iconst 1, 1, [], 1), (.isub, 1, [], 0), (.ireturn, 1, [0], 0)]
def bt_State_addLeaf : List (Nat × List ab_O) := [(0, bk_State_addLeaf_0), (10, bk_State_addLeaf_10), (28, bk_State_addLeaf_28)]
abbrev yn_State_addEntry : Nat := 58
def bk_State_addEntry_0 : List ab_O := [(.aload_n 0, 1, [0], 0), (.iload_n 1, 1, [1], 0), (.invokevirtual 88, 3, [53,2,0,0,352,353,354,10,6], 0), (.astore 5, 2, [5], 0), (.aload 5, 2, [5], 0), (.ifnull 21, 3, [30], 0), (.iload_n 2, 1, [2], 0), (.invokestatic 91, 3, [119,1,1,1,360,361,0,9], 0), (.ifCond .eq 14, 3, [30], 0), (.aload_n 0, 1, [0], 0), (.getfield 12, 3, [6,0,1,84,0], 0), (.iload_n 3, 1, [3], 0), (.invokevirtual 94, 3, [4,2,0,0,363,364,365,11,4], 0), (.ifCond .ne 6, 3, [33], 0), (.nop, 0, [30], 0)]
def bk_State_addEntry_30 : List ab_O := [(.ldc 73, 2, [319], (-1000001)), (.ireturn, 1, [0], 0)]
def bk_State_addEntry_33 : List ab_O := [(.iconst 2, 1, [], 2), (.aload 5, 2, [5], 0), (.iload_n 1, 1, [1], 0), (.invokevirtual 66, 3, [15,2,0,0,356,357,358,12,2], 0), (.imul, 1, [], 0), (.iload_n 2, 1, [2], 0), (.iadd, 1, [], 0), (.istore 6, 2, [6], 0), (.aload 5, 2, [5], 0), (.iload 6, 2, [6], 0), (.invokevirtual 97, 3, [12,2,0,0,367,289,290,12,2], 0), (.ifCond .eq 6, 3, [58], 0), (.ldc 100, 2, [368], (-1000002)), (.ireturn, 1, [0], 0)]
def bk_State_addEntry_58 : List ab_O := [(.aload 5, 2, [5], 0), (.iload 6, 2, [6], 0), (.iconst 1, 1, [], 1), (.iload_n 3, 1, [3], 0), (.iload 4, 2, [4], 0), (.invokevirtual 101, 3, [35,5,0,0,369,301,302,12,2], 0), (.aload 5, 2, [5], 0), (.aload_n 0, 1, [0], 0), (.getfield 12, 3, [6,0,1,84,0], 0), (.invokevirtual 105, 3, [27,2,0,0,370,371,372,12,2], 0), (.ireturn, 1, [0], 0)]
def bt_State_addEntry : List (Nat × List ab_O) := [(0, bk_State_addEntry_0), (30, bk_State_addEntry_30), (33, bk_State_addEntry_33), (58, bk_State_addEntry_58)]
abbrev yn_State_addWideEntry : Nat := 59
def bk_State_addWideEntry_0 : List ab_O := [(.aload_n 0, 1, [0], 0), (.iload_n 1, 1, [1], 0), (.invokevirtual 88, 3, [53,2,0,0,352,353,354,10,6], 0), (.astore_n 3, 1, [3], 0), (.aload_n 3, 1, [3], 0), (.ifnull 14, 3, [21], 0), (.aload_n 0, 1, [0], 0), (.getfield 12, 3, [6,0,1,84,0], 0), (.iload_n 2, 1, [2], 0), (.invokevirtual 94, 3, [4,2,0,0,363,364,365,11,4], 0), (.ifCond .ne 6, 3, [24], 0), (.nop, 0, [21], 0)]
def bk_State_addWideEntry_21 : List ab_O := [(.ldc 73, 2, [319], (-1000001)), (.ireturn, 1, [0], 0)]
def bk_State_addWideEntry_24 : List ab_O := [(.aload_n 3, 1, [3], 0), (.iload_n 1, 1, [1], 0), (.invokevirtual 66, 3, [15,2,0,0,356,357,358,12,2], 0), (.istore 4, 2, [4], 0), (.iconst 2, 1, [], 2), (.iload 4, 2, [4], 0), (.imul, 1, [], 0), (.iconst 1, 1, [], 1), (.iadd, 1, [], 0), (.istore 5, 2, [5], 0), (.iload 4, 2, [4], 0), (.iconst 1, 1, [], 1), (.iadd, 1, [], 0), (.aload_n 3, 1, [3], 0), (.getfield 84, 3, [2,5,0,69,1], 0), (.if_icmp .ge 23, 3, [70], 0), (.aload_n 3, 1, [3], 0), (.iload 5, 2, [5], 0), (.invokevirtual 97, 3, [12,2,0,0,367,289,290,12,2], 0), (.ifCond .ne 14, 3, [70], 0), (.aload_n 3, 1, [3], 0), (.iload 5, 2, [5], 0), (.iconst 1, 1, [], 1), (.iadd, 1, [], 0), (.invokevirtual 97, 3, [12,2,0,0,367,289,290,12,2], 0), (.ifCond .eq 6, 3, [73], 0), (.nop, 0, [70], 0)]
def bk_State_addWideEntry_70 : List ab_O := [(.ldc 100, 2, [368], (-1000002)), (.ireturn, 1, [0], 0)]
def bk_State_addWideEntry_73 : List ab_O := [(.aload_n 3, 1, [3], 0), (.iload 5, 2, [5], 0), (.iconst 2, 1, [], 2), (.iload_n 2, 1, [2], 0), (.iconst (-1), 1, [], (-1)), (.invokevirtual 101, 3, [35,5,0,0,369,301,302,12,2], 0), (.aload_n 3, 1, [3], 0), (.iload 5, 2, [5], 0), (.iconst 1, 1, [], 1), (.iadd, 1, [], 0), (.iconst 3, 1, [], 3), (.iload_n 2, 1, [2], 0), (.iconst (-1), 1, [], (-1)), (.invokevirtual 101, 3, [35,5,0,0,369,301,302,12,2], 0), (.aload_n 3, 1, [3], 0), (.iload 4, 2, [4], 0), (.invokevirtual 109, 3, [32,2,0,0,413,414,415,12,2], 0), (.ireturn, 1, [0], 0)]
def bt_State_addWideEntry : List (Nat × List ab_O) := [(0, bk_State_addWideEntry_0), (21, bk_State_addWideEntry_21), (24, bk_State_addWideEntry_24), (70, bk_State_addWideEntry_70), (73, bk_State_addWideEntry_73)]
abbrev yn_State_setFriend : Nat := 60
def bk_State_setFriend_0 : List ab_O := [(.aload_n 0, 1, [0], 0), (.iload_n 1, 1, [1], 0), (.invokevirtual 88, 3, [53,2,0,0,352,353,354,10,6], 0), (.astore 4, 2, [4], 0), (.aload 4, 2, [4], 0), (.ifnull 17, 3, [26], 0), (.iload_n 2, 1, [2], 0), (.invokestatic 91, 3, [119,1,1,1,360,361,0,9], 0), (.ifCond .eq 10, 3, [26], 0), (.iload_n 3, 1, [3], 0), (.invokestatic 81, 3, [117,1,1,1,337,338,0,9], 0), (.ifCond .ne 6, 3, [29], 0), (.nop, 0, [26], 0)]
def bk_State_setFriend_26 : List ab_O := [(.ldc 73, 2, [319], (-1000001)), (.ireturn, 1, [0], 0)]
def bk_State_setFriend_29 : List ab_O := [(.iconst 2, 1, [], 2), (.aload 4, 2, [4], 0), (.iload_n 1, 1, [1], 0), (.invokevirtual 66, 3, [15,2,0,0,356,357,358,12,2], 0), (.imul, 1, [], 0), (.iload_n 2, 1, [2], 0), (.iadd, 1, [], 0), (.istore 5, 2, [5], 0), (.aload 4, 2, [4], 0), (.iload 5, 2, [5], 0), (.invokevirtual 97, 3, [12,2,0,0,367,289,290,12,2], 0), (.istore 6, 2, [6], 0), (.iload 6, 2, [6], 0), (.ifCond .eq 14, 3, [66], 0), (.aload 4, 2, [4], 0), (.iload 5, 2, [5], 0), (.invokevirtual 112, 3, [14,2,0,0,437,297,298,12,2], 0), (.iconst (-1), 1, [], (-1)), (.if_icmp .eq 6, 3, [69], 0), (.nop, 0, [66], 0)]
def bk_State_setFriend_66 : List ab_O := [(.ldc 100, 2, [368], (-1000002)), (.ireturn, 1, [0], 0)]
def bk_State_setFriend_69 : List ab_O := [(.aload 4, 2, [4], 0), (.iload 5, 2, [5], 0), (.iload_n 3, 1, [3], 0), (.invokevirtual 115, 3, [36,3,0,0,438,439,440,12,2], 0), (.iload 6, 2, [6], 0), (.iconst 2, 1, [], 2), (.if_icmp .ne 16, 3, [96], 0), (.aload 4, 2, [4], 0), (.iload 5, 2, [5], 0), (.iconst 1, 1, [], 1), (.iadd, 1, [], 0), (.iload_n 3, 1, [3], 0), (.invokevirtual 115, 3, [36,3,0,0,438,439,440,12,2], 0), (.goto 19, 3, [112], 0)]
def bk_State_setFriend_96 : List ab_O := [(.iload 6, 2, [6], 0), (.iconst 3, 1, [], 3), (.if_icmp .ne 13, 3, [112], 0), (.aload 4, 2, [4], 0), (.iload 5, 2, [5], 0), (.iconst 1, 1, [], 1), (.isub, 1, [], 0), (.iload_n 3, 1, [3], 0), (.invokevirtual 115, 3, [36,3,0,0,438,439,440,12,2], 0), (.nop, 0, [112], 0)]
def bk_State_setFriend_112 : List ab_O := [(.aload 4, 2, [4], 0), (.aload_n 0, 1, [0], 0), (.getfield 12, 3, [6,0,1,84,0], 0), (.invokevirtual 105, 3, [27,2,0,0,370,371,372,12,2], 0), (.ireturn, 1, [0], 0)]
def bt_State_setFriend : List (Nat × List ab_O) := [(0, bk_State_setFriend_0), (26, bk_State_setFriend_26), (29, bk_State_setFriend_29), (66, bk_State_setFriend_66), (69, bk_State_setFriend_69), (96, bk_State_setFriend_96), (112, bk_State_setFriend_112)]
abbrev yn_State_shiftBundle : Nat := 61
def bk_State_shiftBundle_0 : List ab_O := [(.aload_n 0, 1, [0], 0), (.iload_n 1, 1, [1], 0), (.invokevirtual 88, 3, [53,2,0,0,352,353,354,10,6], 0), (.astore 4, 2, [4], 0), (.aload 4, 2, [4], 0), (.ifnull 7, 3, [16], 0), (.iload_n 2, 1, [2], 0), (.ifCond .ge 6, 3, [19], 0), (.nop, 0, [16], 0)]
def bk_State_shiftBundle_16 : List ab_O := [(.ldc 73, 2, [319], (-1000001)), (.ireturn, 1, [0], 0)]
def bk_State_shiftBundle_19 : List ab_O := [(.aload 4, 2, [4], 0), (.iload_n 1, 1, [1], 0), (.invokevirtual 66, 3, [15,2,0,0,356,357,358,12,2], 0), (.istore 5, 2, [5], 0), (.aload 4, 2, [4], 0), (.iload 5, 2, [5], 0), (.iload_n 2, 1, [2], 0), (.invokevirtual 118, 3, [34,3,0,0,450,451,452,12,2], 0), (.ifCond .ne 6, 3, [41], 0), (.ldc 100, 2, [368], (-1000002)), (.ireturn, 1, [0], 0)]
def bk_State_shiftBundle_41 : List ab_O := [(.aload 4, 2, [4], 0), (.iload 5, 2, [5], 0), (.invokevirtual 122, 3, [30,2,0,0,455,426,427,12,2], 0), (.istore 6, 2, [6], 0), (.aload_n 3, 1, [3], 0), (.aload 4, 2, [4], 0), (.iload 5, 2, [5], 0), (.iload_n 2, 1, [2], 0), (.invokevirtual 125, 3, [43,4,0,0,456,457,458,15,0], 0), (.iload 6, 2, [6], 0), (.ireturn, 1, [0], 0)]
def bt_State_shiftBundle : List (Nat × List ab_O) := [(0, bk_State_shiftBundle_0), (16, bk_State_shiftBundle_16), (19, bk_State_shiftBundle_19), (41, bk_State_shiftBundle_41)]
abbrev yn_State_exchange : Nat := 62
def bk_State_exchange_0 : List ab_O := [(.aload_n 0, 1, [0], 0), (.iload_n 1, 1, [1], 0), (.invokevirtual 88, 3, [53,2,0,0,352,353,354,10,6], 0), (.astore 5, 2, [5], 0), (.aload_n 0, 1, [0], 0), (.iload_n 2, 1, [2], 0), (.invokevirtual 88, 3, [53,2,0,0,352,353,354,10,6], 0), (.astore 6, 2, [6], 0), (.aload 5, 2, [5], 0), (.ifnull 15, 3, [31], 0), (.aload 6, 2, [6], 0), (.ifnull 10, 3, [31], 0), (.iload_n 3, 1, [3], 0), (.invokestatic 131, 3, [120,1,1,1,477,478,0,9], 0), (.ifCond .ne 6, 3, [34], 0), (.nop, 0, [31], 0)]
def bk_State_exchange_31 : List ab_O := [(.ldc 73, 2, [319], (-1000001)), (.ireturn, 1, [0], 0)]
def bk_State_exchange_34 : List ab_O := [(.aload_n 0, 1, [0], 0), (.aload 5, 2, [5], 0), (.getfield 134, 3, [2,4,0,65,1], 0), (.invokevirtual 51, 3, [54,2,0,0,304,305,306,10,6], 0), (.iload_n 3, 1, [3], 0), (.isub, 1, [], 0), (.istore 7, 2, [7], 0), (.aload_n 0, 1, [0], 0), (.aload 6, 2, [6], 0), (.getfield 134, 3, [2,4,0,65,1], 0), (.invokevirtual 51, 3, [54,2,0,0,304,305,306,10,6], 0), (.iload_n 3, 1, [3], 0), (.iadd, 1, [], 0), (.istore 8, 2, [8], 0), (.aload 5, 2, [5], 0), (.getfield 134, 3, [2,4,0,65,1], 0), (.aload 6, 2, [6], 0), (.getfield 134, 3, [2,4,0,65,1], 0), (.if_icmp .eq 13, 3, [83], 0), (.iload 7, 2, [7], 0), (.ifCond .lt 8, 3, [83], 0), (.iload 8, 2, [8], 0), (.ifCond .ge 6, 3, [86], 0), (.nop, 0, [83], 0)]
def bk_State_exchange_83 : List ab_O := [(.ldc 100, 2, [368], (-1000002)), (.ireturn, 1, [0], 0)]
def bk_State_exchange_86 : List ab_O := [(.aload 4, 2, [4], 0), (.aload 5, 2, [5], 0), (.aload 5, 2, [5], 0), (.iload_n 1, 1, [1], 0), (.invokevirtual 66, 3, [15,2,0,0,356,357,358,12,2], 0), (.aload 6, 2, [6], 0), (.aload 6, 2, [6], 0), (.iload_n 2, 1, [2], 0), (.invokevirtual 66, 3, [15,2,0,0,356,357,358,12,2], 0), (.invokevirtual 137, 3, [44,5,0,0,480,481,482,15,0], 0), (.aload 4, 2, [4], 0), (.invokevirtual 141, 3, [46,1,0,0,489,490,491,15,0], 0), (.ifCond .eq 19, 3, [131], 0), (.iload 7, 2, [7], 0), (.sipush 9999, 3, [], 9999), (.if_icmp .gt 11, 3, [131], 0), (.iload 8, 2, [8], 0), (.sipush 9999, 3, [], 9999), (.if_icmp .le 6, 3, [134], 0), (.nop, 0, [131], 0)]
def bk_State_exchange_131 : List ab_O := [(.ldc 77, 2, [320], (-1000003)), (.ireturn, 1, [0], 0)]
def bk_State_exchange_134 : List ab_O := [(.aload 4, 2, [4], 0), (.invokevirtual 145, 3, [49,1,0,0,493,494,495,15,0], 0), (.aload_n 0, 1, [0], 0), (.aload 5, 2, [5], 0), (.getfield 134, 3, [2,4,0,65,1], 0), (.iload 7, 2, [7], 0), (.invokevirtual 55, 3, [55,3,0,0,308,309,310,10,6], 0), (.aload_n 0, 1, [0], 0), (.aload 6, 2, [6], 0), (.getfield 134, 3, [2,4,0,65,1], 0), (.iload 8, 2, [8], 0), (.invokevirtual 55, 3, [55,3,0,0,308,309,310,10,6], 0), (.aload_n 0, 1, [0], 0), (.dup, 1, [], 0), (.getfield 59, 3, [6,6,0,92,0], 0), (.iconst 1, 1, [], 1), (.iadd, 1, [], 0), (.putfield 59, 3, [6,6,0,92,0,0], 0), (.aload 4, 2, [4], 0), (.getfield 148, 3, [0,4,0,190,1], 0), (.ireturn, 1, [0], 0)]
def bt_State_exchange : List (Nat × List ab_O) := [(0, bk_State_exchange_0), (31, bk_State_exchange_31), (34, bk_State_exchange_34), (83, bk_State_exchange_83), (86, bk_State_exchange_86), (131, bk_State_exchange_131), (134, bk_State_exchange_134)]
abbrev yn_State_takeOut : Nat := 63
def bk_State_takeOut_0 : List ab_O := [(.aload_n 0, 1, [0], 0), (.iload_n 1, 1, [1], 0), (.invokevirtual 88, 3, [53,2,0,0,352,353,354,10,6], 0), (.astore_n 3, 1, [3], 0), (.aload_n 3, 1, [3], 0), (.ifnonnull 6, 3, [13], 0), (.ldc 73, 2, [319], (-1000001)), (.ireturn, 1, [0], 0)]
def bk_State_takeOut_13 : List ab_O := [(.aload_n 3, 1, [3], 0), (.getfield 84, 3, [2,5,0,69,1], 0), (.istore 4, 2, [4], 0), (.aload_n 2, 1, [2], 0), (.aload_n 3, 1, [3], 0), (.aload_n 3, 1, [3], 0), (.iload_n 1, 1, [1], 0), (.invokevirtual 66, 3, [15,2,0,0,356,357,358,12,2], 0), (.invokevirtual 151, 3, [42,3,0,0,505,465,466,15,0], 0), (.iload 4, 2, [4], 0), (.aload_n 3, 1, [3], 0), (.getfield 84, 3, [2,5,0,69,1], 0), (.isub, 1, [], 0), (.ireturn, 1, [0], 0)]
def bt_State_takeOut : List (Nat × List ab_O) := [(0, bk_State_takeOut_0), (13, bk_State_takeOut_13)]
abbrev yn_State_fillPurse : Nat := 64
def bk_State_fillPurse_0 : List ab_O := [(.iload_n 1, 1, [1], 0), (.invokestatic 81, 3, [117,1,1,1,337,338,0,9], 0), (.ifCond .eq 14, 3, [18], 0), (.iload_n 2, 1, [2], 0), (.ifCond .lt 10, 3, [18], 0), (.iload_n 2, 1, [2], 0), (.sipush 9999, 3, [], 9999), (.if_icmp .le 6, 3, [21], 0), (.nop, 0, [18], 0)]
def bk_State_fillPurse_18 : List ab_O := [(.ldc 73, 2, [319], (-1000001)), (.ireturn, 1, [0], 0)]
def bk_State_fillPurse_21 : List ab_O := [(.aload_n 0, 1, [0], 0), (.iload_n 1, 1, [1], 0), (.invokevirtual 51, 3, [54,2,0,0,304,305,306,10,6], 0), (.istore_n 3, 1, [3], 0), (.aload_n 0, 1, [0], 0), (.iload_n 1, 1, [1], 0), (.iload_n 2, 1, [2], 0), (.invokevirtual 55, 3, [55,3,0,0,308,309,310,10,6], 0), (.iload_n 3, 1, [3], 0), (.ireturn, 1, [0], 0)]
def bt_State_fillPurse : List (Nat × List ab_O) := [(0, bk_State_fillPurse_0), (18, bk_State_fillPurse_18), (21, bk_State_fillPurse_21)]
abbrev yn_State_wealth : Nat := 65
def bk_State_wealth_0 : List ab_O := [(.aload_n 0, 1, [0], 0), (.iload_n 1, 1, [1], 0), (.invokevirtual 44, 3, [52,2,0,0,268,269,270,10,6], 0), (.aload_n 0, 1, [0], 0), (.getfield 12, 3, [6,0,1,84,0], 0), (.invokevirtual 105, 3, [27,2,0,0,370,371,372,12,2], 0), (.aload_n 0, 1, [0], 0), (.iload_n 1, 1, [1], 0), (.invokevirtual 51, 3, [54,2,0,0,304,305,306,10,6], 0), (.iadd, 1, [], 0), (.ireturn, 1, [0], 0)]
def bt_State_wealth : List (Nat × List ab_O) := [(0, bk_State_wealth_0)]
abbrev yn_State_richest : Nat := 66
def bk_State_richest_0 : List ab_O := [(.iconst 0, 1, [], 0), (.istore_n 1, 1, [1], 0), (.iconst 1, 1, [], 1), (.istore_n 2, 1, [2], 0), (.nop, 0, [4], 0)]
def bk_State_richest_4 : List ab_O := [(.iload_n 2, 1, [2], 0), (.iconst 4, 1, [], 4), (.if_icmp .ge 24, 3, [30], 0), (.aload_n 0, 1, [0], 0), (.iload_n 2, 1, [2], 0), (.invokevirtual 155, 3, [65,2,0,0,543,544,545,10,6], 0), (.aload_n 0, 1, [0], 0), (.iload_n 1, 1, [1], 0), (.invokevirtual 155, 3, [65,2,0,0,543,544,545,10,6], 0), (.if_icmp .le 5, 3, [24], 0), (.iload_n 2, 1, [2], 0), (.istore_n 1, 1, [1], 0), (.nop, 0, [24], 0)]
def bk_State_richest_24 : List ab_O := [(.iinc 2 1, 3, [2], 1), (.goto (-23), 3, [4], 0)]
def bk_State_richest_30 : List ab_O := [(.iload_n 1, 1, [1], 0), (.ireturn, 1, [0], 0)]
def bt_State_richest : List (Nat × List ab_O) := [(0, bk_State_richest_0), (4, bk_State_richest_4), (24, bk_State_richest_24), (30, bk_State_richest_30)]
abbrev yn_State_sumOfWorths : Nat := 67
def bk_State_sumOfWorths_0 : List ab_O := [(.iconst 0, 1, [], 0), (.istore_n 1, 1, [1], 0), (.iconst 0, 1, [], 0), (.istore_n 2, 1, [2], 0), (.nop, 0, [4], 0)]
def bk_State_sumOfWorths_4 : List ab_O := [(.iload_n 2, 1, [2], 0), (.iconst 4, 1, [], 4), (.if_icmp .ge 24, 3, [30], 0), (.iload_n 1, 1, [1], 0), (.aload_n 0, 1, [0], 0), (.iload_n 2, 1, [2], 0), (.invokevirtual 44, 3, [52,2,0,0,268,269,270,10,6], 0), (.aload_n 0, 1, [0], 0), (.getfield 12, 3, [6,0,1,84,0], 0), (.invokevirtual 105, 3, [27,2,0,0,370,371,372,12,2], 0), (.iadd, 1, [], 0), (.istore_n 1, 1, [1], 0), (.iinc 2 1, 3, [2], 1), (.goto (-23), 3, [4], 0)]
def bk_State_sumOfWorths_30 : List ab_O := [(.iload_n 1, 1, [1], 0), (.ireturn, 1, [0], 0)]
def bt_State_sumOfWorths : List (Nat × List ab_O) := [(0, bk_State_sumOfWorths_0), (4, bk_State_sumOfWorths_4), (30, bk_State_sumOfWorths_30)]
abbrev yn_State_countLeaves : Nat := 68
def bk_State_countLeaves_0 : List ab_O := [(.aload_n 0, 1, [0], 0), (.getfield 23, 3, [6,1,1,87,0], 0), (.getfield 84, 3, [2,5,0,69,1], 0), (.aload_n 0, 1, [0], 0), (.getfield 27, 3, [6,2,1,88,0], 0), (.getfield 84, 3, [2,5,0,69,1], 0), (.iadd, 1, [], 0), (.aload_n 0, 1, [0], 0), (.getfield 30, 3, [6,3,1,89,0], 0), (.getfield 84, 3, [2,5,0,69,1], 0), (.iadd, 1, [], 0), (.aload_n 0, 1, [0], 0), (.getfield 33, 3, [6,4,1,90,0], 0), (.getfield 84, 3, [2,5,0,69,1], 0), (.iadd, 1, [], 0), (.ireturn, 1, [0], 0)]
def bt_State_countLeaves : List (Nat × List ab_O) := [(0, bk_State_countLeaves_0)]
abbrev yn_State_countEntries : Nat := 69
def bk_State_countEntries_0 : List ab_O := [(.iconst 0, 1, [], 0), (.istore_n 1, 1, [1], 0), (.iconst 0, 1, [], 0), (.istore_n 2, 1, [2], 0), (.nop, 0, [4], 0)]
def bk_State_countEntries_4 : List ab_O := [(.iload_n 2, 1, [2], 0), (.iconst 4, 1, [], 4), (.if_icmp .ge 20, 3, [26], 0), (.iload_n 1, 1, [1], 0), (.aload_n 0, 1, [0], 0), (.iload_n 2, 1, [2], 0), (.invokevirtual 44, 3, [52,2,0,0,268,269,270,10,6], 0), (.invokevirtual 158, 3, [17,1,0,0,535,536,537,12,2], 0), (.iadd, 1, [], 0), (.istore_n 1, 1, [1], 0), (.iinc 2 1, 3, [2], 1), (.goto (-19), 3, [4], 0)]
def bk_State_countEntries_26 : List ab_O := [(.iload_n 1, 1, [1], 0), (.ireturn, 1, [0], 0)]
def bt_State_countEntries : List (Nat × List ab_O) := [(0, bk_State_countEntries_0), (4, bk_State_countEntries_4), (26, bk_State_countEntries_26)]
abbrev yn_State_countDedicated : Nat := 70
def bk_State_countDedicated_0 : List ab_O := [(.iconst 0, 1, [], 0), (.istore_n 1, 1, [1], 0), (.iconst 0, 1, [], 0), (.istore_n 2, 1, [2], 0), (.nop, 0, [4], 0)]
def bk_State_countDedicated_4 : List ab_O := [(.iload_n 2, 1, [2], 0), (.iconst 4, 1, [], 4), (.if_icmp .ge 20, 3, [26], 0), (.iload_n 1, 1, [1], 0), (.aload_n 0, 1, [0], 0), (.iload_n 2, 1, [2], 0), (.invokevirtual 44, 3, [52,2,0,0,268,269,270,10,6], 0), (.invokevirtual 162, 3, [20,1,0,0,555,556,557,12,2], 0), (.iadd, 1, [], 0), (.istore_n 1, 1, [1], 0), (.iinc 2 1, 3, [2], 1), (.goto (-19), 3, [4], 0)]
def bk_State_countDedicated_26 : List ab_O := [(.iload_n 1, 1, [1], 0), (.ireturn, 1, [0], 0)]
def bt_State_countDedicated : List (Nat × List ab_O) := [(0, bk_State_countDedicated_0), (4, bk_State_countDedicated_4), (26, bk_State_countDedicated_26)]
abbrev yn_State_countEntriesOf : Nat := 71
def bk_State_countEntriesOf_0 : List ab_O := [(.iconst 0, 1, [], 0), (.istore_n 2, 1, [2], 0), (.iconst 0, 1, [], 0), (.istore_n 3, 1, [3], 0), (.nop, 0, [4], 0)]
def bk_State_countEntriesOf_4 : List ab_O := [(.iload_n 3, 1, [3], 0), (.iconst 4, 1, [], 4), (.if_icmp .ge 21, 3, [27], 0), (.iload_n 2, 1, [2], 0), (.aload_n 0, 1, [0], 0), (.iload_n 3, 1, [3], 0), (.invokevirtual 44, 3, [52,2,0,0,268,269,270,10,6], 0), (.iload_n 1, 1, [1], 0), (.invokevirtual 165, 3, [18,2,0,0,621,622,623,12,2], 0), (.iadd, 1, [], 0), (.istore_n 2, 1, [2], 0), (.iinc 3 1, 3, [3], 1), (.goto (-20), 3, [4], 0)]
def bk_State_countEntriesOf_27 : List ab_O := [(.iload_n 2, 1, [2], 0), (.ireturn, 1, [0], 0)]
def bt_State_countEntriesOf : List (Nat × List ab_O) := [(0, bk_State_countEntriesOf_0), (4, bk_State_countEntriesOf_4), (27, bk_State_countEntriesOf_27)]
abbrev yn_State_ownersOf : Nat := 72
def bk_State_ownersOf_0 : List ab_O := [(.iconst 0, 1, [], 0), (.istore_n 2, 1, [2], 0), (.iconst 0, 1, [], 0), (.istore_n 3, 1, [3], 0), (.nop, 0, [4], 0)]
def bk_State_ownersOf_4 : List ab_O := [(.iload_n 3, 1, [3], 0), (.iconst 4, 1, [], 4), (.if_icmp .ge 27, 3, [33], 0), (.aload_n 0, 1, [0], 0), (.iload_n 3, 1, [3], 0), (.invokevirtual 44, 3, [52,2,0,0,268,269,270,10,6], 0), (.iload_n 1, 1, [1], 0), (.invokevirtual 165, 3, [18,2,0,0,621,622,623,12,2], 0), (.ifCond .le 9, 3, [27], 0), (.iload_n 2, 1, [2], 0), (.iconst 1, 1, [], 1), (.iload_n 3, 1, [3], 0), (.ishl, 1, [], 0), (.ior, 1, [], 0), (.istore_n 2, 1, [2], 0), (.nop, 0, [27], 0)]
def bk_State_ownersOf_27 : List ab_O := [(.iinc 3 1, 3, [3], 1), (.goto (-26), 3, [4], 0)]
def bk_State_ownersOf_33 : List ab_O := [(.iload_n 2, 1, [2], 0), (.ireturn, 1, [0], 0)]
def bt_State_ownersOf : List (Nat × List ab_O) := [(0, bk_State_ownersOf_0), (4, bk_State_ownersOf_4), (27, bk_State_ownersOf_27), (33, bk_State_ownersOf_33)]
abbrev yn_BestTrade_init : Nat := 73
def bk_BestTrade_init_0 : List ab_O := [(.aload_n 0, 1, [0], 0), (.invokespecial 3, 3, [999,1,3,0,207,25,26], 0), (.return_, 1, [], 0)]
def bt_BestTrade_init : List (Nat × List ab_O) := [(0, bk_BestTrade_init_0)]
abbrev yn_BestTrade_search : Nat := 74
def bk_BestTrade_search_0 : List ab_O := [(.aload_n 0, 1, [0], 0), (.iconst 0, 1, [], 0), (.putfield 9, 3, [1,2,0,212,0,0], 0), (.aload_n 1, 1, [1], 0), (.iload_n 2, 1, [2], 0), (.invokevirtual 15, 3, [52,2,0,0,688,269,270,10,6], 0), (.astore 4, 2, [4], 0), (.iconst 0, 1, [], 0), (.istore 5, 2, [5], 0), (.nop, 0, [15], 0)]
def bk_BestTrade_search_15 : List ab_O := [(.iload 5, 2, [5], 0), (.aload 4, 2, [4], 0), (.getfield 21, 3, [2,5,0,66,1], 0), (.if_icmp .ge 59, 3, [81], 0), (.iconst 0, 1, [], 0), (.istore 6, 2, [6], 0), (.nop, 0, [28], 0)]
def bk_BestTrade_search_28 : List ab_O := [(.iload 6, 2, [6], 0), (.iconst 4, 1, [], 4), (.if_icmp .ge 44, 3, [75], 0), (.aload 4, 2, [4], 0), (.iload 5, 2, [5], 0), (.invokevirtual 26, 3, [29,2,0,0,689,606,607,12,2], 0), (.ifCond .eq 28, 3, [69], 0), (.iload 6, 2, [6], 0), (.iload_n 2, 1, [2], 0), (.if_icmp .eq 22, 3, [69], 0), (.aload_n 0, 1, [0], 0), (.aload_n 1, 1, [1], 0), (.getfield 30, 3, [6,0,1,85,1], 0), (.aload 4, 2, [4], 0), (.iload 5, 2, [5], 0), (.aload_n 1, 1, [1], 0), (.iload 6, 2, [6], 0), (.invokevirtual 15, 3, [52,2,0,0,688,269,270,10,6], 0), (.aload_n 3, 1, [3], 0), (.invokevirtual 34, 3, [75,6,0,0,690,692,1,16,1], 0), (.nop, 0, [69], 0)]
def bk_BestTrade_search_69 : List ab_O := [(.iinc 6 1, 3, [6], 1), (.goto (-44), 3, [28], 0)]
def bk_BestTrade_search_75 : List ab_O := [(.iinc 5 1, 3, [5], 1), (.goto (-63), 3, [15], 0)]
def bk_BestTrade_search_81 : List ab_O := [(.return_, 1, [], 0)]
def bt_BestTrade_search : List (Nat × List ab_O) := [(0, bk_BestTrade_search_0), (15, bk_BestTrade_search_15), (28, bk_BestTrade_search_28), (69, bk_BestTrade_search_69), (75, bk_BestTrade_search_75), (81, bk_BestTrade_search_81)]
abbrev yn_BestTrade_searchBook : Nat := 75
def bk_BestTrade_searchBook_0 : List ab_O := [(.iconst 0, 1, [], 0), (.istore 6, 2, [6], 0), (.nop, 0, [3], 0)]
def bk_BestTrade_searchBook_3 : List ab_O := [(.iload 6, 2, [6], 0), (.aload 4, 2, [4], 0), (.getfield 21, 3, [2,5,0,66,1], 0), (.if_icmp .ge 90, 3, [100], 0), (.aload 4, 2, [4], 0), (.iload 6, 2, [6], 0), (.invokevirtual 26, 3, [29,2,0,0,689,606,607,12,2], 0), (.ifCond .eq 74, 3, [94], 0), (.aload 5, 2, [5], 0), (.aload_n 2, 1, [2], 0), (.iload_n 3, 1, [3], 0), (.aload 4, 2, [4], 0), (.iload 6, 2, [6], 0), (.invokevirtual 38, 3, [44,5,0,0,694,481,482,15,0], 0), (.aload 5, 2, [5], 0), (.aload_n 1, 1, [1], 0), (.invokevirtual 44, 3, [47,2,0,0,695,663,664,15,0], 0), (.istore 7, 2, [7], 0), (.iload 7, 2, [7], 0), (.aload_n 0, 1, [0], 0), (.getfield 9, 3, [1,2,0,212,0], 0), (.if_icmp .le 46, 3, [94], 0), (.aload 5, 2, [5], 0), (.invokevirtual 48, 3, [46,1,0,0,696,490,491,15,0], 0), (.ifCond .eq 38, 3, [94], 0), (.aload 5, 2, [5], 0), (.aload_n 1, 1, [1], 0), (.invokevirtual 52, 3, [48,2,0,0,697,668,669,15,0], 0), (.ifCond .le 29, 3, [94], 0), (.aload_n 0, 1, [0], 0), (.iload 7, 2, [7], 0), (.putfield 9, 3, [1,2,0,212,0,0], 0), (.aload_n 0, 1, [0], 0), (.aload_n 2, 1, [2], 0), (.iload_n 3, 1, [3], 0), (.invokevirtual 55, 3, [11,2,0,0,698,285,286,12,2], 0), (.putfield 59, 3, [1,0,0,208,0,0], 0), (.aload_n 0, 1, [0], 0), (.aload 4, 2, [4], 0), (.iload 6, 2, [6], 0), (.invokevirtual 55, 3, [11,2,0,0,698,285,286,12,2], 0), (.putfield 62, 3, [1,1,0,210,0,0], 0), (.nop, 0, [94], 0)]
def bk_BestTrade_searchBook_94 : List ab_O := [(.iinc 6 1, 3, [6], 1), (.goto (-94), 3, [3], 0)]
def bk_BestTrade_searchBook_100 : List ab_O := [(.return_, 1, [], 0)]
def bt_BestTrade_searchBook : List (Nat × List ab_O) := [(0, bk_BestTrade_searchBook_0), (3, bk_BestTrade_searchBook_3), (94, bk_BestTrade_searchBook_94), (100, bk_BestTrade_searchBook_100)]
abbrev yn_History_init : Nat := 76
def bk_History_init_0 : List ab_O := [(.aload_n 0, 1, [0], 0), (.invokespecial 3, 3, [999,1,3,0,118,25,26], 0), (.aload_n 0, 1, [0], 0), (.new 9, 3, [6,119,28,10], 0), (.dup, 1, [], 0), (.invokespecial 11, 3, [50,1,2,1,120,30,0,10], 0), (.putfield 12, 3, [3,0,1,121,0,0], 0), (.aload_n 0, 1, [0], 0), (.new 9, 3, [6,119,28,10], 0), (.dup, 1, [], 0), (.invokespecial 11, 3, [50,1,2,1,120,30,0,10], 0), (.putfield 18, 3, [3,1,1,122,0,0], 0), (.aload_n 0, 1, [0], 0), (.new 9, 3, [6,119,28,10], 0), (.dup, 1, [], 0), (.invokespecial 11, 3, [50,1,2,1,120,30,0,10], 0), (.putfield 21, 3, [3,2,1,123,0,0], 0), (.aload_n 0, 1, [0], 0), (.new 9, 3, [6,119,28,10], 0), (.dup, 1, [], 0), (.invokespecial 11, 3, [50,1,2,1,120,30,0,10], 0), (.putfield 24, 3, [3,3,1,124,0,0], 0), (.aload_n 0, 1, [0], 0), (.new 9, 3, [6,119,28,10], 0), (.dup, 1, [], 0), (.invokespecial 11, 3, [50,1,2,1,120,30,0,10], 0), (.putfield 27, 3, [3,4,1,125,0,0], 0), (.return_, 1, [], 0)]
def bt_History_init : List (Nat × List ab_O) := [(0, bk_History_init_0)]
abbrev yn_History_prepare : Nat := 77
def bk_History_prepare_0 : List ab_O := [(.aload_n 0, 1, [0], 0), (.getfield 12, 3, [3,0,1,121,0], 0), (.aload_n 1, 1, [1], 0), (.invokevirtual 30, 3, [51,2,0,0,248,249,250,10,6], 0), (.return_, 1, [], 0)]
def bt_History_prepare : List (Nat × List ab_O) := [(0, bk_History_prepare_0)]
abbrev yn_History_keep : Nat := 78
def bk_History_keep_0 : List ab_O := [(.iload_n 1, 1, [1], 0), (.ifCond .lt 59, 3, [60], 0), (.aload_n 0, 1, [0], 0), (.getfield 27, 3, [3,4,1,125,0], 0), (.astore_n 2, 1, [2], 0), (.aload_n 0, 1, [0], 0), (.aload_n 0, 1, [0], 0), (.getfield 24, 3, [3,3,1,124,0], 0), (.putfield 27, 3, [3,4,1,125,0,0], 0), (.aload_n 0, 1, [0], 0), (.aload_n 0, 1, [0], 0), (.getfield 21, 3, [3,2,1,123,0], 0), (.putfield 24, 3, [3,3,1,124,0,0], 0), (.aload_n 0, 1, [0], 0), (.aload_n 0, 1, [0], 0), (.getfield 18, 3, [3,1,1,122,0], 0), (.putfield 21, 3, [3,2,1,123,0,0], 0), (.aload_n 0, 1, [0], 0), (.aload_n 0, 1, [0], 0), (.getfield 12, 3, [3,0,1,121,0], 0), (.putfield 18, 3, [3,1,1,122,0,0], 0), (.aload_n 0, 1, [0], 0), (.aload_n 2, 1, [2], 0), (.putfield 12, 3, [3,0,1,121,0,0], 0), (.aload_n 0, 1, [0], 0), (.aload_n 0, 1, [0], 0), (.getfield 34, 3, [3,5,0,126,0], 0), (.iconst 1, 1, [], 1), (.iadd, 1, [], 0), (.iconst 4, 1, [], 4), (.invokestatic 38, 3, [997,2,6,0,326,327,18,328], 0), (.putfield 34, 3, [3,5,0,126,0,0], 0), (.nop, 0, [60], 0)]
def bk_History_keep_60 : List ab_O := [(.iload_n 1, 1, [1], 0), (.ireturn, 1, [0], 0)]
def bt_History_keep : List (Nat × List ab_O) := [(0, bk_History_keep_0), (60, bk_History_keep_60)]
abbrev yn_History_restore : Nat := 79
def bk_History_restore_0 : List ab_O := [(.aload_n 0, 1, [0], 0), (.getfield 18, 3, [3,1,1,122,0], 0), (.astore_n 2, 1, [2], 0), (.aload_n 1, 1, [1], 0), (.aload_n 2, 1, [2], 0), (.invokevirtual 30, 3, [51,2,0,0,248,249,250,10,6], 0), (.aload_n 0, 1, [0], 0), (.aload_n 0, 1, [0], 0), (.getfield 21, 3, [3,2,1,123,0], 0), (.putfield 18, 3, [3,1,1,122,0,0], 0), (.aload_n 0, 1, [0], 0), (.aload_n 0, 1, [0], 0), (.getfield 24, 3, [3,3,1,124,0], 0), (.putfield 21, 3, [3,2,1,123,0,0], 0), (.aload_n 0, 1, [0], 0), (.aload_n 0, 1, [0], 0), (.getfield 27, 3, [3,4,1,125,0], 0), (.putfield 24, 3, [3,3,1,124,0,0], 0), (.aload_n 0, 1, [0], 0), (.aload_n 0, 1, [0], 0), (.getfield 12, 3, [3,0,1,121,0], 0), (.putfield 27, 3, [3,4,1,125,0,0], 0), (.aload_n 0, 1, [0], 0), (.aload_n 2, 1, [2], 0), (.putfield 12, 3, [3,0,1,121,0,0], 0), (.aload_n 0, 1, [0], 0), (.dup, 1, [], 0), (.getfield 34, 3, [3,5,0,126,0], 0), (.iconst 1, 1, [], 1), (.isub, 1, [], 0), (.putfield 34, 3, [3,5,0,126,0,0], 0), (.return_, 1, [], 0)]
def bt_History_restore : List (Nat × List ab_O) := [(0, bk_History_restore_0)]
abbrev yn_Orders_init : Nat := 80
def bk_Orders_init_0 : List ab_O := [(.aload_n 0, 1, [0], 0), (.invokespecial 3, 3, [999,1,3,0,146,25,26], 0), (.aload_n 0, 1, [0], 0), (.bipush 60, 2, [], 60), (.newarray .int, 2, [51], 0), (.putfield 9, 3, [5,0,1,147,0,1], 0), (.aload_n 0, 1, [0], 0), (.iconst 4, 1, [], 4), (.newarray .int, 2, [51], 0), (.putfield 15, 3, [5,1,1,148,0,1], 0), (.return_, 1, [], 0)]
def bt_Orders_init : List (Nat × List ab_O) := [(0, bk_Orders_init_0)]
abbrev yn_Orders_append : Nat := 81
def bk_Orders_append_0 : List ab_O := [(.aload_n 0, 1, [0], 0), (.getfield 18, 3, [5,2,0,149,0], 0), (.ifCond .lt 35, 3, [39], 0), (.aload_n 0, 1, [0], 0), (.getfield 18, 3, [5,2,0,149,0], 0), (.aload_n 0, 1, [0], 0), (.getfield 9, 3, [5,0,1,147,0], 0), (.arraylength, 1, [], 0), (.if_icmp .ge 23, 3, [39], 0), (.aload_n 0, 1, [0], 0), (.getfield 9, 3, [5,0,1,147,0], 0), (.aload_n 0, 1, [0], 0), (.getfield 18, 3, [5,2,0,149,0], 0), (.iload_n 1, 1, [1], 0), (.iastore, 1, [], 0), (.aload_n 0, 1, [0], 0), (.dup, 1, [], 0), (.getfield 18, 3, [5,2,0,149,0], 0), (.iconst 1, 1, [], 1), (.iadd, 1, [], 0), (.putfield 18, 3, [5,2,0,149,0,0], 0), (.nop, 0, [39], 0)]
def bk_Orders_append_39 : List ab_O := [(.return_, 1, [], 0)]
def bt_Orders_append : List (Nat × List ab_O) := [(0, bk_Orders_append_0), (39, bk_Orders_append_39)]
abbrev yn_Orders_run : Nat := 82
def bk_Orders_run_0 : List ab_O := [(.aload_n 2, 1, [2], 0), (.aload_n 1, 1, [1], 0), (.invokevirtual 22, 3, [51,2,0,0,732,249,250,10,6], 0), (.aload_n 0, 1, [0], 0), (.iconst 0, 1, [], 0), (.putfield 28, 3, [5,4,0,153,0,0], 0), (.aload_n 0, 1, [0], 0), (.iconst 0, 1, [], 0), (.putfield 31, 3, [5,5,0,154,0,0], 0), (.aload_n 0, 1, [0], 0), (.iconst 0, 1, [], 0), (.putfield 34, 3, [5,6,0,156,0,0], 0), (.iconst 0, 1, [], 0), (.istore 4, 2, [4], 0), (.nop, 0, [23], 0)]
def bk_Orders_run_23 : List ab_O := [(.iload 4, 2, [4], 0), (.bipush 60, 2, [], 60), (.if_icmp .ge 89, 3, [116], 0), (.aload_n 0, 1, [0], 0), (.getfield 28, 3, [5,4,0,153,0], 0), (.aload_n 0, 1, [0], 0), (.getfield 18, 3, [5,2,0,149,0], 0), (.if_icmp .ge 78, 3, [116], 0), (.aload_n 0, 1, [0], 0), (.aload_n 0, 1, [0], 0), (.getfield 28, 3, [5,4,0,153,0], 0), (.putfield 37, 3, [5,3,0,151,0,0], 0), (.aload_n 0, 1, [0], 0), (.invokevirtual 40, 3, [84,1,0,0,733,735,2,14,5], 0), (.ifCond .ne 22, 3, [75], 0), (.aload_n 0, 1, [0], 0), (.iconst 1, 1, [], 1), (.putfield 34, 3, [5,6,0,156,0,0], 0), (.aload_n 0, 1, [0], 0), (.aload_n 0, 1, [0], 0), (.getfield 28, 3, [5,4,0,153,0], 0), (.aload_n 0, 1, [0], 0), (.getfield 37, 3, [5,3,0,151,0], 0), (.isub, 1, [], 0), (.putfield 44, 3, [5,7,0,158,0,0], 0), (.return_, 1, [], 0)]
def bk_Orders_run_75 : List ab_O := [(.aload_n 0, 1, [0], 0), (.aload_n 2, 1, [2], 0), (.aload_n 3, 1, [3], 0), (.invokevirtual 47, 3, [88,3,0,0,755,757,6,14,5], 0), (.istore 5, 2, [5], 0), (.iload 5, 2, [5], 0), (.ifCond .ge 15, 3, [100], 0), (.aload_n 0, 1, [0], 0), (.iconst 2, 1, [], 2), (.putfield 34, 3, [5,6,0,156,0,0], 0), (.aload_n 0, 1, [0], 0), (.iload 5, 2, [5], 0), (.putfield 44, 3, [5,7,0,158,0,0], 0), (.return_, 1, [], 0)]
def bk_Orders_run_100 : List ab_O := [(.aload_n 0, 1, [0], 0), (.dup, 1, [], 0), (.getfield 31, 3, [5,5,0,154,0], 0), (.iconst 1, 1, [], 1), (.iadd, 1, [], 0), (.putfield 31, 3, [5,5,0,154,0,0], 0), (.iinc 4 1, 3, [4], 1), (.goto (-90), 3, [23], 0)]
def bk_Orders_run_116 : List ab_O := [(.return_, 1, [], 0)]
def bt_Orders_run : List (Nat × List ab_O) := [(0, bk_Orders_run_0), (23, bk_Orders_run_23), (75, bk_Orders_run_75), (100, bk_Orders_run_100), (116, bk_Orders_run_116)]
abbrev yn_Orders_characterAt : Nat := 83
def bk_Orders_characterAt_0 : List ab_O := [(.iload_n 1, 1, [1], 0), (.ifCond .lt 29, 3, [30], 0), (.iload_n 1, 1, [1], 0), (.aload_n 0, 1, [0], 0), (.getfield 18, 3, [5,2,0,149,0], 0), (.if_icmp .ge 21, 3, [30], 0), (.iload_n 1, 1, [1], 0), (.aload_n 0, 1, [0], 0), (.getfield 9, 3, [5,0,1,147,0], 0), (.arraylength, 1, [], 0), (.if_icmp .ge 12, 3, [30], 0), (.aload_n 0, 1, [0], 0), (.getfield 9, 3, [5,0,1,147,0], 0), (.iload_n 1, 1, [1], 0), (.iaload, 1, [], 0), (.goto 4, 3, [31], 0)]
def bk_Orders_characterAt_30 : List ab_O := [(.iconst 0, 1, [], 0), (.nop, 0, [31], 0)]
def bk_Orders_characterAt_31 : List ab_O := [(.ireturn, 1, [0], 0)]
def bt_Orders_characterAt : List (Nat × List ab_O) := [(0, bk_Orders_characterAt_0), (30, bk_Orders_characterAt_30), (31, bk_Orders_characterAt_31)]
abbrev yn_Orders_readOrder : Nat := 84
def bk_Orders_readOrder_0 : List ab_O := [(.aload_n 0, 1, [0], 0), (.aload_n 0, 1, [0], 0), (.getfield 28, 3, [5,4,0,153,0], 0), (.invokevirtual 51, 3, [83,2,0,0,737,739,3,14,5], 0), (.invokestatic 55, 3, [89,1,1,0,741,742,0,14], 0), (.istore_n 1, 1, [1], 0), (.iload_n 1, 1, [1], 0), (.ifCond .ne 5, 3, [18], 0), (.iconst 0, 1, [], 0), (.ireturn, 1, [1], 0)]
def bk_Orders_readOrder_18 : List ab_O := [(.aload_n 0, 1, [0], 0), (.dup, 1, [], 0), (.getfield 28, 3, [5,4,0,153,0], 0), (.iconst 1, 1, [], 1), (.iadd, 1, [], 0), (.putfield 28, 3, [5,4,0,153,0,0], 0), (.iconst 0, 1, [], 0), (.istore_n 2, 1, [2], 0), (.nop, 0, [30], 0)]
def bk_Orders_readOrder_30 : List ab_O := [(.iload_n 2, 1, [2], 0), (.iload_n 1, 1, [1], 0), (.if_icmp .ge 45, 3, [77], 0), (.iload_n 2, 1, [2], 0), (.ifCond .le 14, 3, [50], 0), (.aload_n 0, 1, [0], 0), (.bipush 44, 2, [], 44), (.invokevirtual 58, 3, [85,2,0,0,744,746,4,14,5], 0), (.ifCond .ne 5, 3, [50], 0), (.iconst 0, 1, [], 0), (.ireturn, 1, [1], 0)]
def bk_Orders_readOrder_50 : List ab_O := [(.aload_n 0, 1, [0], 0), (.aload_n 0, 1, [0], 0), (.getfield 28, 3, [5,4,0,153,0], 0), (.invokevirtual 51, 3, [83,2,0,0,737,739,3,14,5], 0), (.invokestatic 62, 3, [90,1,1,0,748,749,0,14], 0), (.ifCond .ne 5, 3, [66], 0), (.iconst 0, 1, [], 0), (.ireturn, 1, [1], 0)]
def bk_Orders_readOrder_66 : List ab_O := [(.aload_n 0, 1, [0], 0), (.iload_n 2, 1, [2], 0), (.invokevirtual 66, 3, [86,2,0,0,751,753,5,14,5], 0), (.iinc 2 1, 3, [2], 1), (.goto (-44), 3, [30], 0)]
def bk_Orders_readOrder_77 : List ab_O := [(.aload_n 0, 1, [0], 0), (.bipush 59, 2, [], 59), (.invokevirtual 58, 3, [85,2,0,0,744,746,4,14,5], 0), (.ireturn, 1, [1], 0)]
def bt_Orders_readOrder : List (Nat × List ab_O) := [(0, bk_Orders_readOrder_0), (18, bk_Orders_readOrder_18), (30, bk_Orders_readOrder_30), (50, bk_Orders_readOrder_50), (66, bk_Orders_readOrder_66), (77, bk_Orders_readOrder_77)]
abbrev yn_Orders_skip : Nat := 85
def bk_Orders_skip_0 : List ab_O := [(.aload_n 0, 1, [0], 0), (.aload_n 0, 1, [0], 0), (.getfield 28, 3, [5,4,0,153,0], 0), (.invokevirtual 51, 3, [83,2,0,0,737,739,3,14,5], 0), (.iload_n 1, 1, [1], 0), (.if_icmp .eq 5, 3, [14], 0), (.iconst 0, 1, [], 0), (.ireturn, 1, [1], 0)]
def bk_Orders_skip_14 : List ab_O := [(.aload_n 0, 1, [0], 0), (.dup, 1, [], 0), (.getfield 28, 3, [5,4,0,153,0], 0), (.iconst 1, 1, [], 1), (.iadd, 1, [], 0), (.putfield 28, 3, [5,4,0,153,0,0], 0), (.iconst 1, 1, [], 1), (.ireturn, 1, [1], 0)]
def bt_Orders_skip : List (Nat × List ab_O) := [(0, bk_Orders_skip_0), (14, bk_Orders_skip_14)]
abbrev yn_Orders_readNumber : Nat := 86
def bk_Orders_readNumber_0 : List ab_O := [(.aload_n 0, 1, [0], 0), (.aload_n 0, 1, [0], 0), (.getfield 28, 3, [5,4,0,153,0], 0), (.invokevirtual 51, 3, [83,2,0,0,737,739,3,14,5], 0), (.bipush 48, 2, [], 48), (.isub, 1, [], 0), (.istore_n 2, 1, [2], 0), (.aload_n 0, 1, [0], 0), (.dup, 1, [], 0), (.getfield 28, 3, [5,4,0,153,0], 0), (.iconst 1, 1, [], 1), (.iadd, 1, [], 0), (.putfield 28, 3, [5,4,0,153,0,0], 0), (.aload_n 0, 1, [0], 0), (.aload_n 0, 1, [0], 0), (.getfield 28, 3, [5,4,0,153,0], 0), (.invokevirtual 51, 3, [83,2,0,0,737,739,3,14,5], 0), (.invokestatic 62, 3, [90,1,1,0,748,749,0,14], 0), (.ifCond .eq 30, 3, [63], 0), (.bipush 10, 2, [], 10), (.iload_n 2, 1, [2], 0), (.imul, 1, [], 0), (.aload_n 0, 1, [0], 0), (.aload_n 0, 1, [0], 0), (.getfield 28, 3, [5,4,0,153,0], 0), (.invokevirtual 51, 3, [83,2,0,0,737,739,3,14,5], 0), (.iadd, 1, [], 0), (.bipush 48, 2, [], 48), (.isub, 1, [], 0), (.istore_n 2, 1, [2], 0), (.aload_n 0, 1, [0], 0), (.dup, 1, [], 0), (.getfield 28, 3, [5,4,0,153,0], 0), (.iconst 1, 1, [], 1), (.iadd, 1, [], 0), (.putfield 28, 3, [5,4,0,153,0,0], 0), (.nop, 0, [63], 0)]
def bk_Orders_readNumber_63 : List ab_O := [(.iload_n 1, 1, [1], 0), (.ifCond .lt 19, 3, [83], 0), (.iload_n 1, 1, [1], 0), (.aload_n 0, 1, [0], 0), (.getfield 15, 3, [5,1,1,148,0], 0), (.arraylength, 1, [], 0), (.if_icmp .ge 10, 3, [83], 0), (.aload_n 0, 1, [0], 0), (.getfield 15, 3, [5,1,1,148,0], 0), (.iload_n 1, 1, [1], 0), (.iload_n 2, 1, [2], 0), (.iastore, 1, [], 0), (.nop, 0, [83], 0)]
def bk_Orders_readNumber_83 : List ab_O := [(.return_, 1, [], 0)]
def bt_Orders_readNumber : List (Nat × List ab_O) := [(0, bk_Orders_readNumber_0), (63, bk_Orders_readNumber_63), (83, bk_Orders_readNumber_83)]
abbrev yn_Orders_number : Nat := 87
def bk_Orders_number_0 : List ab_O := [(.iload_n 1, 1, [1], 0), (.ifCond .lt 21, 3, [22], 0), (.iload_n 1, 1, [1], 0), (.aload_n 0, 1, [0], 0), (.getfield 15, 3, [5,1,1,148,0], 0), (.arraylength, 1, [], 0), (.if_icmp .ge 12, 3, [22], 0), (.aload_n 0, 1, [0], 0), (.getfield 15, 3, [5,1,1,148,0], 0), (.iload_n 1, 1, [1], 0), (.iaload, 1, [], 0), (.goto 4, 3, [23], 0)]
def bk_Orders_number_22 : List ab_O := [(.iconst 0, 1, [], 0), (.nop, 0, [23], 0)]
def bk_Orders_number_23 : List ab_O := [(.ireturn, 1, [0], 0)]
def bt_Orders_number : List (Nat × List ab_O) := [(0, bk_Orders_number_0), (22, bk_Orders_number_22), (23, bk_Orders_number_23)]
abbrev yn_Orders_doOrder : Nat := 88
def bk_Orders_doOrder_0 : List ab_O := [(.aload_n 0, 1, [0], 0), (.aload_n 0, 1, [0], 0), (.getfield 37, 3, [5,3,0,151,0], 0), (.invokevirtual 51, 3, [83,2,0,0,737,739,3,14,5], 0), (.lookupswitch 131 #[(100, 75), (108, 44), (111, 116), (115, 54)], 44, [139,83,52,124,62], 0)]
def bk_Orders_doOrder_52 : List ab_O := [(.aload_n 1, 1, [1], 0), (.aload_n 0, 1, [0], 0), (.iconst 0, 1, [], 0), (.invokevirtual 70, 3, [87,2,0,0,759,761,7,14,5], 0), (.invokevirtual 73, 3, [57,2,0,0,763,334,335,10,6], 0), (.ireturn, 1, [0], 0)]
def bk_Orders_doOrder_62 : List ab_O := [(.aload_n 1, 1, [1], 0), (.aload_n 0, 1, [0], 0), (.iconst 0, 1, [], 0), (.invokevirtual 70, 3, [87,2,0,0,759,761,7,14,5], 0), (.aload_n 0, 1, [0], 0), (.iconst 1, 1, [], 1), (.invokevirtual 70, 3, [87,2,0,0,759,761,7,14,5], 0), (.aload_n 0, 1, [0], 0), (.iconst 2, 1, [], 2), (.invokevirtual 70, 3, [87,2,0,0,759,761,7,14,5], 0), (.iconst (-1), 1, [], (-1)), (.invokevirtual 76, 3, [58,5,0,0,764,349,350,10,6], 0), (.ireturn, 1, [0], 0)]
def bk_Orders_doOrder_83 : List ab_O := [(.aload_n 0, 1, [0], 0), (.iconst 3, 1, [], 3), (.invokevirtual 70, 3, [87,2,0,0,759,761,7,14,5], 0), (.invokestatic 80, 3, [117,1,1,1,765,338,0,9], 0), (.ifCond .eq 30, 3, [121], 0), (.aload_n 1, 1, [1], 0), (.aload_n 0, 1, [0], 0), (.iconst 0, 1, [], 0), (.invokevirtual 70, 3, [87,2,0,0,759,761,7,14,5], 0), (.aload_n 0, 1, [0], 0), (.iconst 1, 1, [], 1), (.invokevirtual 70, 3, [87,2,0,0,759,761,7,14,5], 0), (.aload_n 0, 1, [0], 0), (.iconst 2, 1, [], 2), (.invokevirtual 70, 3, [87,2,0,0,759,761,7,14,5], 0), (.aload_n 0, 1, [0], 0), (.iconst 3, 1, [], 3), (.invokevirtual 70, 3, [87,2,0,0,759,761,7,14,5], 0), (.invokevirtual 76, 3, [58,5,0,0,764,349,350,10,6], 0), (.goto 5, 3, [123], 0)]
def bk_Orders_doOrder_121 : List ab_O := [(.ldc 83, 2, [766], (-1000001)), (.nop, 0, [123], 0)]
def bk_Orders_doOrder_123 : List ab_O := [(.ireturn, 1, [0], 0)]
def bk_Orders_doOrder_124 : List ab_O := [(.aload_n 1, 1, [1], 0), (.aload_n 0, 1, [0], 0), (.iconst 0, 1, [], 0), (.invokevirtual 70, 3, [87,2,0,0,759,761,7,14,5], 0), (.aload_n 0, 1, [0], 0), (.iconst 1, 1, [], 1), (.invokevirtual 70, 3, [87,2,0,0,759,761,7,14,5], 0), (.invokevirtual 84, 3, [59,3,0,0,767,410,411,10,6], 0), (.ireturn, 1, [0], 0)]
def bk_Orders_doOrder_139 : List ab_O := [(.aload_n 1, 1, [1], 0), (.aload_n 0, 1, [0], 0), (.iconst 0, 1, [], 0), (.invokevirtual 70, 3, [87,2,0,0,759,761,7,14,5], 0), (.aload_n 0, 1, [0], 0), (.iconst 1, 1, [], 1), (.invokevirtual 70, 3, [87,2,0,0,759,761,7,14,5], 0), (.iconst 0, 1, [], 0), (.aload_n 2, 1, [2], 0), (.invokevirtual 88, 3, [62,5,0,0,768,474,475,10,6], 0), (.ireturn, 1, [0], 0)]
def bt_Orders_doOrder : List (Nat × List ab_O) := [(0, bk_Orders_doOrder_0), (52, bk_Orders_doOrder_52), (62, bk_Orders_doOrder_62), (83, bk_Orders_doOrder_83), (121, bk_Orders_doOrder_121), (123, bk_Orders_doOrder_123), (124, bk_Orders_doOrder_124), (139, bk_Orders_doOrder_139)]
abbrev yn_Orders_howManyNumbers : Nat := 89
def bk_Orders_howManyNumbers_0 : List ab_O := [(.iload_n 0, 1, [0], 0), (.lookupswitch 59 #[(100, 57), (108, 51), (111, 53), (115, 55), (116, 53)], 51, [60,58,52,54,56,54], 0)]
def bk_Orders_howManyNumbers_52 : List ab_O := [(.iconst 1, 1, [], 1), (.ireturn, 1, [0], 0)]
def bk_Orders_howManyNumbers_54 : List ab_O := [(.iconst 2, 1, [], 2), (.ireturn, 1, [0], 0)]
def bk_Orders_howManyNumbers_56 : List ab_O := [(.iconst 3, 1, [], 3), (.ireturn, 1, [0], 0)]
def bk_Orders_howManyNumbers_58 : List ab_O := [(.iconst 4, 1, [], 4), (.ireturn, 1, [0], 0)]
def bk_Orders_howManyNumbers_60 : List ab_O := [(.iconst 0, 1, [], 0), (.ireturn, 1, [0], 0)]
def bt_Orders_howManyNumbers : List (Nat × List ab_O) := [(0, bk_Orders_howManyNumbers_0), (52, bk_Orders_howManyNumbers_52), (54, bk_Orders_howManyNumbers_54), (56, bk_Orders_howManyNumbers_56), (58, bk_Orders_howManyNumbers_58), (60, bk_Orders_howManyNumbers_60)]
abbrev yn_Orders_isDigit : Nat := 90
def bk_Orders_isDigit_0 : List ab_O := [(.iload_n 0, 1, [0], 0), (.bipush 48, 2, [], 48), (.if_icmp .lt 13, 3, [16], 0), (.iload_n 0, 1, [0], 0), (.bipush 57, 2, [], 57), (.if_icmp .gt 7, 3, [16], 0), (.iconst 1, 1, [], 1), (.goto 4, 3, [17], 0)]
def bk_Orders_isDigit_16 : List ab_O := [(.iconst 0, 1, [], 0), (.nop, 0, [17], 0)]
def bk_Orders_isDigit_17 : List ab_O := [(.ireturn, 1, [1], 0)]
def bt_Orders_isDigit : List (Nat × List ab_O) := [(0, bk_Orders_isDigit_0), (16, bk_Orders_isDigit_16), (17, bk_Orders_isDigit_17)]
abbrev yn_Fair_init : Nat := 91
def bk_Fair_init_0 : List ab_O := [(.aload_n 0, 1, [0], 0), (.invokespecial 3, 3, [999,1,3,0,24,25,26], 0), (.aload_n 0, 1, [0], 0), (.new 9, 3, [6,27,28,10], 0), (.dup, 1, [], 0), (.invokespecial 11, 3, [50,1,2,1,29,30,0,10], 0), (.putfield 12, 3, [7,0,1,221,0,1], 0), (.aload_n 0, 1, [0], 0), (.new 9, 3, [6,27,28,10], 0), (.dup, 1, [], 0), (.invokespecial 11, 3, [50,1,2,1,29,30,0,10], 0), (.putfield 16, 3, [7,1,1,222,0,1], 0), (.aload_n 0, 1, [0], 0), (.new 19, 3, [3,113,114,13], 0), (.dup, 1, [], 0), (.invokespecial 21, 3, [76,1,2,1,115,116,0,13], 0), (.putfield 22, 3, [7,2,1,223,0,1], 0), (.aload_n 0, 1, [0], 0), (.new 26, 3, [5,141,142,14], 0), (.dup, 1, [], 0), (.invokespecial 28, 3, [80,1,2,1,143,144,0,14], 0), (.putfield 29, 3, [7,3,1,224,0,1], 0), (.aload_n 0, 1, [0], 0), (.new 33, 3, [0,177,178,15], 0), (.dup, 1, [], 0), (.invokespecial 35, 3, [41,1,2,1,179,180,0,15], 0), (.putfield 36, 3, [7,4,1,225,0,1], 0), (.aload_n 0, 1, [0], 0), (.new 40, 3, [1,202,203,16], 0), (.dup, 1, [], 0), (.invokespecial 42, 3, [73,1,2,1,204,205,0,16], 0), (.putfield 43, 3, [7,5,1,226,0,1], 0), (.return_, 1, [], 0)]
def bt_Fair_init : List (Nat × List ab_O) := [(0, bk_Fair_init_0)]
abbrev yn_Fair_name : Nat := 92
def bk_Fair_name_0 : List ab_O := [(.aload_n 0, 1, [0], 0), (.getfield 22, 3, [7,2,1,223,0], 0), (.aload_n 0, 1, [0], 0), (.getfield 12, 3, [7,0,1,221,0], 0), (.invokevirtual 47, 3, [77,2,0,0,244,245,246,13,3], 0), (.aload_n 0, 1, [0], 0), (.getfield 22, 3, [7,2,1,223,0], 0), (.aload_n 0, 1, [0], 0), (.getfield 12, 3, [7,0,1,221,0], 0), (.iload_n 1, 1, [1], 0), (.iload_n 2, 1, [2], 0), (.invokevirtual 51, 3, [56,3,0,0,312,313,314,10,6], 0), (.invokevirtual 55, 3, [78,2,0,0,322,323,324,13,3], 0), (.ireturn, 1, [0], 0)]
def bt_Fair_name : List (Nat × List ab_O) := [(0, bk_Fair_name_0)]
abbrev yn_Fair_leaf : Nat := 93
def bk_Fair_leaf_0 : List ab_O := [(.aload_n 0, 1, [0], 0), (.getfield 22, 3, [7,2,1,223,0], 0), (.aload_n 0, 1, [0], 0), (.getfield 12, 3, [7,0,1,221,0], 0), (.invokevirtual 47, 3, [77,2,0,0,244,245,246,13,3], 0), (.aload_n 0, 1, [0], 0), (.getfield 22, 3, [7,2,1,223,0], 0), (.aload_n 0, 1, [0], 0), (.getfield 12, 3, [7,0,1,221,0], 0), (.iload_n 1, 1, [1], 0), (.invokevirtual 59, 3, [57,2,0,0,333,334,335,10,6], 0), (.invokevirtual 55, 3, [78,2,0,0,322,323,324,13,3], 0), (.ireturn, 1, [0], 0)]
def bt_Fair_leaf : List (Nat × List ab_O) := [(0, bk_Fair_leaf_0)]
abbrev yn_Fair_sign : Nat := 94
def bk_Fair_sign_0 : List ab_O := [(.aload_n 0, 1, [0], 0), (.getfield 22, 3, [7,2,1,223,0], 0), (.aload_n 0, 1, [0], 0), (.getfield 12, 3, [7,0,1,221,0], 0), (.invokevirtual 47, 3, [77,2,0,0,244,245,246,13,3], 0), (.aload_n 0, 1, [0], 0), (.getfield 22, 3, [7,2,1,223,0], 0), (.aload_n 0, 1, [0], 0), (.getfield 12, 3, [7,0,1,221,0], 0), (.iload_n 1, 1, [1], 0), (.iload_n 2, 1, [2], 0), (.iload_n 3, 1, [3], 0), (.iconst (-1), 1, [], (-1)), (.invokevirtual 62, 3, [58,5,0,0,348,349,350,10,6], 0), (.invokevirtual 55, 3, [78,2,0,0,322,323,324,13,3], 0), (.ireturn, 1, [0], 0)]
def bt_Fair_sign : List (Nat × List ab_O) := [(0, bk_Fair_sign_0)]
abbrev yn_Fair_over : Nat := 95
def bk_Fair_over_0 : List ab_O := [(.aload_n 0, 1, [0], 0), (.getfield 22, 3, [7,2,1,223,0], 0), (.aload_n 0, 1, [0], 0), (.getfield 12, 3, [7,0,1,221,0], 0), (.invokevirtual 47, 3, [77,2,0,0,244,245,246,13,3], 0), (.aload_n 0, 1, [0], 0), (.getfield 22, 3, [7,2,1,223,0], 0), (.aload_n 0, 1, [0], 0), (.getfield 12, 3, [7,0,1,221,0], 0), (.iload_n 1, 1, [1], 0), (.iload_n 2, 1, [2], 0), (.invokevirtual 66, 3, [59,3,0,0,409,410,411,10,6], 0), (.invokevirtual 55, 3, [78,2,0,0,322,323,324,13,3], 0), (.ireturn, 1, [0], 0)]
def bt_Fair_over : List (Nat × List ab_O) := [(0, bk_Fair_over_0)]
abbrev yn_Fair_dedicate : Nat := 96
def bk_Fair_dedicate_0 : List ab_O := [(.aload_n 0, 1, [0], 0), (.getfield 22, 3, [7,2,1,223,0], 0), (.aload_n 0, 1, [0], 0), (.getfield 12, 3, [7,0,1,221,0], 0), (.invokevirtual 47, 3, [77,2,0,0,244,245,246,13,3], 0), (.aload_n 0, 1, [0], 0), (.getfield 22, 3, [7,2,1,223,0], 0), (.aload_n 0, 1, [0], 0), (.getfield 12, 3, [7,0,1,221,0], 0), (.iload_n 1, 1, [1], 0), (.iload_n 2, 1, [2], 0), (.iload_n 3, 1, [3], 0), (.invokevirtual 69, 3, [60,4,0,0,433,434,435,10,6], 0), (.invokevirtual 55, 3, [78,2,0,0,322,323,324,13,3], 0), (.ireturn, 1, [0], 0)]
def bt_Fair_dedicate : List (Nat × List ab_O) := [(0, bk_Fair_dedicate_0)]
abbrev yn_Fair_move : Nat := 97
def bk_Fair_move_0 : List ab_O := [(.aload_n 0, 1, [0], 0), (.getfield 22, 3, [7,2,1,223,0], 0), (.aload_n 0, 1, [0], 0), (.getfield 12, 3, [7,0,1,221,0], 0), (.invokevirtual 47, 3, [77,2,0,0,244,245,246,13,3], 0), (.aload_n 0, 1, [0], 0), (.getfield 22, 3, [7,2,1,223,0], 0), (.aload_n 0, 1, [0], 0), (.getfield 12, 3, [7,0,1,221,0], 0), (.iload_n 1, 1, [1], 0), (.iload_n 2, 1, [2], 0), (.aload_n 0, 1, [0], 0), (.getfield 36, 3, [7,4,1,225,0], 0), (.invokevirtual 73, 3, [61,4,0,0,446,447,448,10,6], 0), (.invokevirtual 55, 3, [78,2,0,0,322,323,324,13,3], 0), (.ireturn, 1, [0], 0)]
def bt_Fair_move : List (Nat × List ab_O) := [(0, bk_Fair_move_0)]
abbrev yn_Fair_trade : Nat := 98
def bk_Fair_trade_0 : List ab_O := [(.aload_n 0, 1, [0], 0), (.getfield 22, 3, [7,2,1,223,0], 0), (.aload_n 0, 1, [0], 0), (.getfield 12, 3, [7,0,1,221,0], 0), (.invokevirtual 47, 3, [77,2,0,0,244,245,246,13,3], 0), (.aload_n 0, 1, [0], 0), (.getfield 22, 3, [7,2,1,223,0], 0), (.aload_n 0, 1, [0], 0), (.getfield 12, 3, [7,0,1,221,0], 0), (.iload_n 1, 1, [1], 0), (.iload_n 2, 1, [2], 0), (.iload_n 3, 1, [3], 0), (.aload_n 0, 1, [0], 0), (.getfield 36, 3, [7,4,1,225,0], 0), (.invokevirtual 77, 3, [62,5,0,0,473,474,475,10,6], 0), (.invokevirtual 55, 3, [78,2,0,0,322,323,324,13,3], 0), (.ireturn, 1, [0], 0)]
def bt_Fair_trade : List (Nat × List ab_O) := [(0, bk_Fair_trade_0)]
abbrev yn_Fair_tear : Nat := 99
def bk_Fair_tear_0 : List ab_O := [(.aload_n 0, 1, [0], 0), (.getfield 22, 3, [7,2,1,223,0], 0), (.aload_n 0, 1, [0], 0), (.getfield 12, 3, [7,0,1,221,0], 0), (.invokevirtual 47, 3, [77,2,0,0,244,245,246,13,3], 0), (.aload_n 0, 1, [0], 0), (.getfield 22, 3, [7,2,1,223,0], 0), (.aload_n 0, 1, [0], 0), (.getfield 12, 3, [7,0,1,221,0], 0), (.iload_n 1, 1, [1], 0), (.aload_n 0, 1, [0], 0), (.getfield 36, 3, [7,4,1,225,0], 0), (.invokevirtual 81, 3, [63,3,0,0,501,502,503,10,6], 0), (.invokevirtual 55, 3, [78,2,0,0,322,323,324,13,3], 0), (.ireturn, 1, [0], 0)]
def bt_Fair_tear : List (Nat × List ab_O) := [(0, bk_Fair_tear_0)]
abbrev yn_Fair_coins : Nat := 100
def bk_Fair_coins_0 : List ab_O := [(.aload_n 0, 1, [0], 0), (.getfield 22, 3, [7,2,1,223,0], 0), (.aload_n 0, 1, [0], 0), (.getfield 12, 3, [7,0,1,221,0], 0), (.invokevirtual 47, 3, [77,2,0,0,244,245,246,13,3], 0), (.aload_n 0, 1, [0], 0), (.getfield 22, 3, [7,2,1,223,0], 0), (.aload_n 0, 1, [0], 0), (.getfield 12, 3, [7,0,1,221,0], 0), (.iload_n 1, 1, [1], 0), (.iload_n 2, 1, [2], 0), (.invokevirtual 85, 3, [64,3,0,0,510,511,512,10,6], 0), (.invokevirtual 55, 3, [78,2,0,0,322,323,324,13,3], 0), (.ireturn, 1, [0], 0)]
def bt_Fair_coins : List (Nat × List ab_O) := [(0, bk_Fair_coins_0)]
abbrev yn_Fair_pageOf : Nat := 101
def bk_Fair_pageOf_0 : List ab_O := [(.aload_n 0, 1, [0], 0), (.getfield 12, 3, [7,0,1,221,0], 0), (.iload_n 1, 1, [1], 0), (.invokevirtual 88, 3, [53,2,0,0,518,353,354,10,6], 0), (.astore 4, 2, [4], 0), (.aload 4, 2, [4], 0), (.ifnull 19, 3, [31], 0), (.iload_n 2, 1, [2], 0), (.invokestatic 92, 3, [119,1,1,0,639,361,0,9], 0), (.ifCond .eq 12, 3, [31], 0), (.iload_n 3, 1, [3], 0), (.ifCond .lt 8, 3, [31], 0), (.iload_n 3, 1, [3], 0), (.iconst 3, 1, [], 3), (.if_icmp .le 6, 3, [34], 0), (.nop, 0, [31], 0)]
def bk_Fair_pageOf_31 : List ab_O := [(.ldc 96, 2, [519], (-1000001)), (.ireturn, 1, [0], 0)]
def bk_Fair_pageOf_34 : List ab_O := [(.iconst 2, 1, [], 2), (.aload 4, 2, [4], 0), (.iload_n 1, 1, [1], 0), (.invokevirtual 97, 3, [15,2,0,0,520,357,358,12,2], 0), (.imul, 1, [], 0), (.iload_n 2, 1, [2], 0), (.iadd, 1, [], 0), (.istore 5, 2, [5], 0), (.aload 4, 2, [4], 0), (.iload 5, 2, [5], 0), (.invokevirtual 102, 3, [12,2,0,0,640,289,290,12,2], 0), (.ifCond .ne 6, 3, [59], 0), (.ldc 105, 2, [634], (-1000004)), (.ireturn, 1, [0], 0)]
def bk_Fair_pageOf_59 : List ab_O := [(.iload_n 3, 1, [3], 0), (.tableswitch 77 0 2 #[28, 36, 60], 28, [137,88,96,120], 0)]
def bk_Fair_pageOf_88 : List ab_O := [(.aload 4, 2, [4], 0), (.iload 5, 2, [5], 0), (.invokevirtual 106, 3, [13,2,0,0,641,293,294,12,2], 0), (.ireturn, 1, [0], 0)]
def bk_Fair_pageOf_96 : List ab_O := [(.aload 4, 2, [4], 0), (.iload 5, 2, [5], 0), (.invokevirtual 109, 3, [14,2,0,0,642,297,298,12,2], 0), (.iconst (-1), 1, [], (-1)), (.if_icmp .ne 8, 3, [112], 0), (.ldc 105, 2, [634], (-1000004)), (.goto 10, 3, [119], 0)]
def bk_Fair_pageOf_112 : List ab_O := [(.aload 4, 2, [4], 0), (.iload 5, 2, [5], 0), (.invokevirtual 109, 3, [14,2,0,0,642,297,298,12,2], 0), (.nop, 0, [119], 0)]
def bk_Fair_pageOf_119 : List ab_O := [(.ireturn, 1, [0], 0)]
def bk_Fair_pageOf_120 : List ab_O := [(.aload 4, 2, [4], 0), (.iload 5, 2, [5], 0), (.invokevirtual 102, 3, [12,2,0,0,640,289,290,12,2], 0), (.iconst 1, 1, [], 1), (.if_icmp .ne 7, 3, [135], 0), (.iconst 0, 1, [], 0), (.goto 4, 3, [136], 0)]
def bk_Fair_pageOf_135 : List ab_O := [(.iconst 1, 1, [], 1), (.nop, 0, [136], 0)]
def bk_Fair_pageOf_136 : List ab_O := [(.ireturn, 1, [0], 0)]
def bk_Fair_pageOf_137 : List ab_O := [(.aload 4, 2, [4], 0), (.iload 5, 2, [5], 0), (.aload_n 0, 1, [0], 0), (.getfield 12, 3, [7,0,1,221,0], 0), (.getfield 112, 3, [6,0,1,86,1], 0), (.invokevirtual 116, 3, [23,3,0,0,643,644,645,12,2], 0), (.ireturn, 1, [0], 0)]
def bt_Fair_pageOf : List (Nat × List ab_O) := [(0, bk_Fair_pageOf_0), (31, bk_Fair_pageOf_31), (34, bk_Fair_pageOf_34), (59, bk_Fair_pageOf_59), (88, bk_Fair_pageOf_88), (96, bk_Fair_pageOf_96), (112, bk_Fair_pageOf_112), (119, bk_Fair_pageOf_119), (120, bk_Fair_pageOf_120), (135, bk_Fair_pageOf_135), (136, bk_Fair_pageOf_136), (137, bk_Fair_pageOf_137)]
abbrev yn_Fair_leafOf : Nat := 102
def bk_Fair_leafOf_0 : List ab_O := [(.aload_n 0, 1, [0], 0), (.getfield 12, 3, [7,0,1,221,0], 0), (.iload_n 1, 1, [1], 0), (.invokevirtual 88, 3, [53,2,0,0,518,353,354,10,6], 0), (.astore_n 3, 1, [3], 0), (.aload_n 3, 1, [3], 0), (.ifnull 12, 3, [22], 0), (.iload_n 2, 1, [2], 0), (.ifCond .lt 8, 3, [22], 0), (.iload_n 2, 1, [2], 0), (.iconst 3, 1, [], 3), (.if_icmp .le 6, 3, [25], 0), (.nop, 0, [22], 0)]
def bk_Fair_leafOf_22 : List ab_O := [(.ldc 96, 2, [519], (-1000001)), (.ireturn, 1, [0], 0)]
def bk_Fair_leafOf_25 : List ab_O := [(.aload_n 3, 1, [3], 0), (.iload_n 1, 1, [1], 0), (.invokevirtual 97, 3, [15,2,0,0,520,357,358,12,2], 0), (.istore 4, 2, [4], 0), (.iload_n 2, 1, [2], 0), (.tableswitch 42 0 2 #[27, 32, 35], 27, [75,60,65,68], 0)]
def bk_Fair_leafOf_60 : List ab_O := [(.aload_n 3, 1, [3], 0), (.getfield 120, 3, [2,4,0,64,1], 0), (.ireturn, 1, [0], 0)]
def bk_Fair_leafOf_65 : List ab_O := [(.iload 4, 2, [4], 0), (.ireturn, 1, [0], 0)]
def bk_Fair_leafOf_68 : List ab_O := [(.aload_n 3, 1, [3], 0), (.iload 4, 2, [4], 0), (.invokevirtual 124, 3, [32,2,0,0,521,414,415,12,2], 0), (.ireturn, 1, [0], 0)]
def bk_Fair_leafOf_75 : List ab_O := [(.aload_n 3, 1, [3], 0), (.iload 4, 2, [4], 0), (.invokevirtual 127, 3, [30,2,0,0,522,426,427,12,2], 0), (.ireturn, 1, [0], 0)]
def bt_Fair_leafOf : List (Nat × List ab_O) := [(0, bk_Fair_leafOf_0), (22, bk_Fair_leafOf_22), (25, bk_Fair_leafOf_25), (60, bk_Fair_leafOf_60), (65, bk_Fair_leafOf_65), (68, bk_Fair_leafOf_68), (75, bk_Fair_leafOf_75)]
abbrev yn_Fair_at : Nat := 103
def bk_Fair_at_0 : List ab_O := [(.iload_n 1, 1, [1], 0), (.invokestatic 130, 3, [117,1,1,0,590,338,0,9], 0), (.ifCond .eq 7, 3, [11], 0), (.iload_n 2, 1, [2], 0), (.ifCond .ge 6, 3, [14], 0), (.nop, 0, [11], 0)]
def bk_Fair_at_11 : List ab_O := [(.ldc 96, 2, [519], (-1000001)), (.ireturn, 1, [0], 0)]
def bk_Fair_at_14 : List ab_O := [(.aload_n 0, 1, [0], 0), (.getfield 12, 3, [7,0,1,221,0], 0), (.iload_n 1, 1, [1], 0), (.invokevirtual 133, 3, [52,2,0,0,591,269,270,10,6], 0), (.astore_n 3, 1, [3], 0), (.iload_n 2, 1, [2], 0), (.aload_n 3, 1, [3], 0), (.getfield 136, 3, [2,5,0,70,1], 0), (.if_icmp .ge 11, 3, [39], 0), (.aload_n 3, 1, [3], 0), (.iload_n 2, 1, [2], 0), (.invokevirtual 139, 3, [11,2,0,0,633,285,286,12,2], 0), (.goto 5, 3, [41], 0)]
def bk_Fair_at_39 : List ab_O := [(.ldc 105, 2, [634], (-1000004)), (.nop, 0, [41], 0)]
def bk_Fair_at_41 : List ab_O := [(.ireturn, 1, [0], 0)]
def bt_Fair_at : List (Nat × List ab_O) := [(0, bk_Fair_at_0), (11, bk_Fair_at_11), (14, bk_Fair_at_14), (39, bk_Fair_at_39), (41, bk_Fair_at_41)]
abbrev yn_Fair_collectorOf : Nat := 104
def bk_Fair_collectorOf_0 : List ab_O := [(.iload_n 1, 1, [1], 0), (.invokestatic 130, 3, [117,1,1,0,590,338,0,9], 0), (.ifCond .ne 6, 3, [10], 0), (.ldc 96, 2, [519], (-1000001)), (.ireturn, 1, [0], 0)]
def bk_Fair_collectorOf_10 : List ab_O := [(.aload_n 0, 1, [0], 0), (.getfield 12, 3, [7,0,1,221,0], 0), (.iload_n 1, 1, [1], 0), (.invokevirtual 133, 3, [52,2,0,0,591,269,270,10,6], 0), (.astore_n 3, 1, [3], 0), (.iload_n 2, 1, [2], 0), (.tableswitch 120 0 8 #[52, 61, 66, 71, 83, 92, 97, 109, 114], 52, [140,72,81,86,91,103,112,117,129,134], 0)]
def bk_Fair_collectorOf_72 : List ab_O := [(.aload_n 0, 1, [0], 0), (.getfield 12, 3, [7,0,1,221,0], 0), (.iload_n 1, 1, [1], 0), (.invokevirtual 142, 3, [54,2,0,0,592,305,306,10,6], 0), (.ireturn, 1, [0], 0)]
def bk_Fair_collectorOf_81 : List ab_O := [(.aload_n 3, 1, [3], 0), (.getfield 136, 3, [2,5,0,70,1], 0), (.ireturn, 1, [0], 0)]
def bk_Fair_collectorOf_86 : List ab_O := [(.aload_n 3, 1, [3], 0), (.invokevirtual 145, 3, [17,1,0,0,593,536,537,12,2], 0), (.ireturn, 1, [0], 0)]
def bk_Fair_collectorOf_91 : List ab_O := [(.aload_n 3, 1, [3], 0), (.aload_n 0, 1, [0], 0), (.getfield 12, 3, [7,0,1,221,0], 0), (.getfield 112, 3, [6,0,1,86,1], 0), (.invokevirtual 149, 3, [27,2,0,0,594,371,372,12,2], 0), (.ireturn, 1, [0], 0)]
def bk_Fair_collectorOf_103 : List ab_O := [(.aload_n 0, 1, [0], 0), (.getfield 12, 3, [7,0,1,221,0], 0), (.iload_n 1, 1, [1], 0), (.invokevirtual 153, 3, [65,2,0,0,595,544,545,10,6], 0), (.ireturn, 1, [0], 0)]
def bk_Fair_collectorOf_112 : List ab_O := [(.aload_n 3, 1, [3], 0), (.invokevirtual 156, 3, [21,1,0,0,596,597,598,12,2], 0), (.ireturn, 1, [0], 0)]
def bk_Fair_collectorOf_117 : List ab_O := [(.aload_n 3, 1, [3], 0), (.aload_n 0, 1, [0], 0), (.getfield 12, 3, [7,0,1,221,0], 0), (.getfield 112, 3, [6,0,1,86,1], 0), (.invokevirtual 159, 3, [26,2,0,0,600,388,389,12,2], 0), (.ireturn, 1, [0], 0)]
def bk_Fair_collectorOf_129 : List ab_O := [(.aload_n 3, 1, [3], 0), (.invokevirtual 162, 3, [33,1,0,0,601,602,603,12,2], 0), (.ireturn, 1, [0], 0)]
def bk_Fair_collectorOf_134 : List ab_O := [(.aload_n 3, 1, [3], 0), (.iload_n 1, 1, [1], 0), (.invokevirtual 165, 3, [19,2,0,0,609,561,562,12,2], 0), (.ireturn, 1, [0], 0)]
def bk_Fair_collectorOf_140 : List ab_O := [(.ldc 96, 2, [519], (-1000001)), (.ireturn, 1, [0], 0)]
def bt_Fair_collectorOf : List (Nat × List ab_O) := [(0, bk_Fair_collectorOf_0), (10, bk_Fair_collectorOf_10), (72, bk_Fair_collectorOf_72), (81, bk_Fair_collectorOf_81), (86, bk_Fair_collectorOf_86), (91, bk_Fair_collectorOf_91), (103, bk_Fair_collectorOf_103), (112, bk_Fair_collectorOf_112), (117, bk_Fair_collectorOf_117), (129, bk_Fair_collectorOf_129), (134, bk_Fair_collectorOf_134), (140, bk_Fair_collectorOf_140)]
abbrev yn_Fair_nameOf : Nat := 105
def bk_Fair_nameOf_0 : List ab_O := [(.aload_n 0, 1, [0], 0), (.getfield 12, 3, [7,0,1,221,0], 0), (.getfield 112, 3, [6,0,1,86,1], 0), (.iload_n 1, 1, [1], 0), (.invokevirtual 168, 3, [4,2,0,0,614,364,365,11,4], 0), (.ifCond .ne 6, 3, [17], 0), (.ldc 96, 2, [519], (-1000001)), (.ireturn, 1, [0], 0)]
def bk_Fair_nameOf_17 : List ab_O := [(.iload_n 2, 1, [2], 0), (.tableswitch 72 0 3 #[30, 42, 54, 63], 30, [90,48,60,72,81], 0)]
def bk_Fair_nameOf_48 : List ab_O := [(.aload_n 0, 1, [0], 0), (.getfield 12, 3, [7,0,1,221,0], 0), (.getfield 112, 3, [6,0,1,86,1], 0), (.iload_n 1, 1, [1], 0), (.invokevirtual 173, 3, [5,2,0,0,615,257,258,11,4], 0), (.ireturn, 1, [0], 0)]
def bk_Fair_nameOf_60 : List ab_O := [(.aload_n 0, 1, [0], 0), (.getfield 12, 3, [7,0,1,221,0], 0), (.getfield 112, 3, [6,0,1,86,1], 0), (.iload_n 1, 1, [1], 0), (.invokevirtual 176, 3, [6,2,0,0,616,261,262,11,4], 0), (.ireturn, 1, [0], 0)]
def bk_Fair_nameOf_72 : List ab_O := [(.aload_n 0, 1, [0], 0), (.getfield 12, 3, [7,0,1,221,0], 0), (.iload_n 1, 1, [1], 0), (.invokevirtual 179, 3, [71,2,0,0,617,618,619,10,6], 0), (.ireturn, 1, [0], 0)]
def bk_Fair_nameOf_81 : List ab_O := [(.aload_n 0, 1, [0], 0), (.getfield 12, 3, [7,0,1,221,0], 0), (.iload_n 1, 1, [1], 0), (.invokevirtual 182, 3, [72,2,0,0,625,626,627,10,6], 0), (.ireturn, 1, [0], 0)]
def bk_Fair_nameOf_90 : List ab_O := [(.ldc 96, 2, [519], (-1000001)), (.ireturn, 1, [0], 0)]
def bt_Fair_nameOf : List (Nat × List ab_O) := [(0, bk_Fair_nameOf_0), (17, bk_Fair_nameOf_17), (48, bk_Fair_nameOf_48), (60, bk_Fair_nameOf_60), (72, bk_Fair_nameOf_72), (81, bk_Fair_nameOf_81), (90, bk_Fair_nameOf_90)]
abbrev yn_Fair_gain : Nat := 106
def bk_Fair_gain_0 : List ab_O := [(.aload_n 0, 1, [0], 0), (.getfield 12, 3, [7,0,1,221,0], 0), (.iload_n 1, 1, [1], 0), (.invokevirtual 88, 3, [53,2,0,0,518,353,354,10,6], 0), (.astore 5, 2, [5], 0), (.aload_n 0, 1, [0], 0), (.getfield 12, 3, [7,0,1,221,0], 0), (.iload_n 2, 1, [2], 0), (.invokevirtual 88, 3, [53,2,0,0,518,353,354,10,6], 0), (.astore 6, 2, [6], 0), (.aload 5, 2, [5], 0), (.ifnull 26, 3, [48], 0), (.aload 6, 2, [6], 0), (.ifnull 21, 3, [48], 0), (.iload_n 3, 1, [3], 0), (.invokestatic 185, 3, [120,1,1,0,660,478,0,9], 0), (.ifCond .eq 14, 3, [48], 0), (.iload 4, 2, [4], 0), (.ifCond .lt 9, 3, [48], 0), (.iload 4, 2, [4], 0), (.iconst 1, 1, [], 1), (.if_icmp .le 6, 3, [51], 0), (.nop, 0, [48], 0)]
def bk_Fair_gain_48 : List ab_O := [(.ldc 96, 2, [519], (-1000001)), (.ireturn, 1, [0], 0)]
def bk_Fair_gain_51 : List ab_O := [(.aload 5, 2, [5], 0), (.getfield 120, 3, [2,4,0,64,1], 0), (.aload 6, 2, [6], 0), (.getfield 120, 3, [2,4,0,64,1], 0), (.if_icmp .ne 6, 3, [67], 0), (.ldc 188, 2, [568], (-1000002)), (.ireturn, 1, [0], 0)]
def bk_Fair_gain_67 : List ab_O := [(.aload_n 0, 1, [0], 0), (.getfield 36, 3, [7,4,1,225,0], 0), (.aload 5, 2, [5], 0), (.aload 5, 2, [5], 0), (.iload_n 1, 1, [1], 0), (.invokevirtual 97, 3, [15,2,0,0,520,357,358,12,2], 0), (.aload 6, 2, [6], 0), (.aload 6, 2, [6], 0), (.iload_n 2, 1, [2], 0), (.invokevirtual 97, 3, [15,2,0,0,520,357,358,12,2], 0), (.invokevirtual 189, 3, [44,5,0,0,661,481,482,15,0], 0), (.iload 4, 2, [4], 0), (.ifCond .ne 22, 3, [114], 0), (.aload_n 0, 1, [0], 0), (.getfield 36, 3, [7,4,1,225,0], 0), (.aload_n 0, 1, [0], 0), (.getfield 12, 3, [7,0,1,221,0], 0), (.getfield 112, 3, [6,0,1,86,1], 0), (.invokevirtual 193, 3, [47,2,0,0,662,663,664,15,0], 0), (.iload_n 3, 1, [3], 0), (.isub, 1, [], 0), (.goto 19, 3, [130], 0)]
def bk_Fair_gain_114 : List ab_O := [(.aload_n 0, 1, [0], 0), (.getfield 36, 3, [7,4,1,225,0], 0), (.aload_n 0, 1, [0], 0), (.getfield 12, 3, [7,0,1,221,0], 0), (.getfield 112, 3, [6,0,1,86,1], 0), (.invokevirtual 196, 3, [48,2,0,0,667,668,669,15,0], 0), (.iload_n 3, 1, [3], 0), (.iadd, 1, [], 0), (.nop, 0, [130], 0)]
def bk_Fair_gain_130 : List ab_O := [(.istore 7, 2, [7], 0), (.iload 7, 2, [7], 0), (.ldc 199, 2, [671], 100000), (.iadd, 1, [], 0), (.ireturn, 1, [0], 0)]
def bt_Fair_gain : List (Nat × List ab_O) := [(0, bk_Fair_gain_0), (48, bk_Fair_gain_48), (51, bk_Fair_gain_51), (67, bk_Fair_gain_67), (114, bk_Fair_gain_114), (130, bk_Fair_gain_130)]
abbrev yn_Fair_fair : Nat := 107
def bk_Fair_fair_0 : List ab_O := [(.aload_n 0, 1, [0], 0), (.getfield 12, 3, [7,0,1,221,0], 0), (.iload_n 1, 1, [1], 0), (.invokevirtual 88, 3, [53,2,0,0,518,353,354,10,6], 0), (.astore_n 3, 1, [3], 0), (.aload_n 0, 1, [0], 0), (.getfield 12, 3, [7,0,1,221,0], 0), (.iload_n 2, 1, [2], 0), (.invokevirtual 88, 3, [53,2,0,0,518,353,354,10,6], 0), (.astore 4, 2, [4], 0), (.aload_n 3, 1, [3], 0), (.ifnull 8, 3, [28], 0), (.aload 4, 2, [4], 0), (.ifnonnull 6, 3, [31], 0), (.nop, 0, [28], 0)]
def bk_Fair_fair_28 : List ab_O := [(.ldc 96, 2, [519], (-1000001)), (.ireturn, 1, [0], 0)]
def bk_Fair_fair_31 : List ab_O := [(.aload_n 3, 1, [3], 0), (.getfield 120, 3, [2,4,0,64,1], 0), (.aload 4, 2, [4], 0), (.getfield 120, 3, [2,4,0,64,1], 0), (.if_icmp .ne 6, 3, [46], 0), (.ldc 188, 2, [568], (-1000002)), (.ireturn, 1, [0], 0)]
def bk_Fair_fair_46 : List ab_O := [(.aload_n 0, 1, [0], 0), (.getfield 36, 3, [7,4,1,225,0], 0), (.aload_n 3, 1, [3], 0), (.aload_n 3, 1, [3], 0), (.iload_n 1, 1, [1], 0), (.invokevirtual 97, 3, [15,2,0,0,520,357,358,12,2], 0), (.aload 4, 2, [4], 0), (.aload 4, 2, [4], 0), (.iload_n 2, 1, [2], 0), (.invokevirtual 97, 3, [15,2,0,0,520,357,358,12,2], 0), (.invokevirtual 189, 3, [44,5,0,0,661,481,482,15,0], 0), (.iconst 1, 1, [], 1), (.aload_n 0, 1, [0], 0), (.getfield 36, 3, [7,4,1,225,0], 0), (.aload_n 0, 1, [0], 0), (.getfield 12, 3, [7,0,1,221,0], 0), (.getfield 112, 3, [6,0,1,86,1], 0), (.invokevirtual 196, 3, [48,2,0,0,667,668,669,15,0], 0), (.isub, 1, [], 0), (.sipush (-9999), 3, [], (-9999)), (.invokestatic 200, 3, [997,2,5,0,676,677,18,678], 0), (.istore 5, 2, [5], 0), (.aload_n 0, 1, [0], 0), (.getfield 36, 3, [7,4,1,225,0], 0), (.aload_n 0, 1, [0], 0), (.getfield 12, 3, [7,0,1,221,0], 0), (.getfield 112, 3, [6,0,1,86,1], 0), (.invokevirtual 193, 3, [47,2,0,0,662,663,664,15,0], 0), (.iconst 1, 1, [], 1), (.isub, 1, [], 0), (.sipush 9999, 3, [], 9999), (.invokestatic 205, 3, [997,2,6,0,679,327,18,328], 0), (.istore 6, 2, [6], 0), (.iload 5, 2, [5], 0), (.iload 6, 2, [6], 0), (.if_icmp .gt 12, 3, [131], 0), (.iload 5, 2, [5], 0), (.sipush 10000, 3, [], 10000), (.iadd, 1, [], 0), (.goto 5, 3, [133], 0)]
def bk_Fair_fair_131 : List ab_O := [(.ldc 105, 2, [634], (-1000004)), (.nop, 0, [133], 0)]
def bk_Fair_fair_133 : List ab_O := [(.ireturn, 1, [0], 0)]
def bt_Fair_fair : List (Nat × List ab_O) := [(0, bk_Fair_fair_0), (28, bk_Fair_fair_28), (31, bk_Fair_fair_31), (46, bk_Fair_fair_46), (131, bk_Fair_fair_131), (133, bk_Fair_fair_133)]
abbrev yn_Fair_best : Nat := 108
def bk_Fair_best_0 : List ab_O := [(.iload_n 1, 1, [1], 0), (.invokestatic 130, 3, [117,1,1,0,590,338,0,9], 0), (.ifCond .eq 12, 3, [16], 0), (.iload_n 2, 1, [2], 0), (.ifCond .lt 8, 3, [16], 0), (.iload_n 2, 1, [2], 0), (.iconst 2, 1, [], 2), (.if_icmp .le 6, 3, [19], 0), (.nop, 0, [16], 0)]
def bk_Fair_best_16 : List ab_O := [(.ldc 96, 2, [519], (-1000001)), (.ireturn, 1, [0], 0)]
def bk_Fair_best_19 : List ab_O := [(.aload_n 0, 1, [0], 0), (.getfield 43, 3, [7,5,1,226,0], 0), (.aload_n 0, 1, [0], 0), (.getfield 12, 3, [7,0,1,221,0], 0), (.iload_n 1, 1, [1], 0), (.aload_n 0, 1, [0], 0), (.getfield 36, 3, [7,4,1,225,0], 0), (.invokevirtual 208, 3, [74,4,0,0,684,685,686,16,1], 0), (.aload_n 0, 1, [0], 0), (.getfield 43, 3, [7,5,1,226,0], 0), (.getfield 212, 3, [1,2,0,213,1], 0), (.ifCond .ne 6, 3, [48], 0), (.ldc 105, 2, [634], (-1000004)), (.ireturn, 1, [0], 0)]
def bk_Fair_best_48 : List ab_O := [(.iload_n 2, 1, [2], 0), (.lookupswitch 43 #[(0, 27), (1, 35)], 27, [92,76,84], 0)]
def bk_Fair_best_76 : List ab_O := [(.aload_n 0, 1, [0], 0), (.getfield 43, 3, [7,5,1,226,0], 0), (.getfield 215, 3, [1,0,0,209,1], 0), (.ireturn, 1, [0], 0)]
def bk_Fair_best_84 : List ab_O := [(.aload_n 0, 1, [0], 0), (.getfield 43, 3, [7,5,1,226,0], 0), (.getfield 218, 3, [1,1,0,211,1], 0), (.ireturn, 1, [0], 0)]
def bk_Fair_best_92 : List ab_O := [(.aload_n 0, 1, [0], 0), (.getfield 43, 3, [7,5,1,226,0], 0), (.getfield 212, 3, [1,2,0,213,1], 0), (.ireturn, 1, [0], 0)]
def bt_Fair_best : List (Nat × List ab_O) := [(0, bk_Fair_best_0), (16, bk_Fair_best_16), (19, bk_Fair_best_19), (48, bk_Fair_best_48), (76, bk_Fair_best_76), (84, bk_Fair_best_84), (92, bk_Fair_best_92)]
abbrev yn_Fair_missing : Nat := 109
def bk_Fair_missing_0 : List ab_O := [(.iload_n 1, 1, [1], 0), (.invokestatic 130, 3, [117,1,1,0,590,338,0,9], 0), (.ifCond .eq 10, 3, [14], 0), (.iload_n 2, 1, [2], 0), (.invokestatic 221, 3, [118,1,1,0,703,317,0,9], 0), (.ifCond .ne 6, 3, [17], 0), (.nop, 0, [14], 0)]
def bk_Fair_missing_14 : List ab_O := [(.ldc 96, 2, [519], (-1000001)), (.ireturn, 1, [0], 0)]
def bk_Fair_missing_17 : List ab_O := [(.aload_n 0, 1, [0], 0), (.getfield 12, 3, [7,0,1,221,0], 0), (.getfield 112, 3, [6,0,1,86,1], 0), (.iload_n 2, 1, [2], 0), (.invokevirtual 224, 3, [7,2,0,0,704,396,397,11,4], 0), (.aload_n 0, 1, [0], 0), (.getfield 12, 3, [7,0,1,221,0], 0), (.iload_n 1, 1, [1], 0), (.invokevirtual 133, 3, [52,2,0,0,591,269,270,10,6], 0), (.invokevirtual 156, 3, [21,1,0,0,596,597,598,12,2], 0), (.iconst (-1), 1, [], (-1)), (.ixor, 1, [], 0), (.iand, 1, [], 0), (.ireturn, 1, [0], 0)]
def bt_Fair_missing : List (Nat × List ab_O) := [(0, bk_Fair_missing_0), (14, bk_Fair_missing_14), (17, bk_Fair_missing_17)]
abbrev yn_Fair_mean : Nat := 110
def bk_Fair_mean_0 : List ab_O := [(.iload_n 1, 1, [1], 0), (.invokestatic 130, 3, [117,1,1,0,590,338,0,9], 0), (.ifCond .ne 6, 3, [10], 0), (.ldc 96, 2, [519], (-1000001)), (.ireturn, 1, [0], 0)]
def bk_Fair_mean_10 : List ab_O := [(.aload_n 0, 1, [0], 0), (.getfield 12, 3, [7,0,1,221,0], 0), (.iload_n 1, 1, [1], 0), (.invokevirtual 133, 3, [52,2,0,0,591,269,270,10,6], 0), (.astore_n 2, 1, [2], 0), (.aload_n 2, 1, [2], 0), (.invokevirtual 145, 3, [17,1,0,0,593,536,537,12,2], 0), (.istore_n 3, 1, [3], 0), (.iload_n 3, 1, [3], 0), (.ifCond .gt 6, 3, [31], 0), (.ldc 105, 2, [634], (-1000004)), (.ireturn, 1, [0], 0)]
def bk_Fair_mean_31 : List ab_O := [(.aload_n 2, 1, [2], 0), (.aload_n 0, 1, [0], 0), (.getfield 12, 3, [7,0,1,221,0], 0), (.getfield 112, 3, [6,0,1,86,1], 0), (.invokevirtual 227, 3, [25,2,0,0,709,375,376,12,2], 0), (.i2f, 1, [], 0), (.iload_n 3, 1, [3], 0), (.i2f, 1, [], 0), (.fdiv, 1, [], 0), (.invokestatic 230, 3, [121,1,1,0,710,711,0,9], 0), (.ireturn, 1, [0], 0)]
def bt_Fair_mean : List (Nat × List ab_O) := [(0, bk_Fair_mean_0), (10, bk_Fair_mean_10), (31, bk_Fair_mean_31)]
abbrev yn_Fair_count : Nat := 111
def bk_Fair_count_0 : List ab_O := [(.iload_n 1, 1, [1], 0), (.tableswitch 138 0 9 #[55, 66, 74, 82, 90, 98, 106, 114, 122, 130], 55, [139,56,67,75,83,91,99,107,115,123,131], 0)]
def bk_Fair_count_56 : List ab_O := [(.aload_n 0, 1, [0], 0), (.getfield 12, 3, [7,0,1,221,0], 0), (.getfield 112, 3, [6,0,1,86,1], 0), (.getfield 234, 3, [4,2,0,43,1], 0), (.ireturn, 1, [0], 0)]
def bk_Fair_count_67 : List ab_O := [(.aload_n 0, 1, [0], 0), (.getfield 12, 3, [7,0,1,221,0], 0), (.invokevirtual 235, 3, [68,1,0,0,527,528,529,10,6], 0), (.ireturn, 1, [0], 0)]
def bk_Fair_count_75 : List ab_O := [(.aload_n 0, 1, [0], 0), (.getfield 12, 3, [7,0,1,221,0], 0), (.invokevirtual 238, 3, [69,1,0,0,531,532,533,10,6], 0), (.ireturn, 1, [0], 0)]
def bk_Fair_count_83 : List ab_O := [(.aload_n 0, 1, [0], 0), (.getfield 12, 3, [7,0,1,221,0], 0), (.getfield 239, 3, [6,6,0,93,1], 0), (.ireturn, 1, [0], 0)]
def bk_Fair_count_91 : List ab_O := [(.aload_n 0, 1, [0], 0), (.getfield 12, 3, [7,0,1,221,0], 0), (.getfield 242, 3, [6,7,0,95,1], 0), (.ireturn, 1, [0], 0)]
def bk_Fair_count_99 : List ab_O := [(.aload_n 0, 1, [0], 0), (.getfield 12, 3, [7,0,1,221,0], 0), (.invokevirtual 245, 3, [66,1,0,0,539,540,541,10,6], 0), (.ireturn, 1, [0], 0)]
def bk_Fair_count_107 : List ab_O := [(.aload_n 0, 1, [0], 0), (.getfield 12, 3, [7,0,1,221,0], 0), (.invokevirtual 248, 3, [67,1,0,0,547,548,549,10,6], 0), (.ireturn, 1, [0], 0)]
def bk_Fair_count_115 : List ab_O := [(.aload_n 0, 1, [0], 0), (.getfield 12, 3, [7,0,1,221,0], 0), (.invokevirtual 251, 3, [70,1,0,0,551,552,553,10,6], 0), (.ireturn, 1, [0], 0)]
def bk_Fair_count_123 : List ab_O := [(.aload_n 0, 1, [0], 0), (.getfield 22, 3, [7,2,1,223,0], 0), (.getfield 254, 3, [3,5,0,127,1], 0), (.ireturn, 1, [0], 0)]
def bk_Fair_count_131 : List ab_O := [(.aload_n 0, 1, [0], 0), (.getfield 29, 3, [7,3,1,224,0], 0), (.getfield 255, 3, [5,2,0,150,1], 0), (.ireturn, 1, [0], 0)]
def bk_Fair_count_139 : List ab_O := [(.ldc 96, 2, [519], (-1000001)), (.ireturn, 1, [0], 0)]
def bt_Fair_count : List (Nat × List ab_O) := [(0, bk_Fair_count_0), (56, bk_Fair_count_56), (67, bk_Fair_count_67), (75, bk_Fair_count_75), (83, bk_Fair_count_83), (91, bk_Fair_count_91), (99, bk_Fair_count_99), (107, bk_Fair_count_107), (115, bk_Fair_count_115), (123, bk_Fair_count_123), (131, bk_Fair_count_131), (139, bk_Fair_count_139)]
abbrev yn_Fair_undo : Nat := 112
def bk_Fair_undo_0 : List ab_O := [(.aload_n 0, 1, [0], 0), (.getfield 22, 3, [7,2,1,223,0], 0), (.getfield 254, 3, [3,5,0,127,1], 0), (.ifCond .ne 6, 3, [13], 0), (.ldc 188, 2, [568], (-1000002)), (.ireturn, 1, [0], 0)]
def bk_Fair_undo_13 : List ab_O := [(.aload_n 0, 1, [0], 0), (.getfield 22, 3, [7,2,1,223,0], 0), (.aload_n 0, 1, [0], 0), (.getfield 12, 3, [7,0,1,221,0], 0), (.invokevirtual 258, 3, [79,2,0,0,569,570,571,13,3], 0), (.aload_n 0, 1, [0], 0), (.getfield 22, 3, [7,2,1,223,0], 0), (.getfield 254, 3, [3,5,0,127,1], 0), (.ireturn, 1, [0], 0)]
def bt_Fair_undo : List (Nat × List ab_O) := [(0, bk_Fair_undo_0), (13, bk_Fair_undo_13)]
abbrev yn_Fair_type : Nat := 113
def bk_Fair_type_0 : List ab_O := [(.iload_n 1, 1, [1], 0), (.bipush 32, 2, [], 32), (.if_icmp .lt 9, 3, [12], 0), (.iload_n 1, 1, [1], 0), (.bipush 126, 2, [], 126), (.if_icmp .le 6, 3, [15], 0), (.nop, 0, [12], 0)]
def bk_Fair_type_12 : List ab_O := [(.ldc 96, 2, [519], (-1000001)), (.ireturn, 1, [0], 0)]
def bk_Fair_type_15 : List ab_O := [(.aload_n 0, 1, [0], 0), (.getfield 29, 3, [7,3,1,224,0], 0), (.getfield 255, 3, [5,2,0,150,1], 0), (.bipush 60, 2, [], 60), (.if_icmp .lt 7, 3, [31], 0), (.ldc_w 261, 3, [719], (-1000003)), (.ireturn, 1, [0], 0)]
def bk_Fair_type_31 : List ab_O := [(.aload_n 0, 1, [0], 0), (.getfield 29, 3, [7,3,1,224,0], 0), (.iload_n 1, 1, [1], 0), (.invokevirtual 262, 3, [81,2,0,0,720,721,722,14,5], 0), (.aload_n 0, 1, [0], 0), (.getfield 29, 3, [7,3,1,224,0], 0), (.getfield 255, 3, [5,2,0,150,1], 0), (.ireturn, 1, [0], 0)]
def bt_Fair_type : List (Nat × List ab_O) := [(0, bk_Fair_type_0), (12, bk_Fair_type_12), (15, bk_Fair_type_15), (31, bk_Fair_type_31)]
abbrev yn_Fair_clearText : Nat := 114
def bk_Fair_clearText_0 : List ab_O := [(.aload_n 0, 1, [0], 0), (.getfield 29, 3, [7,3,1,224,0], 0), (.getfield 255, 3, [5,2,0,150,1], 0), (.istore_n 1, 1, [1], 0), (.aload_n 0, 1, [0], 0), (.getfield 29, 3, [7,3,1,224,0], 0), (.iconst 0, 1, [], 0), (.putfield 255, 3, [5,2,0,150,1,0], 0), (.iload_n 1, 1, [1], 0), (.ireturn, 1, [0], 0)]
def bt_Fair_clearText : List (Nat × List ab_O) := [(0, bk_Fair_clearText_0)]
abbrev yn_Fair_fault : Nat := 115
def bk_Fair_fault_0 : List ab_O := [(.iload_n 1, 1, [1], 0), (.ifCond .lt 8, 3, [9], 0), (.iload_n 1, 1, [1], 0), (.iconst 2, 1, [], 2), (.if_icmp .le 6, 3, [12], 0), (.nop, 0, [9], 0)]
def bk_Fair_fault_9 : List ab_O := [(.ldc 96, 2, [519], (-1000001)), (.ireturn, 1, [0], 0)]
def bk_Fair_fault_12 : List ab_O := [(.aload_n 0, 1, [0], 0), (.getfield 29, 3, [7,3,1,224,0], 0), (.aload_n 0, 1, [0], 0), (.getfield 12, 3, [7,0,1,221,0], 0), (.aload_n 0, 1, [0], 0), (.getfield 16, 3, [7,1,1,222,0], 0), (.aload_n 0, 1, [0], 0), (.getfield 36, 3, [7,4,1,225,0], 0), (.invokevirtual 266, 3, [82,4,0,0,728,729,730,14,5], 0), (.aload_n 0, 1, [0], 0), (.getfield 29, 3, [7,3,1,224,0], 0), (.getfield 270, 3, [5,6,0,157,1], 0), (.ifCond .ne 6, 3, [44], 0), (.ldc 105, 2, [634], (-1000004)), (.ireturn, 1, [0], 0)]
def bk_Fair_fault_44 : List ab_O := [(.iload_n 1, 1, [1], 0), (.lookupswitch 43 #[(0, 27), (1, 35)], 27, [88,72,80], 0)]
def bk_Fair_fault_72 : List ab_O := [(.aload_n 0, 1, [0], 0), (.getfield 29, 3, [7,3,1,224,0], 0), (.getfield 273, 3, [5,3,0,152,1], 0), (.ireturn, 1, [0], 0)]
def bk_Fair_fault_80 : List ab_O := [(.aload_n 0, 1, [0], 0), (.getfield 29, 3, [7,3,1,224,0], 0), (.getfield 270, 3, [5,6,0,157,1], 0), (.ireturn, 1, [0], 0)]
def bk_Fair_fault_88 : List ab_O := [(.aload_n 0, 1, [0], 0), (.getfield 29, 3, [7,3,1,224,0], 0), (.getfield 276, 3, [5,7,0,159,1], 0), (.ireturn, 1, [0], 0)]
def bt_Fair_fault : List (Nat × List ab_O) := [(0, bk_Fair_fault_0), (9, bk_Fair_fault_9), (12, bk_Fair_fault_12), (44, bk_Fair_fault_44), (72, bk_Fair_fault_72), (80, bk_Fair_fault_80), (88, bk_Fair_fault_88)]
abbrev yn_Fair_play : Nat := 116
def bk_Fair_play_0 : List ab_O := [(.aload_n 0, 1, [0], 0), (.getfield 29, 3, [7,3,1,224,0], 0), (.aload_n 0, 1, [0], 0), (.getfield 12, 3, [7,0,1,221,0], 0), (.aload_n 0, 1, [0], 0), (.getfield 16, 3, [7,1,1,222,0], 0), (.aload_n 0, 1, [0], 0), (.getfield 36, 3, [7,4,1,225,0], 0), (.invokevirtual 266, 3, [82,4,0,0,728,729,730,14,5], 0), (.aload_n 0, 1, [0], 0), (.getfield 29, 3, [7,3,1,224,0], 0), (.getfield 270, 3, [5,6,0,157,1], 0), (.ifCond .eq 6, 3, [32], 0), (.ldc 188, 2, [568], (-1000002)), (.ireturn, 1, [0], 0)]
def bk_Fair_play_32 : List ab_O := [(.aload_n 0, 1, [0], 0), (.getfield 22, 3, [7,2,1,223,0], 0), (.aload_n 0, 1, [0], 0), (.getfield 12, 3, [7,0,1,221,0], 0), (.invokevirtual 47, 3, [77,2,0,0,244,245,246,13,3], 0), (.aload_n 0, 1, [0], 0), (.getfield 12, 3, [7,0,1,221,0], 0), (.aload_n 0, 1, [0], 0), (.getfield 16, 3, [7,1,1,222,0], 0), (.invokevirtual 279, 3, [51,2,0,0,794,249,250,10,6], 0), (.aload_n 0, 1, [0], 0), (.getfield 22, 3, [7,2,1,223,0], 0), (.aload_n 0, 1, [0], 0), (.getfield 29, 3, [7,3,1,224,0], 0), (.getfield 282, 3, [5,5,0,155,1], 0), (.invokevirtual 55, 3, [78,2,0,0,322,323,324,13,3], 0), (.ireturn, 1, [0], 0)]
def bt_Fair_play : List (Nat × List ab_O) := [(0, bk_Fair_play_0), (32, bk_Fair_play_32)]
abbrev yn_Fair_isCollector : Nat := 117
def bk_Fair_isCollector_0 : List ab_O := [(.iload_n 0, 1, [0], 0), (.ifCond .lt 12, 3, [13], 0), (.iload_n 0, 1, [0], 0), (.iconst 4, 1, [], 4), (.if_icmp .ge 7, 3, [13], 0), (.iconst 1, 1, [], 1), (.goto 4, 3, [14], 0)]
def bk_Fair_isCollector_13 : List ab_O := [(.iconst 0, 1, [], 0), (.nop, 0, [14], 0)]
def bk_Fair_isCollector_14 : List ab_O := [(.ireturn, 1, [1], 0)]
def bt_Fair_isCollector : List (Nat × List ab_O) := [(0, bk_Fair_isCollector_0), (13, bk_Fair_isCollector_13), (14, bk_Fair_isCollector_14)]
abbrev yn_Fair_isTheme : Nat := 118
def bk_Fair_isTheme_0 : List ab_O := [(.iload_n 0, 1, [0], 0), (.ifCond .lt 12, 3, [13], 0), (.iload_n 0, 1, [0], 0), (.iconst 4, 1, [], 4), (.if_icmp .ge 7, 3, [13], 0), (.iconst 1, 1, [], 1), (.goto 4, 3, [14], 0)]
def bk_Fair_isTheme_13 : List ab_O := [(.iconst 0, 1, [], 0), (.nop, 0, [14], 0)]
def bk_Fair_isTheme_14 : List ab_O := [(.ireturn, 1, [1], 0)]
def bt_Fair_isTheme : List (Nat × List ab_O) := [(0, bk_Fair_isTheme_0), (13, bk_Fair_isTheme_13), (14, bk_Fair_isTheme_14)]
abbrev yn_Fair_isSide : Nat := 119
def bk_Fair_isSide_0 : List ab_O := [(.iload_n 0, 1, [0], 0), (.ifCond .eq 8, 3, [9], 0), (.iload_n 0, 1, [0], 0), (.iconst 1, 1, [], 1), (.if_icmp .ne 7, 3, [13], 0), (.nop, 0, [9], 0)]
def bk_Fair_isSide_9 : List ab_O := [(.iconst 1, 1, [], 1), (.goto 4, 3, [14], 0)]
def bk_Fair_isSide_13 : List ab_O := [(.iconst 0, 1, [], 0), (.nop, 0, [14], 0)]
def bk_Fair_isSide_14 : List ab_O := [(.ireturn, 1, [1], 0)]
def bt_Fair_isSide : List (Nat × List ab_O) := [(0, bk_Fair_isSide_0), (9, bk_Fair_isSide_9), (13, bk_Fair_isSide_13), (14, bk_Fair_isSide_14)]
abbrev yn_Fair_arePaid : Nat := 120
def bk_Fair_arePaid_0 : List ab_O := [(.iload_n 0, 1, [0], 0), (.sipush (-9999), 3, [], (-9999)), (.if_icmp .lt 14, 3, [18], 0), (.iload_n 0, 1, [0], 0), (.sipush 9999, 3, [], 9999), (.if_icmp .gt 7, 3, [18], 0), (.iconst 1, 1, [], 1), (.goto 4, 3, [19], 0)]
def bk_Fair_arePaid_18 : List ab_O := [(.iconst 0, 1, [], 0), (.nop, 0, [19], 0)]
def bk_Fair_arePaid_19 : List ab_O := [(.ireturn, 1, [1], 0)]
def bt_Fair_arePaid : List (Nat × List ab_O) := [(0, bk_Fair_arePaid_0), (18, bk_Fair_arePaid_18), (19, bk_Fair_arePaid_19)]
abbrev yn_Fair_bitsOf : Nat := 121
def bk_Fair_bitsOf_0 : List ab_O := [(.fload_n 0, 1, [0], 0), (.fstore_n 1, 1, [1], 0), (.sipush 150, 3, [], 150), (.istore_n 2, 1, [2], 0), (.iconst 0, 1, [], 0), (.istore_n 3, 1, [3], 0), (.nop, 0, [8], 0)]
def bk_Fair_bitsOf_8 : List ab_O := [(.iload_n 3, 1, [3], 0), (.bipush 23, 2, [], 23), (.if_icmp .ge 24, 3, [35], 0), (.fload_n 1, 1, [1], 0), (.ldc_w 285, 3, [713,1], 1258291200), (.fcmp .g, 1, [], 0), (.ifCond .ge 16, 3, [35], 0), (.fload_n 1, 1, [1], 0), (.fconst 2, 1, [], 0), (.fmul, 1, [], 0), (.fstore_n 1, 1, [1], 0), (.iinc 2 (-1), 3, [2], (-1)), (.iinc 3 1, 3, [3], 1), (.goto (-24), 3, [8], 0)]
def bk_Fair_bitsOf_35 : List ab_O := [(.iload_n 2, 1, [2], 0), (.bipush 23, 2, [], 23), (.ishl, 1, [], 0), (.fload_n 1, 1, [1], 0), (.f2i, 1, [], 0), (.ldc_w 286, 3, [714], 8388608), (.isub, 1, [], 0), (.iadd, 1, [], 0), (.ireturn, 1, [0], 0)]
def bt_Fair_bitsOf : List (Nat × List ab_O) := [(0, bk_Fair_bitsOf_0), (8, bk_Fair_bitsOf_8), (35, bk_Fair_bitsOf_35)]
abbrev yn_Law_part : Nat := 122
def bk_Law_part_0 : List ab_O := [(.iload_n 0, 1, [0], 0), (.ldc 7, 2, [576], 2147483647), (.iand, 1, [], 0), (.iload_n 1, 1, [1], 0), (.irem, 1, [], 0), (.ireturn, 1, [0], 0)]
def bt_Law_part : List (Nat × List ab_O) := [(0, bk_Law_part_0)]
abbrev yn_Law_drawn : Nat := 123
def bk_Law_drawn_0 : List ab_O := [(.aload_n 0, 1, [0], 0), (.arraylength, 1, [], 0), (.ifCond .ne 13, 3, [15], 0), (.sipush 7919, 3, [], 7919), (.iload_n 1, 1, [1], 0), (.imul, 1, [], 0), (.iconst 3, 1, [], 3), (.iadd, 1, [], 0), (.goto 27, 3, [39], 0)]
def bk_Law_drawn_15 : List ab_O := [(.aload_n 0, 1, [0], 0), (.iload_n 1, 1, [1], 0), (.aload_n 0, 1, [0], 0), (.arraylength, 1, [], 0), (.irem, 1, [], 0), (.iaload, 1, [], 0), (.iload_n 1, 1, [1], 0), (.bipush 7, 2, [], 7), (.irem, 1, [], 0), (.ishr, 1, [], 0), (.iload_n 1, 1, [1], 0), (.aload_n 0, 1, [0], 0), (.arraylength, 1, [], 0), (.idiv, 1, [], 0), (.bipush 31, 2, [], 31), (.imul, 1, [], 0), (.ixor, 1, [], 0), (.iload_n 1, 1, [1], 0), (.ldc 8, 2, [580], 2654435), (.imul, 1, [], 0), (.ixor, 1, [], 0), (.nop, 0, [39], 0)]
def bk_Law_drawn_39 : List ab_O := [(.ireturn, 1, [0], 0)]
def bt_Law_drawn : List (Nat × List ab_O) := [(0, bk_Law_drawn_0), (15, bk_Law_drawn_15), (39, bk_Law_drawn_39)]
abbrev yn_Law_seen : Nat := 124
def bk_Law_seen_0 : List ab_O := [(.ldc2_w 9, 3, [584], 3), (.lstore_n 1, 1, [1], 0), (.iconst 0, 1, [], 0), (.istore_n 3, 1, [3], 0), (.nop, 0, [6], 0)]
def bk_Law_seen_6 : List ab_O := [(.iload_n 3, 1, [3], 0), (.bipush 8, 2, [], 8), (.if_icmp .ge 22, 3, [31], 0), (.ldc2_w 11, 3, [585], 31), (.lload_n 1, 1, [1], 0), (.lmul, 1, [], 0), (.aload_n 0, 1, [0], 0), (.iload_n 3, 1, [3], 0), (.invokevirtual 13, 3, [111,2,0,0,523,524,525,9,7], 0), (.i2l, 1, [], 0), (.ladd, 1, [], 0), (.lstore_n 1, 1, [1], 0), (.iinc 3 1, 3, [3], 1), (.goto (-22), 3, [6], 0)]
def bk_Law_seen_31 : List ab_O := [(.iconst 0, 1, [], 0), (.istore_n 3, 1, [3], 0), (.nop, 0, [33], 0)]
def bk_Law_seen_33 : List ab_O := [(.iload_n 3, 1, [3], 0), (.bipush 36, 2, [], 36), (.if_icmp .ge 29, 3, [65], 0), (.ldc2_w 11, 3, [585], 31), (.lload_n 1, 1, [1], 0), (.lmul, 1, [], 0), (.aload_n 0, 1, [0], 0), (.iload_n 3, 1, [3], 0), (.bipush 9, 2, [], 9), (.idiv, 1, [], 0), (.iload_n 3, 1, [3], 0), (.bipush 9, 2, [], 9), (.irem, 1, [], 0), (.invokevirtual 19, 3, [104,3,0,0,586,587,588,9,7], 0), (.i2l, 1, [], 0), (.ladd, 1, [], 0), (.lstore_n 1, 1, [1], 0), (.iinc 3 1, 3, [3], 1), (.goto (-29), 3, [33], 0)]
def bk_Law_seen_65 : List ab_O := [(.iconst 0, 1, [], 0), (.istore_n 3, 1, [3], 0), (.nop, 0, [67], 0)]
def bk_Law_seen_67 : List ab_O := [(.iload_n 3, 1, [3], 0), (.iconst 4, 1, [], 4), (.aload_n 0, 1, [0], 0), (.iconst 0, 1, [], 0), (.invokevirtual 13, 3, [111,2,0,0,523,524,525,9,7], 0), (.imul, 1, [], 0), (.if_icmp .ge 27, 3, [102], 0), (.ldc2_w 11, 3, [585], 31), (.lload_n 1, 1, [1], 0), (.lmul, 1, [], 0), (.aload_n 0, 1, [0], 0), (.iload_n 3, 1, [3], 0), (.iconst 4, 1, [], 4), (.idiv, 1, [], 0), (.iload_n 3, 1, [3], 0), (.iconst 4, 1, [], 4), (.irem, 1, [], 0), (.invokevirtual 23, 3, [105,3,0,0,610,611,612,9,7], 0), (.i2l, 1, [], 0), (.ladd, 1, [], 0), (.lstore_n 1, 1, [1], 0), (.iinc 3 1, 3, [3], 1), (.goto (-32), 3, [67], 0)]
def bk_Law_seen_102 : List ab_O := [(.iconst 0, 1, [], 0), (.istore_n 3, 1, [3], 0), (.nop, 0, [104], 0)]
def bk_Law_seen_104 : List ab_O := [(.iload_n 3, 1, [3], 0), (.bipush 32, 2, [], 32), (.if_icmp .ge 76, 3, [183], 0), (.aload_n 0, 1, [0], 0), (.iload_n 3, 1, [3], 0), (.bipush 8, 2, [], 8), (.idiv, 1, [], 0), (.iload_n 3, 1, [3], 0), (.bipush 8, 2, [], 8), (.irem, 1, [], 0), (.invokevirtual 26, 3, [103,3,0,0,629,630,631,9,7], 0), (.istore 4, 2, [4], 0), (.ldc2_w 11, 3, [585], 31), (.lload_n 1, 1, [1], 0), (.lmul, 1, [], 0), (.iload 4, 2, [4], 0), (.i2l, 1, [], 0), (.ladd, 1, [], 0), (.lstore_n 1, 1, [1], 0), (.iconst 0, 1, [], 0), (.istore 5, 2, [5], 0), (.nop, 0, [137], 0)]
def bk_Law_seen_137 : List ab_O := [(.iload 5, 2, [5], 0), (.bipush 8, 2, [], 8), (.if_icmp .ge 36, 3, [177], 0), (.iload 4, 2, [4], 0), (.ifCond .lt 31, 3, [177], 0), (.ldc2_w 11, 3, [585], 31), (.lload_n 1, 1, [1], 0), (.lmul, 1, [], 0), (.aload_n 0, 1, [0], 0), (.iload 4, 2, [4], 0), (.iload 5, 2, [5], 0), (.iconst 4, 1, [], 4), (.idiv, 1, [], 0), (.iload 5, 2, [5], 0), (.iconst 4, 1, [], 4), (.irem, 1, [], 0), (.invokevirtual 29, 3, [101,4,0,0,635,636,637,9,7], 0), (.i2l, 1, [], 0), (.ladd, 1, [], 0), (.lstore_n 1, 1, [1], 0), (.iinc 5 1, 3, [5], 1), (.goto (-37), 3, [137], 0)]
def bk_Law_seen_177 : List ab_O := [(.iinc 3 1, 3, [3], 1), (.goto (-76), 3, [104], 0)]
def bk_Law_seen_183 : List ab_O := [(.lload_n 1, 1, [1], 0), (.lreturn, 1, [], 0)]
def bt_Law_seen : List (Nat × List ab_O) := [(0, bk_Law_seen_0), (6, bk_Law_seen_6), (31, bk_Law_seen_31), (33, bk_Law_seen_33), (65, bk_Law_seen_65), (67, bk_Law_seen_67), (102, bk_Law_seen_102), (104, bk_Law_seen_104), (137, bk_Law_seen_137), (177, bk_Law_seen_177), (183, bk_Law_seen_183)]
abbrev yn_Law_refusesAny : Nat := 125
def bk_Law_refusesAny_0 : List ab_O := [(.iload_n 1, 1, [1], 0), (.ifCond .ne 7, 3, [8], 0), (.iconst (-1), 1, [], (-1)), (.goto 4, 3, [9], 0)]
def bk_Law_refusesAny_8 : List ab_O := [(.iconst 4, 1, [], 4), (.nop, 0, [9], 0)]
def bk_Law_refusesAny_9 : List ab_O := [(.istore_n 2, 1, [2], 0), (.iload_n 1, 1, [1], 0), (.ifCond .ne 7, 3, [18], 0), (.iconst (-1), 1, [], (-1)), (.goto 8, 3, [23], 0)]
def bk_Law_refusesAny_18 : List ab_O := [(.aload_n 0, 1, [0], 0), (.iconst 0, 1, [], 0), (.invokevirtual 13, 3, [111,2,0,0,523,524,525,9,7], 0), (.nop, 0, [23], 0)]
def bk_Law_refusesAny_23 : List ab_O := [(.istore_n 3, 1, [3], 0), (.iload_n 1, 1, [1], 0), (.ifCond .ne 7, 3, [32], 0), (.iconst (-1), 1, [], (-1)), (.goto 8, 3, [37], 0)]
def bk_Law_refusesAny_32 : List ab_O := [(.aload_n 0, 1, [0], 0), (.iconst 4, 1, [], 4), (.invokevirtual 13, 3, [111,2,0,0,523,524,525,9,7], 0), (.nop, 0, [37], 0)]
def bk_Law_refusesAny_37 : List ab_O := [(.istore 4, 2, [4], 0), (.iload_n 1, 1, [1], 0), (.ifCond .ne 7, 3, [47], 0), (.iconst (-1), 1, [], (-1)), (.goto 4, 3, [48], 0)]
def bk_Law_refusesAny_47 : List ab_O := [(.iconst 2, 1, [], 2), (.nop, 0, [48], 0)]
def bk_Law_refusesAny_48 : List ab_O := [(.istore 5, 2, [5], 0), (.iload_n 1, 1, [1], 0), (.ifCond .ne 9, 3, [60], 0), (.sipush (-10000), 3, [], (-10000)), (.goto 6, 3, [63], 0)]
def bk_Law_refusesAny_60 : List ab_O := [(.sipush 10000, 3, [], 10000), (.nop, 0, [63], 0)]
def bk_Law_refusesAny_63 : List ab_O := [(.istore 6, 2, [6], 0), (.aload_n 0, 1, [0], 0), (.iload_n 1, 1, [1], 0), (.ifCond .ne 7, 3, [74], 0), (.iconst 0, 1, [], 0), (.goto 5, 3, [76], 0)]
def bk_Law_refusesAny_74 : List ab_O := [(.bipush 51, 2, [], 51), (.nop, 0, [76], 0)]
def bk_Law_refusesAny_76_0 : List ab_O := [(.iconst 0, 1, [], 0), (.invokevirtual 33, 3, [92,3,0,0,240,241,242,9,7], 0), (.ldc 38, 2, [653], (-1000001)), (.if_icmp .ne 158, 3, [240], 0), (.aload_n 0, 1, [0], 0), (.iconst 1, 1, [], 1), (.iload_n 2, 1, [2], 0), (.invokevirtual 33, 3, [92,3,0,0,240,241,242,9,7], 0), (.ldc 38, 2, [653], (-1000001)), (.if_icmp .ne 147, 3, [240], 0), (.aload_n 0, 1, [0], 0), (.iload_n 2, 1, [2], 0), (.invokevirtual 39, 3, [93,2,0,0,329,330,331,9,7], 0), (.ldc 38, 2, [653], (-1000001)), (.if_icmp .ne 137, 3, [240], 0), (.aload_n 0, 1, [0], 0), (.iload 4, 2, [4], 0), (.iconst 0, 1, [], 0), (.iconst 0, 1, [], 0), (.invokevirtual 42, 3, [94,4,0,0,344,345,346,9,7], 0), (.ldc 38, 2, [653], (-1000001)), (.if_icmp .ne 124, 3, [240], 0), (.aload_n 0, 1, [0], 0), (.iconst 0, 1, [], 0), (.iload 5, 2, [5], 0), (.iconst 0, 1, [], 0), (.invokevirtual 42, 3, [94,4,0,0,344,345,346,9,7], 0), (.ldc 38, 2, [653], (-1000001)), (.if_icmp .ne 111, 3, [240], 0), (.aload_n 0, 1, [0], 0)]
def bk_Law_refusesAny_76_1 : List ab_O := [(.iconst 0, 1, [], 0), (.iconst 0, 1, [], 0), (.iload_n 3, 1, [3], 0), (.invokevirtual 42, 3, [94,4,0,0,344,345,346,9,7], 0), (.ldc 38, 2, [653], (-1000001)), (.if_icmp .ne 99, 3, [240], 0), (.aload_n 0, 1, [0], 0), (.iload 4, 2, [4], 0), (.iconst 0, 1, [], 0), (.invokevirtual 45, 3, [95,3,0,0,405,406,407,9,7], 0), (.ldc 38, 2, [653], (-1000001)), (.if_icmp .ne 87, 3, [240], 0), (.aload_n 0, 1, [0], 0), (.iconst 0, 1, [], 0), (.iload_n 3, 1, [3], 0), (.invokevirtual 45, 3, [95,3,0,0,405,406,407,9,7], 0), (.ldc 38, 2, [653], (-1000001)), (.if_icmp .ne 76, 3, [240], 0), (.aload_n 0, 1, [0], 0), (.iload 4, 2, [4], 0), (.iconst 0, 1, [], 0), (.iconst 0, 1, [], 0), (.invokevirtual 48, 3, [96,4,0,0,429,430,431,9,7], 0), (.ldc 38, 2, [653], (-1000001)), (.if_icmp .ne 63, 3, [240], 0), (.aload_n 0, 1, [0], 0), (.iconst 0, 1, [], 0), (.iload 5, 2, [5], 0), (.iconst 0, 1, [], 0), (.invokevirtual 48, 3, [96,4,0,0,429,430,431,9,7], 0)]
def bk_Law_refusesAny_76_2 : List ab_O := [(.ldc 38, 2, [653], (-1000001)), (.if_icmp .ne 50, 3, [240], 0), (.aload_n 0, 1, [0], 0), (.iconst 0, 1, [], 0), (.iconst 0, 1, [], 0), (.iload_n 2, 1, [2], 0), (.invokevirtual 48, 3, [96,4,0,0,429,430,431,9,7], 0), (.ldc 38, 2, [653], (-1000001)), (.if_icmp .ne 38, 3, [240], 0), (.aload_n 0, 1, [0], 0), (.iload 4, 2, [4], 0), (.iconst 0, 1, [], 0), (.invokevirtual 51, 3, [97,3,0,0,442,443,444,9,7], 0), (.ldc 38, 2, [653], (-1000001)), (.if_icmp .ne 26, 3, [240], 0), (.aload_n 0, 1, [0], 0), (.iconst 0, 1, [], 0), (.iconst (-1), 1, [], (-1)), (.invokevirtual 51, 3, [97,3,0,0,442,443,444,9,7], 0), (.ldc 38, 2, [653], (-1000001)), (.if_icmp .ne 15, 3, [240], 0), (.aload_n 0, 1, [0], 0), (.iconst 0, 1, [], 0), (.ldc 7, 2, [576], 2147483647), (.invokevirtual 51, 3, [97,3,0,0,442,443,444,9,7], 0), (.ldc 54, 2, [654], (-1000002)), (.if_icmp .eq 5, 3, [242], 0), (.nop, 0, [240], 0)]
def bk_Law_refusesAny_76 : List ab_O := bk_Law_refusesAny_76_0 ++ (bk_Law_refusesAny_76_1 ++ (bk_Law_refusesAny_76_2))
def bk_Law_refusesAny_240 : List ab_O := [(.iconst 0, 1, [], 0), (.ireturn, 1, [1], 0)]
def bk_Law_refusesAny_242_0 : List ab_O := [(.aload_n 0, 1, [0], 0), (.iload 4, 2, [4], 0), (.iconst 0, 1, [], 0), (.iconst 0, 1, [], 0), (.invokevirtual 55, 3, [98,4,0,0,469,470,471,9,7], 0), (.ldc 38, 2, [653], (-1000001)), (.if_icmp .ne 195, 3, [447], 0), (.aload_n 0, 1, [0], 0), (.iconst 0, 1, [], 0), (.iload 4, 2, [4], 0), (.iconst 0, 1, [], 0), (.invokevirtual 55, 3, [98,4,0,0,469,470,471,9,7], 0), (.ldc 38, 2, [653], (-1000001)), (.if_icmp .ne 182, 3, [447], 0), (.aload_n 0, 1, [0], 0), (.iconst 0, 1, [], 0), (.iconst 0, 1, [], 0), (.iload 6, 2, [6], 0), (.invokevirtual 55, 3, [98,4,0,0,469,470,471,9,7], 0), (.ldc 38, 2, [653], (-1000001)), (.if_icmp .ne 169, 3, [447], 0), (.aload_n 0, 1, [0], 0), (.iconst 0, 1, [], 0), (.iconst 0, 1, [], 0), (.iconst 0, 1, [], 0), (.invokevirtual 55, 3, [98,4,0,0,469,470,471,9,7], 0), (.ldc 54, 2, [654], (-1000002)), (.if_icmp .ne 157, 3, [447], 0), (.aload_n 0, 1, [0], 0), (.iload 4, 2, [4], 0)]
def bk_Law_refusesAny_242_1 : List ab_O := [(.invokevirtual 58, 3, [99,2,0,0,497,498,499,9,7], 0), (.ldc 38, 2, [653], (-1000001)), (.if_icmp .ne 146, 3, [447], 0), (.aload_n 0, 1, [0], 0), (.iload_n 2, 1, [2], 0), (.iconst 0, 1, [], 0), (.invokevirtual 61, 3, [100,3,0,0,506,507,508,9,7], 0), (.ldc 38, 2, [653], (-1000001)), (.if_icmp .ne 135, 3, [447], 0), (.aload_n 0, 1, [0], 0), (.iconst 0, 1, [], 0), (.iload_n 1, 1, [1], 0), (.ifCond .ne 7, 3, [325], 0), (.iconst (-1), 1, [], (-1)), (.goto 6, 3, [328], 0)]
def bk_Law_refusesAny_242 : List ab_O := bk_Law_refusesAny_242_0 ++ (bk_Law_refusesAny_242_1)
def bk_Law_refusesAny_325 : List ab_O := [(.sipush 10000, 3, [], 10000), (.nop, 0, [328], 0)]
def bk_Law_refusesAny_328 : List ab_O := [(.invokevirtual 61, 3, [100,3,0,0,506,507,508,9,7], 0), (.ldc 38, 2, [653], (-1000001)), (.if_icmp .ne 114, 3, [447], 0), (.aload_n 0, 1, [0], 0), (.iload 4, 2, [4], 0), (.iconst 0, 1, [], 0), (.iconst 0, 1, [], 0), (.invokevirtual 29, 3, [101,4,0,0,635,636,637,9,7], 0), (.ldc 38, 2, [653], (-1000001)), (.if_icmp .ne 101, 3, [447], 0), (.aload_n 0, 1, [0], 0), (.iconst 0, 1, [], 0), (.iload 5, 2, [5], 0), (.iconst 0, 1, [], 0), (.invokevirtual 29, 3, [101,4,0,0,635,636,637,9,7], 0), (.ldc 38, 2, [653], (-1000001)), (.if_icmp .ne 88, 3, [447], 0), (.aload_n 0, 1, [0], 0), (.iconst 0, 1, [], 0), (.iconst 0, 1, [], 0), (.iload_n 1, 1, [1], 0), (.ifCond .ne 7, 3, [373], 0), (.iconst (-1), 1, [], (-1)), (.goto 4, 3, [374], 0)]
def bk_Law_refusesAny_373 : List ab_O := [(.iconst 4, 1, [], 4), (.nop, 0, [374], 0)]
def bk_Law_refusesAny_374 : List ab_O := [(.invokevirtual 29, 3, [101,4,0,0,635,636,637,9,7], 0), (.ldc 38, 2, [653], (-1000001)), (.if_icmp .ne 68, 3, [447], 0), (.aload_n 0, 1, [0], 0), (.iload 4, 2, [4], 0), (.iconst 0, 1, [], 0), (.invokevirtual 64, 3, [102,3,0,0,514,515,516,9,7], 0), (.ldc 38, 2, [653], (-1000001)), (.if_icmp .ne 56, 3, [447], 0), (.aload_n 0, 1, [0], 0), (.iconst 0, 1, [], 0), (.iload_n 1, 1, [1], 0), (.ifCond .ne 7, 3, [404], 0), (.iconst (-1), 1, [], (-1)), (.goto 4, 3, [405], 0)]
def bk_Law_refusesAny_404 : List ab_O := [(.iconst 4, 1, [], 4), (.nop, 0, [405], 0)]
def bk_Law_refusesAny_405 : List ab_O := [(.invokevirtual 64, 3, [102,3,0,0,514,515,516,9,7], 0), (.ldc 38, 2, [653], (-1000001)), (.if_icmp .ne 37, 3, [447], 0), (.aload_n 0, 1, [0], 0), (.iload_n 2, 1, [2], 0), (.iconst 0, 1, [], 0), (.invokevirtual 26, 3, [103,3,0,0,629,630,631,9,7], 0), (.ldc 38, 2, [653], (-1000001)), (.if_icmp .ne 26, 3, [447], 0), (.aload_n 0, 1, [0], 0), (.iconst 0, 1, [], 0), (.iconst (-1), 1, [], (-1)), (.invokevirtual 26, 3, [103,3,0,0,629,630,631,9,7], 0), (.ldc 38, 2, [653], (-1000001)), (.if_icmp .ne 15, 3, [447], 0), (.aload_n 0, 1, [0], 0), (.iconst 3, 1, [], 3), (.bipush 8, 2, [], 8), (.invokevirtual 26, 3, [103,3,0,0,629,630,631,9,7], 0), (.ldc 67, 2, [655], (-1000004)), (.if_icmp .eq 5, 3, [449], 0), (.nop, 0, [447], 0)]
def bk_Law_refusesAny_447 : List ab_O := [(.iconst 0, 1, [], 0), (.ireturn, 1, [1], 0)]
def bk_Law_refusesAny_449 : List ab_O := [(.aload_n 0, 1, [0], 0), (.iload_n 2, 1, [2], 0), (.iconst 0, 1, [], 0), (.invokevirtual 19, 3, [104,3,0,0,586,587,588,9,7], 0), (.ldc 38, 2, [653], (-1000001)), (.if_icmp .ne 254, 3, [711], 0), (.aload_n 0, 1, [0], 0), (.iconst 0, 1, [], 0), (.iload_n 1, 1, [1], 0), (.ifCond .ne 7, 3, [470], 0), (.iconst (-1), 1, [], (-1)), (.goto 5, 3, [472], 0)]
def bk_Law_refusesAny_470 : List ab_O := [(.bipush 9, 2, [], 9), (.nop, 0, [472], 0)]
def bk_Law_refusesAny_472 : List ab_O := [(.invokevirtual 19, 3, [104,3,0,0,586,587,588,9,7], 0), (.ldc 38, 2, [653], (-1000001)), (.if_icmp .ne 234, 3, [711], 0), (.aload_n 0, 1, [0], 0), (.iload_n 3, 1, [3], 0), (.iconst 0, 1, [], 0), (.invokevirtual 23, 3, [105,3,0,0,610,611,612,9,7], 0), (.ldc 38, 2, [653], (-1000001)), (.if_icmp .ne 223, 3, [711], 0), (.aload_n 0, 1, [0], 0), (.iconst 0, 1, [], 0), (.iload_n 1, 1, [1], 0), (.ifCond .ne 7, 3, [501], 0), (.iconst (-1), 1, [], (-1)), (.goto 4, 3, [502], 0)]
def bk_Law_refusesAny_501 : List ab_O := [(.iconst 4, 1, [], 4), (.nop, 0, [502], 0)]
def bk_Law_refusesAny_502_0 : List ab_O := [(.invokevirtual 23, 3, [105,3,0,0,610,611,612,9,7], 0), (.ldc 38, 2, [653], (-1000001)), (.if_icmp .ne 204, 3, [711], 0), (.aload_n 0, 1, [0], 0), (.iload 4, 2, [4], 0), (.iconst 0, 1, [], 0), (.iconst 0, 1, [], 0), (.iconst 0, 1, [], 0), (.invokevirtual 68, 3, [106,5,0,0,656,657,658,9,7], 0), (.ldc 38, 2, [653], (-1000001)), (.if_icmp .ne 190, 3, [711], 0), (.aload_n 0, 1, [0], 0), (.iconst 0, 1, [], 0), (.iconst 0, 1, [], 0), (.iload 6, 2, [6], 0), (.iconst 0, 1, [], 0), (.invokevirtual 68, 3, [106,5,0,0,656,657,658,9,7], 0), (.ldc 38, 2, [653], (-1000001)), (.if_icmp .ne 176, 3, [711], 0), (.aload_n 0, 1, [0], 0), (.iconst 0, 1, [], 0), (.iconst 0, 1, [], 0), (.iconst 0, 1, [], 0), (.iload 5, 2, [5], 0), (.invokevirtual 68, 3, [106,5,0,0,656,657,658,9,7], 0), (.ldc 38, 2, [653], (-1000001)), (.if_icmp .ne 162, 3, [711], 0), (.aload_n 0, 1, [0], 0), (.iconst 0, 1, [], 0), (.iconst 0, 1, [], 0)]
def bk_Law_refusesAny_502_1 : List ab_O := [(.iconst 0, 1, [], 0), (.iconst 1, 1, [], 1), (.invokevirtual 68, 3, [106,5,0,0,656,657,658,9,7], 0), (.ldc 54, 2, [654], (-1000002)), (.if_icmp .ne 149, 3, [711], 0), (.aload_n 0, 1, [0], 0), (.iload 4, 2, [4], 0), (.iconst 0, 1, [], 0), (.invokevirtual 72, 3, [107,3,0,0,672,673,674,9,7], 0), (.ldc 38, 2, [653], (-1000001)), (.if_icmp .ne 137, 3, [711], 0), (.aload_n 0, 1, [0], 0), (.iconst 0, 1, [], 0), (.iconst 0, 1, [], 0), (.invokevirtual 72, 3, [107,3,0,0,672,673,674,9,7], 0), (.ldc 54, 2, [654], (-1000002)), (.if_icmp .ne 126, 3, [711], 0), (.aload_n 0, 1, [0], 0), (.iload_n 2, 1, [2], 0), (.iconst 0, 1, [], 0), (.invokevirtual 75, 3, [108,3,0,0,680,681,682,9,7], 0), (.ldc 38, 2, [653], (-1000001)), (.if_icmp .ne 115, 3, [711], 0), (.aload_n 0, 1, [0], 0), (.iconst 0, 1, [], 0), (.iload_n 1, 1, [1], 0), (.ifCond .ne 7, 3, [609], 0), (.iconst (-1), 1, [], (-1)), (.goto 4, 3, [610], 0)]
def bk_Law_refusesAny_502 : List ab_O := bk_Law_refusesAny_502_0 ++ (bk_Law_refusesAny_502_1)
def bk_Law_refusesAny_609 : List ab_O := [(.iconst 3, 1, [], 3), (.nop, 0, [610], 0)]
def bk_Law_refusesAny_610 : List ab_O := [(.invokevirtual 75, 3, [108,3,0,0,680,681,682,9,7], 0), (.ldc 38, 2, [653], (-1000001)), (.if_icmp .ne 96, 3, [711], 0), (.aload_n 0, 1, [0], 0), (.iload_n 2, 1, [2], 0), (.iconst 0, 1, [], 0), (.invokevirtual 78, 3, [109,3,0,0,699,700,701,9,7], 0), (.ldc 38, 2, [653], (-1000001)), (.if_icmp .ne 85, 3, [711], 0), (.aload_n 0, 1, [0], 0), (.iconst 0, 1, [], 0), (.iload_n 2, 1, [2], 0), (.invokevirtual 78, 3, [109,3,0,0,699,700,701,9,7], 0), (.ldc 38, 2, [653], (-1000001)), (.if_icmp .ne 74, 3, [711], 0), (.aload_n 0, 1, [0], 0), (.iload_n 2, 1, [2], 0), (.invokevirtual 81, 3, [110,2,0,0,705,706,707,9,7], 0), (.ldc 38, 2, [653], (-1000001)), (.if_icmp .ne 64, 3, [711], 0), (.aload_n 0, 1, [0], 0), (.iload_n 1, 1, [1], 0), (.ifCond .ne 7, 3, [659], 0), (.iconst (-1), 1, [], (-1)), (.goto 5, 3, [661], 0)]
def bk_Law_refusesAny_659 : List ab_O := [(.bipush 10, 2, [], 10), (.nop, 0, [661], 0)]
def bk_Law_refusesAny_661 : List ab_O := [(.invokevirtual 13, 3, [111,2,0,0,523,524,525,9,7], 0), (.ldc 38, 2, [653], (-1000001)), (.if_icmp .ne 45, 3, [711], 0), (.aload_n 0, 1, [0], 0), (.iload_n 1, 1, [1], 0), (.ifCond .ne 8, 3, [679], 0), (.bipush 31, 2, [], 31), (.goto 5, 3, [681], 0)]
def bk_Law_refusesAny_679 : List ab_O := [(.bipush 127, 2, [], 127), (.nop, 0, [681], 0)]
def bk_Law_refusesAny_681 : List ab_O := [(.invokevirtual 84, 3, [113,2,0,0,715,716,717,9,7], 0), (.ldc 38, 2, [653], (-1000001)), (.if_icmp .ne 25, 3, [711], 0), (.aload_n 0, 1, [0], 0), (.iload_n 1, 1, [1], 0), (.ifCond .ne 7, 3, [698], 0), (.iconst (-1), 1, [], (-1)), (.goto 4, 3, [699], 0)]
def bk_Law_refusesAny_698 : List ab_O := [(.iconst 3, 1, [], 3), (.nop, 0, [699], 0)]
def bk_Law_refusesAny_699 : List ab_O := [(.invokevirtual 87, 3, [115,2,0,0,724,725,726,9,7], 0), (.ldc 38, 2, [653], (-1000001)), (.if_icmp .ne 7, 3, [711], 0), (.iconst 1, 1, [], 1), (.goto 4, 3, [712], 0)]
def bk_Law_refusesAny_711 : List ab_O := [(.iconst 0, 1, [], 0), (.nop, 0, [712], 0)]
def bk_Law_refusesAny_712 : List ab_O := [(.ireturn, 1, [1], 0)]
def bt_Law_refusesAny : List (Nat × List ab_O) := [(0, bk_Law_refusesAny_0), (8, bk_Law_refusesAny_8), (9, bk_Law_refusesAny_9), (18, bk_Law_refusesAny_18), (23, bk_Law_refusesAny_23), (32, bk_Law_refusesAny_32), (37, bk_Law_refusesAny_37), (47, bk_Law_refusesAny_47), (48, bk_Law_refusesAny_48), (60, bk_Law_refusesAny_60), (63, bk_Law_refusesAny_63), (74, bk_Law_refusesAny_74), (76, bk_Law_refusesAny_76), (240, bk_Law_refusesAny_240), (242, bk_Law_refusesAny_242), (325, bk_Law_refusesAny_325), (328, bk_Law_refusesAny_328), (373, bk_Law_refusesAny_373), (374, bk_Law_refusesAny_374), (404, bk_Law_refusesAny_404), (405, bk_Law_refusesAny_405), (447, bk_Law_refusesAny_447), (449, bk_Law_refusesAny_449), (470, bk_Law_refusesAny_470), (472, bk_Law_refusesAny_472), (501, bk_Law_refusesAny_501), (502, bk_Law_refusesAny_502), (609, bk_Law_refusesAny_609), (610, bk_Law_refusesAny_610), (659, bk_Law_refusesAny_659), (661, bk_Law_refusesAny_661), (679, bk_Law_refusesAny_679), (681, bk_Law_refusesAny_681), (698, bk_Law_refusesAny_698), (699, bk_Law_refusesAny_699), (711, bk_Law_refusesAny_711), (712, bk_Law_refusesAny_712)]
abbrev yn_Law_refused : Nat := 126
def bk_Law_refused_0 : List ab_O := [(.aload_n 0, 1, [0], 0), (.invokestatic 90, 3, [124,1,1,0,581,582,0,8], 0), (.lstore_n 1, 1, [1], 0), (.aload_n 0, 1, [0], 0), (.bipush 8, 2, [], 8), (.invokevirtual 13, 3, [111,2,0,0,523,524,525,9,7], 0), (.istore_n 3, 1, [3], 0), (.aload_n 0, 1, [0], 0), (.iconst 0, 1, [], 0), (.invokestatic 94, 3, [125,2,1,0,650,651,0,8], 0), (.ifCond .eq 34, 3, [51], 0), (.aload_n 0, 1, [0], 0), (.iconst 1, 1, [], 1), (.invokestatic 94, 3, [125,2,1,0,650,651,0,8], 0), (.ifCond .eq 26, 3, [51], 0), (.aload_n 0, 1, [0], 0), (.invokestatic 90, 3, [124,1,1,0,581,582,0,8], 0), (.lload_n 1, 1, [1], 0), (.lcmp, 1, [], 0), (.ifCond .ne 17, 3, [51], 0), (.aload_n 0, 1, [0], 0), (.bipush 8, 2, [], 8), (.invokevirtual 13, 3, [111,2,0,0,523,524,525,9,7], 0), (.iload_n 3, 1, [3], 0), (.if_icmp .ne 7, 3, [51], 0), (.iconst 1, 1, [], 1), (.goto 4, 3, [52], 0)]
def bk_Law_refused_51 : List ab_O := [(.iconst 0, 1, [], 0), (.nop, 0, [52], 0)]
def bk_Law_refused_52 : List ab_O := [(.ireturn, 1, [1], 0)]
def bt_Law_refused : List (Nat × List ab_O) := [(0, bk_Law_refused_0), (51, bk_Law_refused_51), (52, bk_Law_refused_52)]
abbrev yn_Law_books : Nat := 127
def bk_Law_books_0_0 : List ab_O := [(.new 14, 3, [7,19,20,9], 0), (.dup, 1, [], 0), (.invokespecial 98, 3, [91,1,2,0,21,22,0,9], 0), (.astore_n 0, 1, [0], 0), (.aload_n 0, 1, [0], 0), (.invokevirtual 99, 3, [112,1,0,0,564,565,566,9,7], 0), (.ldc 54, 2, [654], (-1000002)), (.if_icmp .ne 271, 3, [285], 0), (.aload_n 0, 1, [0], 0), (.iconst 5, 1, [], 5), (.invokevirtual 13, 3, [111,2,0,0,523,524,525,9,7], 0), (.ifCond .ne 263, 3, [285], 0), (.aload_n 0, 1, [0], 0), (.iconst 0, 1, [], 0), (.invokevirtual 81, 3, [110,2,0,0,705,706,707,9,7], 0), (.ldc 67, 2, [655], (-1000004)), (.if_icmp .ne 253, 3, [285], 0), (.aload_n 0, 1, [0], 0), (.iconst 0, 1, [], 0), (.iconst 0, 1, [], 0), (.invokevirtual 75, 3, [108,3,0,0,680,681,682,9,7], 0), (.ldc 67, 2, [655], (-1000004)), (.if_icmp .ne 242, 3, [285], 0), (.aload_n 0, 1, [0], 0), (.bipush 10, 2, [], 10), (.iconst 0, 1, [], 0), (.invokevirtual 33, 3, [92,3,0,0,240,241,242,9,7], 0), (.ifCond .ne 232, 3, [285], 0), (.aload_n 0, 1, [0], 0), (.bipush 20, 2, [], 20)]
def bk_Law_books_0_1 : List ab_O := [(.iconst 0, 1, [], 0), (.invokevirtual 33, 3, [92,3,0,0,240,241,242,9,7], 0), (.iconst 1, 1, [], 1), (.if_icmp .ne 221, 3, [285], 0), (.aload_n 0, 1, [0], 0), (.bipush 7, 2, [], 7), (.iconst 1, 1, [], 1), (.invokevirtual 33, 3, [92,3,0,0,240,241,242,9,7], 0), (.iconst 2, 1, [], 2), (.if_icmp .ne 210, 3, [285], 0), (.aload_n 0, 1, [0], 0), (.iconst 0, 1, [], 0), (.invokevirtual 39, 3, [93,2,0,0,329,330,331,9,7], 0), (.ifCond .ne 202, 3, [285], 0), (.aload_n 0, 1, [0], 0), (.iconst 0, 1, [], 0), (.invokevirtual 39, 3, [93,2,0,0,329,330,331,9,7], 0), (.iconst 1, 1, [], 1), (.if_icmp .ne 193, 3, [285], 0), (.aload_n 0, 1, [0], 0), (.iconst 0, 1, [], 0), (.invokevirtual 39, 3, [93,2,0,0,329,330,331,9,7], 0), (.iconst 2, 1, [], 2), (.if_icmp .ne 184, 3, [285], 0), (.aload_n 0, 1, [0], 0), (.iconst 1, 1, [], 1), (.invokevirtual 39, 3, [93,2,0,0,329,330,331,9,7], 0), (.iconst 3, 1, [], 3), (.if_icmp .ne 175, 3, [285], 0), (.aload_n 0, 1, [0], 0)]
def bk_Law_books_0_2 : List ab_O := [(.iconst 1, 1, [], 1), (.invokevirtual 39, 3, [93,2,0,0,329,330,331,9,7], 0), (.iconst 4, 1, [], 4), (.if_icmp .ne 166, 3, [285], 0), (.aload_n 0, 1, [0], 0), (.iconst 0, 1, [], 0), (.iconst 0, 1, [], 0), (.iconst 0, 1, [], 0), (.invokevirtual 42, 3, [94,4,0,0,344,345,346,9,7], 0), (.bipush 100, 2, [], 100), (.if_icmp .ne 154, 3, [285], 0), (.aload_n 0, 1, [0], 0), (.iconst 0, 1, [], 0), (.iconst 1, 1, [], 1), (.iconst 0, 1, [], 0), (.invokevirtual 42, 3, [94,4,0,0,344,345,346,9,7], 0), (.sipush 150, 3, [], 150), (.if_icmp .ne 141, 3, [285], 0), (.aload_n 0, 1, [0], 0), (.iconst 1, 1, [], 1), (.iconst 1, 1, [], 1), (.iconst 1, 1, [], 1), (.invokevirtual 42, 3, [94,4,0,0,344,345,346,9,7], 0), (.sipush 400, 3, [], 400), (.if_icmp .ne 128, 3, [285], 0), (.aload_n 0, 1, [0], 0), (.iconst 1, 1, [], 1), (.iconst 1, 1, [], 1), (.iconst 0, 1, [], 0), (.invokevirtual 42, 3, [94,4,0,0,344,345,346,9,7], 0)]
def bk_Law_books_0_3 : List ab_O := [(.ldc 54, 2, [654], (-1000002)), (.if_icmp .ne 116, 3, [285], 0), (.aload_n 0, 1, [0], 0), (.iconst 1, 1, [], 1), (.iconst 2, 1, [], 2), (.invokevirtual 45, 3, [95,3,0,0,405,406,407,9,7], 0), (.ldc 54, 2, [654], (-1000002)), (.if_icmp .ne 105, 3, [285], 0), (.aload_n 0, 1, [0], 0), (.iconst 2, 1, [], 2), (.iconst 2, 1, [], 2), (.invokevirtual 45, 3, [95,3,0,0,405,406,407,9,7], 0), (.ldc 54, 2, [654], (-1000002)), (.if_icmp .ne 94, 3, [285], 0), (.aload_n 0, 1, [0], 0), (.iconst 0, 1, [], 0), (.iconst 2, 1, [], 2), (.invokevirtual 45, 3, [95,3,0,0,405,406,407,9,7], 0), (.ldc 54, 2, [654], (-1000002)), (.if_icmp .ne 83, 3, [285], 0), (.aload_n 0, 1, [0], 0), (.iconst 3, 1, [], 3), (.iconst 2, 1, [], 2), (.invokevirtual 45, 3, [95,3,0,0,405,406,407,9,7], 0), (.iconst 2, 1, [], 2), (.if_icmp .ne 73, 3, [285], 0), (.aload_n 0, 1, [0], 0), (.iconst 1, 1, [], 1), (.iconst 3, 1, [], 3), (.invokevirtual 19, 3, [104,3,0,0,586,587,588,9,7], 0)]
def bk_Law_books_0_4 : List ab_O := [(.sipush 130, 3, [], 130), (.if_icmp .ne 61, 3, [285], 0), (.aload_n 0, 1, [0], 0), (.iconst 4, 1, [], 4), (.iconst 0, 1, [], 0), (.iconst 0, 1, [], 0), (.invokevirtual 29, 3, [101,4,0,0,635,636,637,9,7], 0), (.iconst 2, 1, [], 2), (.if_icmp .ne 50, 3, [285], 0), (.aload_n 0, 1, [0], 0), (.iconst 4, 1, [], 4), (.iconst 0, 1, [], 0), (.iconst 2, 1, [], 2), (.invokevirtual 29, 3, [101,4,0,0,635,636,637,9,7], 0), (.iconst 1, 1, [], 1), (.if_icmp .ne 39, 3, [285], 0), (.aload_n 0, 1, [0], 0), (.iconst 4, 1, [], 4), (.iconst 0, 1, [], 0), (.iconst 3, 1, [], 3), (.invokevirtual 29, 3, [101,4,0,0,635,636,637,9,7], 0), (.bipush 105, 2, [], 105), (.if_icmp .ne 27, 3, [285], 0), (.aload_n 0, 1, [0], 0), (.iconst 3, 1, [], 3), (.iconst 1, 1, [], 1), (.iconst 3, 1, [], 3), (.invokevirtual 29, 3, [101,4,0,0,635,636,637,9,7], 0), (.bipush 105, 2, [], 105), (.if_icmp .ne 15, 3, [285], 0)]
def bk_Law_books_0_5 : List ab_O := [(.aload_n 0, 1, [0], 0), (.iconst 4, 1, [], 4), (.iconst 0, 1, [], 0), (.iconst 0, 1, [], 0), (.invokevirtual 42, 3, [94,4,0,0,344,345,346,9,7], 0), (.ldc 54, 2, [654], (-1000002)), (.if_icmp .eq 5, 3, [287], 0), (.nop, 0, [285], 0)]
def bk_Law_books_0 : List ab_O := bk_Law_books_0_0 ++ (bk_Law_books_0_1 ++ (bk_Law_books_0_2 ++ (bk_Law_books_0_3 ++ (bk_Law_books_0_4 ++ (bk_Law_books_0_5)))))
def bk_Law_books_285 : List ab_O := [(.iconst 0, 1, [], 0), (.ireturn, 1, [1], 0)]
def bk_Law_books_287_0 : List ab_O := [(.aload_n 0, 1, [0], 0), (.iconst 4, 1, [], 4), (.iconst 0, 1, [], 0), (.iconst 1, 1, [], 1), (.invokevirtual 48, 3, [96,4,0,0,429,430,431,9,7], 0), (.sipush 235, 3, [], 235), (.if_icmp .ne 278, 3, [575], 0), (.aload_n 0, 1, [0], 0), (.iconst 3, 1, [], 3), (.iconst 1, 1, [], 1), (.iconst 1, 1, [], 1), (.invokevirtual 29, 3, [101,4,0,0,635,636,637,9,7], 0), (.iconst 1, 1, [], 1), (.if_icmp .ne 267, 3, [575], 0), (.aload_n 0, 1, [0], 0), (.iconst 3, 1, [], 3), (.iconst 1, 1, [], 1), (.iconst 2, 1, [], 2), (.invokevirtual 48, 3, [96,4,0,0,429,430,431,9,7], 0), (.ldc 54, 2, [654], (-1000002)), (.if_icmp .ne 255, 3, [575], 0), (.aload_n 0, 1, [0], 0), (.iconst 3, 1, [], 3), (.iconst 0, 1, [], 0), (.iconst 2, 1, [], 2), (.invokevirtual 48, 3, [96,4,0,0,429,430,431,9,7], 0), (.ldc 54, 2, [654], (-1000002)), (.if_icmp .ne 243, 3, [575], 0), (.aload_n 0, 1, [0], 0), (.iconst 0, 1, [], 0)]
def bk_Law_books_287_1 : List ab_O := [(.iconst 1, 1, [], 1), (.iconst 2, 1, [], 2), (.invokevirtual 48, 3, [96,4,0,0,429,430,431,9,7], 0), (.sipush 375, 3, [], 375), (.if_icmp .ne 230, 3, [575], 0), (.aload_n 0, 1, [0], 0), (.iconst 0, 1, [], 0), (.iconst 1, 1, [], 1), (.iconst 3, 1, [], 3), (.invokevirtual 29, 3, [101,4,0,0,635,636,637,9,7], 0), (.bipush 25, 2, [], 25), (.if_icmp .ne 218, 3, [575], 0), (.aload_n 0, 1, [0], 0), (.iconst 0, 1, [], 0), (.iconst 0, 1, [], 0), (.iconst 0, 1, [], 0), (.invokevirtual 48, 3, [96,4,0,0,429,430,431,9,7], 0), (.sipush 475, 3, [], 475), (.if_icmp .ne 205, 3, [575], 0), (.aload_n 0, 1, [0], 0), (.iconst 0, 1, [], 0), (.iconst 2, 1, [], 2), (.invokevirtual 19, 3, [104,3,0,0,586,587,588,9,7], 0), (.iconst 3, 1, [], 3), (.if_icmp .ne 195, 3, [575], 0), (.aload_n 0, 1, [0], 0), (.iconst 0, 1, [], 0), (.iconst 5, 1, [], 5), (.invokevirtual 19, 3, [104,3,0,0,586,587,588,9,7], 0), (.iconst 3, 1, [], 3)]
def bk_Law_books_287_2 : List ab_O := [(.if_icmp .ne 185, 3, [575], 0), (.aload_n 0, 1, [0], 0), (.iconst 0, 1, [], 0), (.bipush 6, 2, [], 6), (.invokevirtual 19, 3, [104,3,0,0,586,587,588,9,7], 0), (.iconst 1, 1, [], 1), (.if_icmp .ne 174, 3, [575], 0), (.aload_n 0, 1, [0], 0), (.iconst 0, 1, [], 0), (.bipush 7, 2, [], 7), (.invokevirtual 19, 3, [104,3,0,0,586,587,588,9,7], 0), (.iconst 3, 1, [], 3), (.if_icmp .ne 163, 3, [575], 0), (.aload_n 0, 1, [0], 0), (.iconst 0, 1, [], 0), (.bipush 8, 2, [], 8), (.invokevirtual 19, 3, [104,3,0,0,586,587,588,9,7], 0), (.iconst 1, 1, [], 1), (.if_icmp .ne 152, 3, [575], 0), (.aload_n 0, 1, [0], 0), (.iconst 1, 1, [], 1), (.bipush 8, 2, [], 8), (.invokevirtual 19, 3, [104,3,0,0,586,587,588,9,7], 0), (.iconst 1, 1, [], 1), (.if_icmp .ne 141, 3, [575], 0), (.aload_n 0, 1, [0], 0), (.iconst 2, 1, [], 2), (.bipush 8, 2, [], 8), (.invokevirtual 19, 3, [104,3,0,0,586,587,588,9,7], 0), (.ifCond .ne 131, 3, [575], 0)]
def bk_Law_books_287_3 : List ab_O := [(.aload_n 0, 1, [0], 0), (.iconst 0, 1, [], 0), (.iconst 4, 1, [], 4), (.invokevirtual 19, 3, [104,3,0,0,586,587,588,9,7], 0), (.sipush 575, 3, [], 575), (.if_icmp .ne 119, 3, [575], 0), (.aload_n 0, 1, [0], 0), (.bipush 7, 2, [], 7), (.invokevirtual 13, 3, [111,2,0,0,523,524,525,9,7], 0), (.iconst 3, 1, [], 3), (.if_icmp .ne 109, 3, [575], 0), (.aload_n 0, 1, [0], 0), (.iconst 1, 1, [], 1), (.invokevirtual 81, 3, [110,2,0,0,705,706,707,9,7], 0), (.ldc 103, 2, [772], 1129447424), (.if_icmp .ne 99, 3, [575], 0), (.aload_n 0, 1, [0], 0), (.iconst 2, 1, [], 2), (.invokevirtual 81, 3, [110,2,0,0,705,706,707,9,7], 0), (.ldc 67, 2, [655], (-1000004)), (.if_icmp .ne 89, 3, [575], 0), (.aload_n 0, 1, [0], 0), (.iconst 0, 1, [], 0), (.iconst 3, 1, [], 3), (.iconst 0, 1, [], 0), (.iconst 0, 1, [], 0), (.invokevirtual 68, 3, [106,5,0,0,656,657,658,9,7], 0), (.ldc 104, 2, [773], 99802), (.if_icmp .ne 76, 3, [575], 0), (.aload_n 0, 1, [0], 0)]
def bk_Law_books_287_4 : List ab_O := [(.iconst 0, 1, [], 0), (.iconst 3, 1, [], 3), (.iconst 0, 1, [], 0), (.iconst 1, 1, [], 1), (.invokevirtual 68, 3, [106,5,0,0,656,657,658,9,7], 0), (.ldc 105, 2, [774], 99840), (.if_icmp .ne 63, 3, [575], 0), (.aload_n 0, 1, [0], 0), (.iconst 0, 1, [], 0), (.iconst 3, 1, [], 3), (.iconst 5, 1, [], 5), (.iconst 1, 1, [], 1), (.invokevirtual 68, 3, [106,5,0,0,656,657,658,9,7], 0), (.ldc 106, 2, [775], 99845), (.if_icmp .ne 50, 3, [575], 0), (.aload_n 0, 1, [0], 0), (.iconst 0, 1, [], 0), (.iconst 3, 1, [], 3), (.invokevirtual 72, 3, [107,3,0,0,672,673,674,9,7], 0), (.ldc 67, 2, [655], (-1000004)), (.if_icmp .ne 39, 3, [575], 0), (.aload_n 0, 1, [0], 0), (.iconst 0, 1, [], 0), (.iconst 1, 1, [], 1), (.invokevirtual 78, 3, [109,3,0,0,699,700,701,9,7], 0), (.iconst 4, 1, [], 4), (.if_icmp .ne 29, 3, [575], 0), (.aload_n 0, 1, [0], 0), (.iconst 1, 1, [], 1), (.iconst 0, 1, [], 0)]
def bk_Law_books_287_5 : List ab_O := [(.invokevirtual 78, 3, [109,3,0,0,699,700,701,9,7], 0), (.iconst 3, 1, [], 3), (.if_icmp .ne 19, 3, [575], 0), (.aload_n 0, 1, [0], 0), (.iconst 1, 1, [], 1), (.iconst 3, 1, [], 3), (.invokevirtual 78, 3, [109,3,0,0,699,700,701,9,7], 0), (.ifCond .ne 10, 3, [575], 0), (.aload_n 0, 1, [0], 0), (.invokestatic 107, 3, [126,1,1,0,647,648,0,8], 0), (.ifCond .ne 5, 3, [577], 0), (.nop, 0, [575], 0)]
def bk_Law_books_287 : List ab_O := bk_Law_books_287_0 ++ (bk_Law_books_287_1 ++ (bk_Law_books_287_2 ++ (bk_Law_books_287_3 ++ (bk_Law_books_287_4 ++ (bk_Law_books_287_5)))))
def bk_Law_books_575 : List ab_O := [(.iconst 0, 1, [], 0), (.ireturn, 1, [1], 0)]
def bk_Law_books_577_0 : List ab_O := [(.aload_n 0, 1, [0], 0), (.iconst 2, 1, [], 2), (.iconst 0, 1, [], 0), (.invokevirtual 51, 3, [97,3,0,0,442,443,444,9,7], 0), (.iconst 2, 1, [], 2), (.if_icmp .ne 307, 3, [891], 0), (.aload_n 0, 1, [0], 0), (.iconst 0, 1, [], 0), (.iconst 0, 1, [], 0), (.invokevirtual 26, 3, [103,3,0,0,629,630,631,9,7], 0), (.iconst 2, 1, [], 2), (.if_icmp .ne 297, 3, [891], 0), (.aload_n 0, 1, [0], 0), (.iconst 0, 1, [], 0), (.iconst 1, 1, [], 1), (.invokevirtual 26, 3, [103,3,0,0,629,630,631,9,7], 0), (.ifCond .ne 288, 3, [891], 0), (.aload_n 0, 1, [0], 0), (.iconst 0, 1, [], 0), (.iconst 2, 1, [], 2), (.invokevirtual 26, 3, [103,3,0,0,629,630,631,9,7], 0), (.iconst 1, 1, [], 1), (.if_icmp .ne 278, 3, [891], 0), (.aload_n 0, 1, [0], 0), (.iconst 2, 1, [], 2), (.iconst 3, 1, [], 3), (.invokevirtual 51, 3, [97,3,0,0,442,443,444,9,7], 0), (.ldc 54, 2, [654], (-1000002)), (.if_icmp .ne 267, 3, [891], 0), (.aload_n 0, 1, [0], 0)]
def bk_Law_books_577_1 : List ab_O := [(.iconst 4, 1, [], 4), (.iconst 1, 1, [], 1), (.invokevirtual 51, 3, [97,3,0,0,442,443,444,9,7], 0), (.ldc 54, 2, [654], (-1000002)), (.if_icmp .ne 256, 3, [891], 0), (.aload_n 0, 1, [0], 0), (.iconst 4, 1, [], 4), (.iconst 0, 1, [], 0), (.invokevirtual 51, 3, [97,3,0,0,442,443,444,9,7], 0), (.ifCond .ne 247, 3, [891], 0), (.aload_n 0, 1, [0], 0), (.iconst 1, 1, [], 1), (.invokevirtual 39, 3, [93,2,0,0,329,330,331,9,7], 0), (.iconst 5, 1, [], 5), (.if_icmp .ne 238, 3, [891], 0), (.aload_n 0, 1, [0], 0), (.iconst 5, 1, [], 5), (.iconst 1, 1, [], 1), (.invokevirtual 51, 3, [97,3,0,0,442,443,444,9,7], 0), (.ldc 54, 2, [654], (-1000002)), (.if_icmp .ne 227, 3, [891], 0), (.aload_n 0, 1, [0], 0), (.iconst 5, 1, [], 5), (.iconst 0, 1, [], 0), (.invokevirtual 51, 3, [97,3,0,0,442,443,444,9,7], 0), (.iconst 2, 1, [], 2), (.if_icmp .ne 217, 3, [891], 0), (.aload_n 0, 1, [0], 0), (.iconst 1, 1, [], 1), (.iconst 0, 1, [], 0)]
def bk_Law_books_577_2 : List ab_O := [(.invokevirtual 26, 3, [103,3,0,0,629,630,631,9,7], 0), (.iconst 5, 1, [], 5), (.if_icmp .ne 207, 3, [891], 0), (.aload_n 0, 1, [0], 0), (.iconst 2, 1, [], 2), (.iconst 4, 1, [], 4), (.bipush 30, 2, [], 30), (.invokevirtual 55, 3, [98,4,0,0,469,470,471,9,7], 0), (.iconst 3, 1, [], 3), (.if_icmp .ne 195, 3, [891], 0), (.aload_n 0, 1, [0], 0), (.iconst 0, 1, [], 0), (.iconst 0, 1, [], 0), (.invokevirtual 26, 3, [103,3,0,0,629,630,631,9,7], 0), (.iconst 3, 1, [], 3), (.if_icmp .ne 185, 3, [891], 0), (.aload_n 0, 1, [0], 0), (.iconst 0, 1, [], 0), (.iconst 1, 1, [], 1), (.invokevirtual 26, 3, [103,3,0,0,629,630,631,9,7], 0), (.iconst 4, 1, [], 4), (.if_icmp .ne 175, 3, [891], 0), (.aload_n 0, 1, [0], 0), (.iconst 0, 1, [], 0), (.iconst 2, 1, [], 2), (.invokevirtual 26, 3, [103,3,0,0,629,630,631,9,7], 0), (.ifCond .ne 166, 3, [891], 0), (.aload_n 0, 1, [0], 0), (.iconst 0, 1, [], 0), (.iconst 3, 1, [], 3)]
def bk_Law_books_577_3 : List ab_O := [(.invokevirtual 26, 3, [103,3,0,0,629,630,631,9,7], 0), (.iconst 1, 1, [], 1), (.if_icmp .ne 156, 3, [891], 0), (.aload_n 0, 1, [0], 0), (.iconst 1, 1, [], 1), (.iconst 1, 1, [], 1), (.invokevirtual 26, 3, [103,3,0,0,629,630,631,9,7], 0), (.iconst 2, 1, [], 2), (.if_icmp .ne 146, 3, [891], 0), (.aload_n 0, 1, [0], 0), (.iconst 1, 1, [], 1), (.iconst 2, 1, [], 2), (.invokevirtual 26, 3, [103,3,0,0,629,630,631,9,7], 0), (.ldc 67, 2, [655], (-1000004)), (.if_icmp .ne 135, 3, [891], 0), (.aload_n 0, 1, [0], 0), (.iconst 0, 1, [], 0), (.iconst 0, 1, [], 0), (.invokevirtual 19, 3, [104,3,0,0,586,587,588,9,7], 0), (.bipush 70, 2, [], 70), (.if_icmp .ne 124, 3, [891], 0), (.aload_n 0, 1, [0], 0), (.iconst 1, 1, [], 1), (.iconst 0, 1, [], 0), (.invokevirtual 19, 3, [104,3,0,0,586,587,588,9,7], 0), (.sipush 130, 3, [], 130), (.if_icmp .ne 112, 3, [891], 0), (.aload_n 0, 1, [0], 0), (.iconst 3, 1, [], 3), (.invokevirtual 13, 3, [111,2,0,0,523,524,525,9,7], 0)]
def bk_Law_books_577_4 : List ab_O := [(.iconst 1, 1, [], 1), (.if_icmp .ne 103, 3, [891], 0), (.aload_n 0, 1, [0], 0), (.iconst 4, 1, [], 4), (.iconst 3, 1, [], 3), (.invokevirtual 64, 3, [102,3,0,0,514,515,516,9,7], 0), (.ifCond .ne 94, 3, [891], 0), (.aload_n 0, 1, [0], 0), (.iconst 4, 1, [], 4), (.iconst 2, 1, [], 2), (.invokevirtual 64, 3, [102,3,0,0,514,515,516,9,7], 0), (.iconst 2, 1, [], 2), (.if_icmp .ne 84, 3, [891], 0), (.aload_n 0, 1, [0], 0), (.iconst 2, 1, [], 2), (.iconst 0, 1, [], 0), (.invokevirtual 64, 3, [102,3,0,0,514,515,516,9,7], 0), (.iconst 1, 1, [], 1), (.if_icmp .ne 74, 3, [891], 0), (.aload_n 0, 1, [0], 0), (.iconst 0, 1, [], 0), (.iconst 3, 1, [], 3), (.invokevirtual 19, 3, [104,3,0,0,586,587,588,9,7], 0), (.sipush 552, 3, [], 552), (.if_icmp .ne 62, 3, [891], 0), (.aload_n 0, 1, [0], 0), (.iconst 1, 1, [], 1), (.iconst 3, 1, [], 3), (.invokevirtual 19, 3, [104,3,0,0,586,587,588,9,7], 0), (.ifCond .ne 53, 3, [891], 0)]
def bk_Law_books_577_5 : List ab_O := [(.aload_n 0, 1, [0], 0), (.iconst 1, 1, [], 1), (.iconst 0, 1, [], 0), (.invokevirtual 75, 3, [108,3,0,0,680,681,682,9,7], 0), (.ldc 67, 2, [655], (-1000004)), (.if_icmp .ne 42, 3, [891], 0), (.aload_n 0, 1, [0], 0), (.iconst 3, 1, [], 3), (.invokevirtual 58, 3, [99,2,0,0,497,498,499,9,7], 0), (.iconst 2, 1, [], 2), (.if_icmp .ne 33, 3, [891], 0), (.aload_n 0, 1, [0], 0), (.iconst 1, 1, [], 1), (.invokevirtual 13, 3, [111,2,0,0,523,524,525,9,7], 0), (.iconst 4, 1, [], 4), (.if_icmp .ne 24, 3, [891], 0), (.aload_n 0, 1, [0], 0), (.iconst 4, 1, [], 4), (.invokevirtual 13, 3, [111,2,0,0,523,524,525,9,7], 0), (.bipush 6, 2, [], 6), (.if_icmp .ne 14, 3, [891], 0), (.aload_n 0, 1, [0], 0), (.iconst 4, 1, [], 4), (.iconst 0, 1, [], 0), (.invokevirtual 64, 3, [102,3,0,0,514,515,516,9,7], 0), (.ldc 38, 2, [653], (-1000001)), (.if_icmp .eq 5, 3, [893], 0), (.nop, 0, [891], 0)]
def bk_Law_books_577 : List ab_O := bk_Law_books_577_0 ++ (bk_Law_books_577_1 ++ (bk_Law_books_577_2 ++ (bk_Law_books_577_3 ++ (bk_Law_books_577_4 ++ (bk_Law_books_577_5)))))
def bk_Law_books_891 : List ab_O := [(.iconst 0, 1, [], 0), (.ireturn, 1, [1], 0)]
def bk_Law_books_893_0 : List ab_O := [(.aload_n 0, 1, [0], 0), (.iconst 0, 1, [], 0), (.iconst 5, 1, [], 5), (.bipush 71, 2, [], 71), (.invokevirtual 55, 3, [98,4,0,0,469,470,471,9,7], 0), (.ldc 54, 2, [654], (-1000002)), (.if_icmp .ne 94, 3, [997], 0), (.aload_n 0, 1, [0], 0), (.iconst 0, 1, [], 0), (.iconst 5, 1, [], 5), (.sipush (-131), 3, [], (-131)), (.invokevirtual 55, 3, [98,4,0,0,469,470,471,9,7], 0), (.ldc 54, 2, [654], (-1000002)), (.if_icmp .ne 80, 3, [997], 0), (.aload_n 0, 1, [0], 0), (.iconst 0, 1, [], 0), (.iconst 1, 1, [], 1), (.iconst 0, 1, [], 0), (.invokevirtual 55, 3, [98,4,0,0,469,470,471,9,7], 0), (.ldc 54, 2, [654], (-1000002)), (.if_icmp .ne 68, 3, [997], 0), (.aload_n 0, 1, [0], 0), (.iconst 2, 1, [], 2), (.sipush 9999, 3, [], 9999), (.invokevirtual 61, 3, [100,3,0,0,506,507,508,9,7], 0), (.bipush 100, 2, [], 100), (.if_icmp .ne 55, 3, [997], 0), (.aload_n 0, 1, [0], 0), (.iconst 2, 1, [], 2), (.invokevirtual 39, 3, [93,2,0,0,329,330,331,9,7], 0)]
def bk_Law_books_893_1 : List ab_O := [(.bipush 6, 2, [], 6), (.if_icmp .ne 45, 3, [997], 0), (.aload_n 0, 1, [0], 0), (.iconst 0, 1, [], 0), (.bipush 6, 2, [], 6), (.iconst 1, 1, [], 1), (.invokevirtual 55, 3, [98,4,0,0,469,470,471,9,7], 0), (.ldc 111, 2, [776], (-1000003)), (.if_icmp .ne 32, 3, [997], 0), (.aload_n 0, 1, [0], 0), (.iconst 0, 1, [], 0), (.bipush 6, 2, [], 6), (.iconst 0, 1, [], 0), (.invokevirtual 55, 3, [98,4,0,0,469,470,471,9,7], 0), (.iconst 2, 1, [], 2), (.if_icmp .ne 20, 3, [997], 0), (.aload_n 0, 1, [0], 0), (.invokevirtual 99, 3, [112,1,0,0,564,565,566,9,7], 0), (.iconst 3, 1, [], 3), (.if_icmp .ne 12, 3, [997], 0), (.aload_n 0, 1, [0], 0), (.iconst 5, 1, [], 5), (.invokevirtual 13, 3, [111,2,0,0,523,524,525,9,7], 0), (.iconst 2, 1, [], 2), (.if_icmp .eq 5, 3, [999], 0), (.nop, 0, [997], 0)]
def bk_Law_books_893 : List ab_O := bk_Law_books_893_0 ++ (bk_Law_books_893_1)
def bk_Law_books_997 : List ab_O := [(.iconst 0, 1, [], 0), (.ireturn, 1, [1], 0)]
def bk_Law_books_999 : List ab_O := [(.iconst 2, 1, [], 2), (.istore_n 1, 1, [1], 0), (.nop, 0, [1001], 0)]
def bk_Law_books_1001 : List ab_O := [(.iload_n 1, 1, [1], 0), (.bipush 8, 2, [], 8), (.if_icmp .ge 22, 3, [1026], 0), (.aload_n 0, 1, [0], 0), (.iconst 0, 1, [], 0), (.invokevirtual 39, 3, [93,2,0,0,329,330,331,9,7], 0), (.iconst 5, 1, [], 5), (.iload_n 1, 1, [1], 0), (.iadd, 1, [], 0), (.if_icmp .eq 5, 3, [1020], 0), (.iconst 0, 1, [], 0), (.ireturn, 1, [1], 0)]
def bk_Law_books_1020 : List ab_O := [(.iinc 1 1, 3, [1], 1), (.goto (-22), 3, [1001], 0)]
def bk_Law_books_1026_0 : List ab_O := [(.aload_n 0, 1, [0], 0), (.iconst 0, 1, [], 0), (.invokevirtual 39, 3, [93,2,0,0,329,330,331,9,7], 0), (.ldc 111, 2, [776], (-1000003)), (.if_icmp .ne 51, 3, [1084], 0), (.aload_n 0, 1, [0], 0), (.iconst 5, 1, [], 5), (.iconst 2, 1, [], 2), (.invokevirtual 45, 3, [95,3,0,0,405,406,407,9,7], 0), (.iconst 2, 1, [], 2), (.if_icmp .ne 41, 3, [1084], 0), (.aload_n 0, 1, [0], 0), (.bipush 7, 2, [], 7), (.iconst 2, 1, [], 2), (.iconst 0, 1, [], 0), (.invokevirtual 55, 3, [98,4,0,0,469,470,471,9,7], 0), (.ldc 111, 2, [776], (-1000003)), (.if_icmp .ne 28, 3, [1084], 0), (.aload_n 0, 1, [0], 0), (.bipush 7, 2, [], 7), (.iconst 2, 1, [], 2), (.iconst 0, 1, [], 0), (.iconst 0, 1, [], 0), (.invokevirtual 68, 3, [106,5,0,0,656,657,658,9,7], 0), (.ldc 112, 2, [777], 100000), (.if_icmp .le 14, 3, [1084], 0), (.aload_n 0, 1, [0], 0), (.iconst 0, 1, [], 0), (.iconst 1, 1, [], 1), (.invokevirtual 19, 3, [104,3,0,0,586,587,588,9,7], 0)]
def bk_Law_books_1026_1 : List ab_O := [(.bipush 8, 2, [], 8), (.if_icmp .eq 5, 3, [1086], 0), (.nop, 0, [1084], 0)]
def bk_Law_books_1026 : List ab_O := bk_Law_books_1026_0 ++ (bk_Law_books_1026_1)
def bk_Law_books_1084 : List ab_O := [(.iconst 0, 1, [], 0), (.ireturn, 1, [1], 0)]
def bk_Law_books_1086 : List ab_O := [(.iconst 3, 1, [], 3), (.istore_n 1, 1, [1], 0), (.nop, 0, [1088], 0)]
def bk_Law_books_1088 : List ab_O := [(.iload_n 1, 1, [1], 0), (.bipush 16, 2, [], 16), (.if_icmp .ge 21, 3, [1112], 0), (.aload_n 0, 1, [0], 0), (.iload_n 1, 1, [1], 0), (.iconst 3, 1, [], 3), (.invokevirtual 33, 3, [92,3,0,0,240,241,242,9,7], 0), (.iload_n 1, 1, [1], 0), (.if_icmp .eq 5, 3, [1106], 0), (.iconst 0, 1, [], 0), (.ireturn, 1, [1], 0)]
def bk_Law_books_1106 : List ab_O := [(.iinc 1 1, 3, [1], 1), (.goto (-21), 3, [1088], 0)]
def bk_Law_books_1112 : List ab_O := [(.aload_n 0, 1, [0], 0), (.iconst 1, 1, [], 1), (.iconst 0, 1, [], 0), (.invokevirtual 33, 3, [92,3,0,0,240,241,242,9,7], 0), (.ldc 111, 2, [776], (-1000003)), (.if_icmp .ne 36, 3, [1156], 0), (.aload_n 0, 1, [0], 0), (.iconst 0, 1, [], 0), (.iconst 0, 1, [], 0), (.invokevirtual 33, 3, [92,3,0,0,240,241,242,9,7], 0), (.ldc 38, 2, [653], (-1000001)), (.if_icmp .ne 25, 3, [1156], 0), (.aload_n 0, 1, [0], 0), (.iconst 0, 1, [], 0), (.iconst 3, 1, [], 3), (.invokevirtual 78, 3, [109,3,0,0,699,700,701,9,7], 0), (.ldc 113, 2, [778], 65528), (.if_icmp .ne 14, 3, [1156], 0), (.aload_n 0, 1, [0], 0), (.invokestatic 107, 3, [126,1,1,0,647,648,0,8], 0), (.ifCond .eq 7, 3, [1156], 0), (.iconst 1, 1, [], 1), (.goto 4, 3, [1157], 0)]
def bk_Law_books_1156 : List ab_O := [(.iconst 0, 1, [], 0), (.nop, 0, [1157], 0)]
def bk_Law_books_1157 : List ab_O := [(.ireturn, 1, [1], 0)]
def bt_Law_books : List (Nat × List ab_O) := [(0, bk_Law_books_0), (285, bk_Law_books_285), (287, bk_Law_books_287), (575, bk_Law_books_575), (577, bk_Law_books_577), (891, bk_Law_books_891), (893, bk_Law_books_893), (997, bk_Law_books_997), (999, bk_Law_books_999), (1001, bk_Law_books_1001), (1020, bk_Law_books_1020), (1026, bk_Law_books_1026), (1084, bk_Law_books_1084), (1086, bk_Law_books_1086), (1088, bk_Law_books_1088), (1106, bk_Law_books_1106), (1112, bk_Law_books_1112), (1156, bk_Law_books_1156), (1157, bk_Law_books_1157)]
abbrev yn_Law_types : Nat := 128
def bk_Law_types_0 : List ab_O := [(.iconst 1, 1, [], 1), (.istore_n 3, 1, [3], 0), (.bipush 56, 2, [], 56), (.istore 4, 2, [4], 0), (.nop, 0, [6], 0)]
def bk_Law_types_6 : List ab_O := [(.iload 4, 2, [4], 0), (.ifCond .lt 44, 3, [52], 0), (.lload_n 1, 1, [1], 0), (.iload 4, 2, [4], 0), (.lshr, 1, [], 0), (.ldc2_w 114, 3, [789], 255), (.land, 1, [], 0), (.l2i, 1, [], 0), (.istore 5, 2, [5], 0), (.iload_n 3, 1, [3], 0), (.ifCond .eq 21, 3, [44], 0), (.iload 5, 2, [5], 0), (.ifCond .eq 12, 3, [40], 0), (.aload_n 0, 1, [0], 0), (.iload 5, 2, [5], 0), (.invokevirtual 84, 3, [113,2,0,0,715,716,717,9,7], 0), (.ifCond .le 7, 3, [44], 0), (.nop, 0, [40], 0)]
def bk_Law_types_40 : List ab_O := [(.iconst 1, 1, [], 1), (.goto 4, 3, [45], 0)]
def bk_Law_types_44 : List ab_O := [(.iconst 0, 1, [], 0), (.nop, 0, [45], 0)]
def bk_Law_types_45 : List ab_O := [(.istore_n 3, 1, [3], 0), (.iinc 4 (-8), 3, [4], (-8)), (.goto (-43), 3, [6], 0)]
def bk_Law_types_52 : List ab_O := [(.iload_n 3, 1, [3], 0), (.ireturn, 1, [1], 0)]
def bt_Law_types : List (Nat × List ab_O) := [(0, bk_Law_types_0), (6, bk_Law_types_6), (40, bk_Law_types_40), (44, bk_Law_types_44), (45, bk_Law_types_45), (52, bk_Law_types_52)]
abbrev yn_Law_isFault : Nat := 129
def bk_Law_isFault_0 : List ab_O := [(.new 14, 3, [7,19,20,9], 0), (.dup, 1, [], 0), (.invokespecial 98, 3, [91,1,2,0,21,22,0,9], 0), (.astore 7, 2, [7], 0), (.aload 7, 2, [7], 0), (.lload_n 0, 1, [0], 0), (.invokestatic 116, 3, [128,2,1,0,786,787,0,8], 0), (.ifCond .eq 12, 3, [27], 0), (.aload 7, 2, [7], 0), (.lload_n 2, 1, [2], 0), (.invokestatic 116, 3, [128,2,1,0,786,787,0,8], 0), (.ifCond .ne 5, 3, [29], 0), (.nop, 0, [27], 0)]
def bk_Law_isFault_27 : List ab_O := [(.iconst 0, 1, [], 0), (.ireturn, 1, [1], 0)]
def bk_Law_isFault_29 : List ab_O := [(.aload 7, 2, [7], 0), (.iconst 0, 1, [], 0), (.invokevirtual 87, 3, [115,2,0,0,724,725,726,9,7], 0), (.iload 4, 2, [4], 0), (.if_icmp .ne 58, 3, [95], 0), (.aload 7, 2, [7], 0), (.iconst 1, 1, [], 1), (.invokevirtual 87, 3, [115,2,0,0,724,725,726,9,7], 0), (.iload 5, 2, [5], 0), (.if_icmp .ne 47, 3, [95], 0), (.aload 7, 2, [7], 0), (.iconst 2, 1, [], 2), (.invokevirtual 87, 3, [115,2,0,0,724,725,726,9,7], 0), (.iload 6, 2, [6], 0), (.if_icmp .ne 36, 3, [95], 0), (.aload 7, 2, [7], 0), (.invokevirtual 120, 3, [116,1,0,0,790,791,792,9,7], 0), (.ldc 54, 2, [654], (-1000002)), (.if_icmp .ne 26, 3, [95], 0), (.aload 7, 2, [7], 0), (.iconst 4, 1, [], 4), (.invokevirtual 13, 3, [111,2,0,0,523,524,525,9,7], 0), (.ifCond .ne 17, 3, [95], 0), (.aload 7, 2, [7], 0), (.bipush 8, 2, [], 8), (.invokevirtual 13, 3, [111,2,0,0,523,524,525,9,7], 0), (.ifCond .ne 7, 3, [95], 0), (.iconst 1, 1, [], 1), (.goto 4, 3, [96], 0)]
def bk_Law_isFault_95 : List ab_O := [(.iconst 0, 1, [], 0), (.nop, 0, [96], 0)]
def bk_Law_isFault_96 : List ab_O := [(.ireturn, 1, [1], 0)]
def bt_Law_isFault : List (Nat × List ab_O) := [(0, bk_Law_isFault_0), (27, bk_Law_isFault_27), (29, bk_Law_isFault_29), (95, bk_Law_isFault_95), (96, bk_Law_isFault_96)]
abbrev yn_Law_texts : Nat := 130
def bk_Law_texts_93 : List ab_O := [(.iconst 0, 1, [], 0), (.ireturn, 1, [1], 0)]
def bk_Law_texts_194 : List ab_O := [(.iconst 0, 1, [], 0), (.ireturn, 1, [1], 0)]
def bk_Law_texts_196_0 : List ab_O := [(.new 14, 3, [7,19,20,9], 0), (.dup, 1, [], 0), (.invokespecial 98, 3, [91,1,2,0,21,22,0,9], 0), (.astore_n 0, 1, [0], 0), (.aload_n 0, 1, [0], 0), (.iconst 0, 1, [], 0), (.invokevirtual 87, 3, [115,2,0,0,724,725,726,9,7], 0), (.ldc 67, 2, [655], (-1000004)), (.if_icmp .ne 211, 3, [422], 0), (.aload_n 0, 1, [0], 0), (.invokevirtual 120, 3, [116,1,0,0,790,791,792,9,7], 0), (.ifCond .ne 204, 3, [422], 0), (.aload_n 0, 1, [0], 0), (.bipush 8, 2, [], 8), (.invokevirtual 13, 3, [111,2,0,0,523,524,525,9,7], 0), (.iconst 1, 1, [], 1), (.if_icmp .ne 194, 3, [422], 0), (.aload_n 0, 1, [0], 0), (.bipush 9, 2, [], 9), (.iconst 2, 1, [], 2), (.invokevirtual 33, 3, [92,3,0,0,240,241,242,9,7], 0), (.ifCond .ne 184, 3, [422], 0), (.aload_n 0, 1, [0], 0), (.iconst 3, 1, [], 3), (.invokevirtual 39, 3, [93,2,0,0,329,330,331,9,7], 0), (.ifCond .ne 176, 3, [422], 0), (.aload_n 0, 1, [0], 0), (.ldc2_w 159, 3, [810], 7795796290829302628), (.invokestatic 116, 3, [128,2,1,0,786,787,0,8], 0), (.ifCond .eq 166, 3, [422], 0)]
def bk_Law_texts_196_1 : List ab_O := [(.aload_n 0, 1, [0], 0), (.ldc2_w 161, 3, [811], 3543259973178635067), (.invokestatic 116, 3, [128,2,1,0,786,787,0,8], 0), (.ifCond .eq 156, 3, [422], 0), (.aload_n 0, 1, [0], 0), (.invokevirtual 120, 3, [116,1,0,0,790,791,792,9,7], 0), (.iconst 3, 1, [], 3), (.if_icmp .ne 148, 3, [422], 0), (.aload_n 0, 1, [0], 0), (.iconst 0, 1, [], 0), (.iconst 3, 1, [], 3), (.invokevirtual 19, 3, [104,3,0,0,586,587,588,9,7], 0), (.bipush 70, 2, [], 70), (.if_icmp .ne 137, 3, [422], 0), (.aload_n 0, 1, [0], 0), (.iconst 1, 1, [], 1), (.iconst 0, 1, [], 0), (.iconst 1, 1, [], 1), (.invokevirtual 29, 3, [101,4,0,0,635,636,637,9,7], 0), (.iconst 3, 1, [], 3), (.if_icmp .ne 126, 3, [422], 0), (.aload_n 0, 1, [0], 0), (.bipush 8, 2, [], 8), (.invokevirtual 13, 3, [111,2,0,0,523,524,525,9,7], 0), (.iconst 4, 1, [], 4), (.if_icmp .ne 116, 3, [422], 0), (.aload_n 0, 1, [0], 0), (.invokevirtual 163, 3, [114,1,0,0,812,813,814,9,7], 0), (.bipush 16, 2, [], 16), (.if_icmp .ne 107, 3, [422], 0)]
def bk_Law_texts_196_2 : List ab_O := [(.aload_n 0, 1, [0], 0), (.ldc2_w 166, 3, [816], 8012233797736345644), (.invokestatic 116, 3, [128,2,1,0,786,787,0,8], 0), (.ifCond .eq 97, 3, [422], 0), (.aload_n 0, 1, [0], 0), (.ldc2_w 168, 3, [817], 12859), (.invokestatic 116, 3, [128,2,1,0,786,787,0,8], 0), (.ifCond .eq 87, 3, [422], 0), (.aload_n 0, 1, [0], 0), (.iconst 0, 1, [], 0), (.invokevirtual 87, 3, [115,2,0,0,724,725,726,9,7], 0), (.ldc 67, 2, [655], (-1000004)), (.if_icmp .ne 77, 3, [422], 0), (.aload_n 0, 1, [0], 0), (.invokevirtual 120, 3, [116,1,0,0,790,791,792,9,7], 0), (.iconst 2, 1, [], 2), (.if_icmp .ne 69, 3, [422], 0), (.aload_n 0, 1, [0], 0), (.iconst 3, 1, [], 3), (.iconst 1, 1, [], 1), (.invokevirtual 19, 3, [104,3,0,0,586,587,588,9,7], 0), (.iconst 2, 1, [], 2), (.if_icmp .ne 59, 3, [422], 0), (.aload_n 0, 1, [0], 0), (.iconst 0, 1, [], 0), (.iconst 1, 1, [], 1), (.invokevirtual 19, 3, [104,3,0,0,586,587,588,9,7], 0), (.iconst 1, 1, [], 1), (.if_icmp .ne 49, 3, [422], 0), (.aload_n 0, 1, [0], 0)]
def bk_Law_texts_196_3 : List ab_O := [(.iconst 3, 1, [], 3), (.invokevirtual 13, 3, [111,2,0,0,523,524,525,9,7], 0), (.iconst 1, 1, [], 1), (.if_icmp .ne 40, 3, [422], 0), (.aload_n 0, 1, [0], 0), (.invokevirtual 99, 3, [112,1,0,0,564,565,566,9,7], 0), (.iconst 3, 1, [], 3), (.if_icmp .ne 32, 3, [422], 0), (.aload_n 0, 1, [0], 0), (.iconst 3, 1, [], 3), (.iconst 1, 1, [], 1), (.invokevirtual 19, 3, [104,3,0,0,586,587,588,9,7], 0), (.iconst 1, 1, [], 1), (.if_icmp .ne 22, 3, [422], 0), (.aload_n 0, 1, [0], 0), (.iconst 2, 1, [], 2), (.iconst 2, 1, [], 2), (.invokevirtual 64, 3, [102,3,0,0,514,515,516,9,7], 0), (.iconst 1, 1, [], 1), (.if_icmp .ne 12, 3, [422], 0), (.aload_n 0, 1, [0], 0), (.invokevirtual 163, 3, [114,1,0,0,812,813,814,9,7], 0), (.bipush 10, 2, [], 10), (.if_icmp .eq 5, 3, [424], 0), (.nop, 0, [422], 0)]
def bk_Law_texts_196 : List ab_O := bk_Law_texts_196_0 ++ (bk_Law_texts_196_1 ++ (bk_Law_texts_196_2 ++ (bk_Law_texts_196_3)))
def bk_Law_texts_422 : List ab_O := [(.iconst 0, 1, [], 0), (.ireturn, 1, [1], 0)]
def bk_Law_texts_424 : List ab_O := [(.iconst 0, 1, [], 0), (.istore_n 1, 1, [1], 0), (.nop, 0, [426], 0)]
def bk_Law_texts_426 : List ab_O := [(.iload_n 1, 1, [1], 0), (.bipush 60, 2, [], 60), (.if_icmp .ge 23, 3, [452], 0), (.aload_n 0, 1, [0], 0), (.bipush 108, 2, [], 108), (.invokevirtual 84, 3, [113,2,0,0,715,716,717,9,7], 0), (.iload_n 1, 1, [1], 0), (.iconst 1, 1, [], 1), (.iadd, 1, [], 0), (.if_icmp .eq 5, 3, [446], 0), (.iconst 0, 1, [], 0), (.ireturn, 1, [1], 0)]
def bk_Law_texts_446 : List ab_O := [(.iinc 1 1, 3, [1], 1), (.goto (-23), 3, [426], 0)]
def bk_Law_texts_452 : List ab_O := [(.aload_n 0, 1, [0], 0), (.bipush 108, 2, [], 108), (.invokevirtual 84, 3, [113,2,0,0,715,716,717,9,7], 0), (.ldc 111, 2, [776], (-1000003)), (.if_icmp .ne 33, 3, [493], 0), (.aload_n 0, 1, [0], 0), (.iconst 0, 1, [], 0), (.invokevirtual 87, 3, [115,2,0,0,724,725,726,9,7], 0), (.ifCond .ne 25, 3, [493], 0), (.aload_n 0, 1, [0], 0), (.iconst 2, 1, [], 2), (.invokevirtual 87, 3, [115,2,0,0,724,725,726,9,7], 0), (.iconst 1, 1, [], 1), (.if_icmp .ne 16, 3, [493], 0), (.aload_n 0, 1, [0], 0), (.invokevirtual 163, 3, [114,1,0,0,812,813,814,9,7], 0), (.bipush 60, 2, [], 60), (.if_icmp .ne 7, 3, [493], 0), (.iconst 1, 1, [], 1), (.goto 4, 3, [494], 0)]
def bk_Law_texts_493 : List ab_O := [(.iconst 0, 1, [], 0), (.nop, 0, [494], 0)]
def bk_Law_texts_494 : List ab_O := [(.ireturn, 1, [1], 0)]
def bt_Law_texts : List (Nat × List ab_O) := [(93, bk_Law_texts_93), (194, bk_Law_texts_194), (196, bk_Law_texts_196), (422, bk_Law_texts_422), (424, bk_Law_texts_424), (426, bk_Law_texts_426), (446, bk_Law_texts_446), (452, bk_Law_texts_452), (493, bk_Law_texts_493), (494, bk_Law_texts_494)]
end
section
/-! ===== the blocks are the bytecode ===== -/
def ab_sz (a : List ab_O) : Nat := (a.map (fun o => o.2.1)).sum
theorem ab_chk_app {k pc2 : Nat} {b : List ab_O} : ∀ {a : List ab_O} {pc : Nat}, ab_chk k pc a = true → pc + ab_sz a = pc2 → ab_chk k pc2 b = true → ab_chk k pc (a ++ b) = true
  | [], pc, _, h2, h3 => by
    have e : pc = pc2 := by rw [← h2]; rfl
    rw [e]; exact h3
  | o :: a, pc, h1, h2, h3 => by
    rw [ab_chk, Bool.and_eq_true] at h1
    rw [List.cons_append, ab_chk, Bool.and_eq_true]
    refine ⟨h1.1, ab_chk_app h1.2 ?_ h3⟩
    rw [← h2]
    show pc + o.2.1 + ab_sz a = pc + (o.2.1 + ab_sz a)
    omega
theorem ab_all_cons {k t : Nat} {b : List ab_O} {l : List (Nat × List ab_O)} (h : ab_chk k t b = true) (h2 : l.all (fun q => ab_chk k q.1 q.2) = true) : ((t, b) :: l).all (fun q => ab_chk k q.1 q.2) = true := by
  rw [List.all_cons, h2, Bool.and_true]
  exact h
set_option maxRecDepth 100000 in
theorem bo_Integer_bitCount : bt_Integer_bitCount.all (fun q => ab_chk 2 q.1 q.2) = true := by decide +kernel
set_option maxRecDepth 100000 in
theorem bo_Names_init : bt_Names_init.all (fun q => ab_chk 3 q.1 q.2) = true := by decide +kernel
set_option maxRecDepth 100000 in
theorem bo_Names_has : bt_Names_has.all (fun q => ab_chk 4 q.1 q.2) = true := by decide +kernel
set_option maxRecDepth 100000 in
theorem bo_Names_fameOf : bt_Names_fameOf.all (fun q => ab_chk 5 q.1 q.2) = true := by decide +kernel
set_option maxRecDepth 100000 in
theorem bo_Names_themeOf : bt_Names_themeOf.all (fun q => ab_chk 6 q.1 q.2) = true := by decide +kernel
set_option maxRecDepth 100000 in
theorem bo_Names_setOf : bt_Names_setOf.all (fun q => ab_chk 7 q.1 q.2) = true := by decide +kernel
set_option maxRecDepth 100000 in
theorem bo_Names_add : bt_Names_add.all (fun q => ab_chk 8 q.1 q.2) = true := by decide +kernel
set_option maxRecDepth 100000 in
theorem bo_Names_copyFrom : bt_Names_copyFrom.all (fun q => ab_chk 9 q.1 q.2) = true := by decide +kernel
set_option maxRecDepth 100000 in
theorem bo_Book_init : bt_Book_init.all (fun q => ab_chk 10 q.1 q.2) = true := by decide +kernel
set_option maxRecDepth 100000 in
theorem bo_Book_numberAt : bt_Book_numberAt.all (fun q => ab_chk 11 q.1 q.2) = true := by decide +kernel
set_option maxRecDepth 100000 in
theorem bo_Book_kindOf : bt_Book_kindOf.all (fun q => ab_chk 12 q.1 q.2) = true := by decide +kernel
set_option maxRecDepth 100000 in
theorem bo_Book_nameOn : bt_Book_nameOn.all (fun q => ab_chk 13 q.1 q.2) = true := by decide +kernel
set_option maxRecDepth 100000 in
theorem bo_Book_friendOn : bt_Book_friendOn.all (fun q => ab_chk 14 q.1 q.2) = true := by decide +kernel
set_option maxRecDepth 100000 in
theorem bo_Book_find : bt_Book_find.all (fun q => ab_chk 15 q.1 q.2) = true := by decide +kernel
set_option maxRecDepth 100000 in
theorem bo_Book_startsEntry : bt_Book_startsEntry.all (fun q => ab_chk 16 q.1 q.2) = true := by decide +kernel
set_option maxRecDepth 100000 in
theorem bo_Book_countEntries : bt_Book_countEntries.all (fun q => ab_chk 17 q.1 q.2) = true := by decide +kernel
set_option maxRecDepth 100000 in
theorem bo_Book_countEntriesOf : bt_Book_countEntriesOf.all (fun q => ab_chk 18 q.1 q.2) = true := by decide +kernel
set_option maxRecDepth 100000 in
theorem bo_Book_countDedicatedTo : bt_Book_countDedicatedTo.all (fun q => ab_chk 19 q.1 q.2) = true := by decide +kernel
set_option maxRecDepth 100000 in
theorem bo_Book_countDedicated : bt_Book_countDedicated.all (fun q => ab_chk 20 q.1 q.2) = true := by decide +kernel
set_option maxRecDepth 100000 in
theorem bo_Book_nameSet : bt_Book_nameSet.all (fun q => ab_chk 21 q.1 q.2) = true := by decide +kernel
set_option maxRecDepth 100000 in
theorem bo_Book_namesAhead : bt_Book_namesAhead.all (fun q => ab_chk 22 q.1 q.2) = true := by decide +kernel
set_option maxRecDepth 100000 in
theorem bo_Book_valueOn : bt_Book_valueOn.all (fun q => ab_chk 23 q.1 q.2) = true := by decide +kernel
set_option maxRecDepth 100000 in
theorem bo_Book_valueBehind : bt_Book_valueBehind.all (fun q => ab_chk 24 q.1 q.2) = true := by decide +kernel
set_option maxRecDepth 100000 in
theorem bo_Book_sumOfValues : bt_Book_sumOfValues.all (fun q => ab_chk 25 q.1 q.2) = true := by decide +kernel
set_option maxRecDepth 100000 in
theorem bo_Book_wholeThemes : bt_Book_wholeThemes.all (fun q => ab_chk 26 q.1 q.2) = true := by decide +kernel
set_option maxRecDepth 100000 in
theorem bo_Book_worth : bt_Book_worth.all (fun q => ab_chk 27 q.1 q.2) = true := by decide +kernel
set_option maxRecDepth 100000 in
theorem bo_Book_isJoined : bt_Book_isJoined.all (fun q => ab_chk 28 q.1 q.2) = true := by decide +kernel
set_option maxRecDepth 100000 in
theorem bo_Book_startsBundle : bt_Book_startsBundle.all (fun q => ab_chk 29 q.1 q.2) = true := by decide +kernel
set_option maxRecDepth 100000 in
theorem bo_Book_bundleFirst : bt_Book_bundleFirst.all (fun q => ab_chk 30 q.1 q.2) = true := by decide +kernel
set_option maxRecDepth 100000 in
theorem bo_Book_bundleEnd : bt_Book_bundleEnd.all (fun q => ab_chk 31 q.1 q.2) = true := by decide +kernel
set_option maxRecDepth 100000 in
theorem bo_Book_bundleSize : bt_Book_bundleSize.all (fun q => ab_chk 32 q.1 q.2) = true := by decide +kernel
set_option maxRecDepth 100000 in
theorem bo_Book_countBundles : bt_Book_countBundles.all (fun q => ab_chk 33 q.1 q.2) = true := by decide +kernel
set_option maxRecDepth 100000 in
theorem bo_Book_canShift : bt_Book_canShift.all (fun q => ab_chk 34 q.1 q.2) = true := by decide +kernel
set_option maxRecDepth 100000 in
theorem bo_Book_setEntry : bt_Book_setEntry.all (fun q => ab_chk 35 q.1 q.2) = true := by decide +kernel
set_option maxRecDepth 100000 in
theorem bo_Book_setFriend : bt_Book_setFriend.all (fun q => ab_chk 36 q.1 q.2) = true := by decide +kernel
set_option maxRecDepth 100000 in
theorem bo_Book_addLeaf : bt_Book_addLeaf.all (fun q => ab_chk 37 q.1 q.2) = true := by decide +kernel
set_option maxRecDepth 100000 in
theorem bo_Book_addLeaves : bt_Book_addLeaves.all (fun q => ab_chk 38 q.1 q.2) = true := by decide +kernel
set_option maxRecDepth 100000 in
theorem bo_Book_clearFor : bt_Book_clearFor.all (fun q => ab_chk 39 q.1 q.2) = true := by decide +kernel
set_option maxRecDepth 100000 in
theorem bo_Book_copyFrom : bt_Book_copyFrom.all (fun q => ab_chk 40 q.1 q.2) = true := by decide +kernel
set_option maxRecDepth 100000 in
theorem bo_Bench_init : bt_Bench_init.all (fun q => ab_chk 41 q.1 q.2) = true := by decide +kernel
set_option maxRecDepth 100000 in
theorem bo_Bench_takeOut : bt_Bench_takeOut.all (fun q => ab_chk 42 q.1 q.2) = true := by decide +kernel
set_option maxRecDepth 100000 in
theorem bo_Bench_shift : bt_Bench_shift.all (fun q => ab_chk 43 q.1 q.2) = true := by decide +kernel
set_option maxRecDepth 100000 in
theorem bo_Bench_layOut : bt_Bench_layOut.all (fun q => ab_chk 44 q.1 q.2) = true := by decide +kernel
set_option maxRecDepth 100000 in
theorem bo_Bench_layOutFor : bt_Bench_layOutFor.all (fun q => ab_chk 45 q.1 q.2) = true := by decide +kernel
set_option maxRecDepth 100000 in
theorem bo_Bench_fits : bt_Bench_fits.all (fun q => ab_chk 46 q.1 q.2) = true := by decide +kernel
set_option maxRecDepth 100000 in
theorem bo_Bench_gainOfOne : bt_Bench_gainOfOne.all (fun q => ab_chk 47 q.1 q.2) = true := by decide +kernel
set_option maxRecDepth 100000 in
theorem bo_Bench_gainOfOther : bt_Bench_gainOfOther.all (fun q => ab_chk 48 q.1 q.2) = true := by decide +kernel
set_option maxRecDepth 100000 in
theorem bo_Bench_settle : bt_Bench_settle.all (fun q => ab_chk 49 q.1 q.2) = true := by decide +kernel
set_option maxRecDepth 100000 in
theorem bo_State_init : bt_State_init.all (fun q => ab_chk 50 q.1 q.2) = true := by decide +kernel
set_option maxRecDepth 100000 in
theorem bo_State_copyFrom : bt_State_copyFrom.all (fun q => ab_chk 51 q.1 q.2) = true := by decide +kernel
set_option maxRecDepth 100000 in
theorem bo_State_bookOf : bt_State_bookOf.all (fun q => ab_chk 52 q.1 q.2) = true := by decide +kernel
set_option maxRecDepth 100000 in
theorem bo_State_bookWith : bt_State_bookWith.all (fun q => ab_chk 53 q.1 q.2) = true := by decide +kernel
set_option maxRecDepth 100000 in
theorem bo_State_purseOf : bt_State_purseOf.all (fun q => ab_chk 54 q.1 q.2) = true := by decide +kernel
set_option maxRecDepth 100000 in
theorem bo_State_setPurse : bt_State_setPurse.all (fun q => ab_chk 55 q.1 q.2) = true := by decide +kernel
set_option maxRecDepth 100000 in
theorem bo_State_addName : bt_State_addName.all (fun q => ab_chk 56 q.1 q.2) = true := by decide +kernel
set_option maxRecDepth 100000 in
theorem bo_State_addLeaf : bt_State_addLeaf.all (fun q => ab_chk 57 q.1 q.2) = true := by decide +kernel
set_option maxRecDepth 100000 in
theorem bo_State_addEntry : bt_State_addEntry.all (fun q => ab_chk 58 q.1 q.2) = true := by decide +kernel
set_option maxRecDepth 100000 in
theorem bo_State_addWideEntry : bt_State_addWideEntry.all (fun q => ab_chk 59 q.1 q.2) = true := by decide +kernel
set_option maxRecDepth 100000 in
theorem bo_State_setFriend : bt_State_setFriend.all (fun q => ab_chk 60 q.1 q.2) = true := by decide +kernel
set_option maxRecDepth 100000 in
theorem bo_State_shiftBundle : bt_State_shiftBundle.all (fun q => ab_chk 61 q.1 q.2) = true := by decide +kernel
set_option maxRecDepth 100000 in
theorem bo_State_exchange : bt_State_exchange.all (fun q => ab_chk 62 q.1 q.2) = true := by decide +kernel
set_option maxRecDepth 100000 in
theorem bo_State_takeOut : bt_State_takeOut.all (fun q => ab_chk 63 q.1 q.2) = true := by decide +kernel
set_option maxRecDepth 100000 in
theorem bo_State_fillPurse : bt_State_fillPurse.all (fun q => ab_chk 64 q.1 q.2) = true := by decide +kernel
set_option maxRecDepth 100000 in
theorem bo_State_wealth : bt_State_wealth.all (fun q => ab_chk 65 q.1 q.2) = true := by decide +kernel
set_option maxRecDepth 100000 in
theorem bo_State_richest : bt_State_richest.all (fun q => ab_chk 66 q.1 q.2) = true := by decide +kernel
set_option maxRecDepth 100000 in
theorem bo_State_sumOfWorths : bt_State_sumOfWorths.all (fun q => ab_chk 67 q.1 q.2) = true := by decide +kernel
set_option maxRecDepth 100000 in
theorem bo_State_countLeaves : bt_State_countLeaves.all (fun q => ab_chk 68 q.1 q.2) = true := by decide +kernel
set_option maxRecDepth 100000 in
theorem bo_State_countEntries : bt_State_countEntries.all (fun q => ab_chk 69 q.1 q.2) = true := by decide +kernel
set_option maxRecDepth 100000 in
theorem bo_State_countDedicated : bt_State_countDedicated.all (fun q => ab_chk 70 q.1 q.2) = true := by decide +kernel
set_option maxRecDepth 100000 in
theorem bo_State_countEntriesOf : bt_State_countEntriesOf.all (fun q => ab_chk 71 q.1 q.2) = true := by decide +kernel
set_option maxRecDepth 100000 in
theorem bo_State_ownersOf : bt_State_ownersOf.all (fun q => ab_chk 72 q.1 q.2) = true := by decide +kernel
set_option maxRecDepth 100000 in
theorem bo_BestTrade_init : bt_BestTrade_init.all (fun q => ab_chk 73 q.1 q.2) = true := by decide +kernel
set_option maxRecDepth 100000 in
theorem bo_BestTrade_search : bt_BestTrade_search.all (fun q => ab_chk 74 q.1 q.2) = true := by decide +kernel
set_option maxRecDepth 100000 in
theorem bo_BestTrade_searchBook : bt_BestTrade_searchBook.all (fun q => ab_chk 75 q.1 q.2) = true := by decide +kernel
set_option maxRecDepth 100000 in
theorem bo_History_init : bt_History_init.all (fun q => ab_chk 76 q.1 q.2) = true := by decide +kernel
set_option maxRecDepth 100000 in
theorem bo_History_prepare : bt_History_prepare.all (fun q => ab_chk 77 q.1 q.2) = true := by decide +kernel
set_option maxRecDepth 100000 in
theorem bo_History_keep : bt_History_keep.all (fun q => ab_chk 78 q.1 q.2) = true := by decide +kernel
set_option maxRecDepth 100000 in
theorem bo_History_restore : bt_History_restore.all (fun q => ab_chk 79 q.1 q.2) = true := by decide +kernel
set_option maxRecDepth 100000 in
theorem bo_Orders_init : bt_Orders_init.all (fun q => ab_chk 80 q.1 q.2) = true := by decide +kernel
set_option maxRecDepth 100000 in
theorem bo_Orders_append : bt_Orders_append.all (fun q => ab_chk 81 q.1 q.2) = true := by decide +kernel
set_option maxRecDepth 100000 in
theorem bo_Orders_run : bt_Orders_run.all (fun q => ab_chk 82 q.1 q.2) = true := by decide +kernel
set_option maxRecDepth 100000 in
theorem bo_Orders_characterAt : bt_Orders_characterAt.all (fun q => ab_chk 83 q.1 q.2) = true := by decide +kernel
set_option maxRecDepth 100000 in
theorem bo_Orders_readOrder : bt_Orders_readOrder.all (fun q => ab_chk 84 q.1 q.2) = true := by decide +kernel
set_option maxRecDepth 100000 in
theorem bo_Orders_skip : bt_Orders_skip.all (fun q => ab_chk 85 q.1 q.2) = true := by decide +kernel
set_option maxRecDepth 100000 in
theorem bo_Orders_readNumber : bt_Orders_readNumber.all (fun q => ab_chk 86 q.1 q.2) = true := by decide +kernel
set_option maxRecDepth 100000 in
theorem bo_Orders_number : bt_Orders_number.all (fun q => ab_chk 87 q.1 q.2) = true := by decide +kernel
set_option maxRecDepth 100000 in
theorem bo_Orders_doOrder : bt_Orders_doOrder.all (fun q => ab_chk 88 q.1 q.2) = true := by decide +kernel
set_option maxRecDepth 100000 in
theorem bo_Orders_howManyNumbers : bt_Orders_howManyNumbers.all (fun q => ab_chk 89 q.1 q.2) = true := by decide +kernel
set_option maxRecDepth 100000 in
theorem bo_Orders_isDigit : bt_Orders_isDigit.all (fun q => ab_chk 90 q.1 q.2) = true := by decide +kernel
set_option maxRecDepth 100000 in
theorem bo_Fair_init : bt_Fair_init.all (fun q => ab_chk 91 q.1 q.2) = true := by decide +kernel
set_option maxRecDepth 100000 in
theorem bo_Fair_name : bt_Fair_name.all (fun q => ab_chk 92 q.1 q.2) = true := by decide +kernel
set_option maxRecDepth 100000 in
theorem bo_Fair_leaf : bt_Fair_leaf.all (fun q => ab_chk 93 q.1 q.2) = true := by decide +kernel
set_option maxRecDepth 100000 in
theorem bo_Fair_sign : bt_Fair_sign.all (fun q => ab_chk 94 q.1 q.2) = true := by decide +kernel
set_option maxRecDepth 100000 in
theorem bo_Fair_over : bt_Fair_over.all (fun q => ab_chk 95 q.1 q.2) = true := by decide +kernel
set_option maxRecDepth 100000 in
theorem bo_Fair_dedicate : bt_Fair_dedicate.all (fun q => ab_chk 96 q.1 q.2) = true := by decide +kernel
set_option maxRecDepth 100000 in
theorem bo_Fair_move : bt_Fair_move.all (fun q => ab_chk 97 q.1 q.2) = true := by decide +kernel
set_option maxRecDepth 100000 in
theorem bo_Fair_trade : bt_Fair_trade.all (fun q => ab_chk 98 q.1 q.2) = true := by decide +kernel
set_option maxRecDepth 100000 in
theorem bo_Fair_tear : bt_Fair_tear.all (fun q => ab_chk 99 q.1 q.2) = true := by decide +kernel
set_option maxRecDepth 100000 in
theorem bo_Fair_coins : bt_Fair_coins.all (fun q => ab_chk 100 q.1 q.2) = true := by decide +kernel
set_option maxRecDepth 100000 in
theorem bo_Fair_pageOf : bt_Fair_pageOf.all (fun q => ab_chk 101 q.1 q.2) = true := by decide +kernel
set_option maxRecDepth 100000 in
theorem bo_Fair_leafOf : bt_Fair_leafOf.all (fun q => ab_chk 102 q.1 q.2) = true := by decide +kernel
set_option maxRecDepth 100000 in
theorem bo_Fair_at : bt_Fair_at.all (fun q => ab_chk 103 q.1 q.2) = true := by decide +kernel
set_option maxRecDepth 100000 in
theorem bo_Fair_collectorOf : bt_Fair_collectorOf.all (fun q => ab_chk 104 q.1 q.2) = true := by decide +kernel
set_option maxRecDepth 100000 in
theorem bo_Fair_nameOf : bt_Fair_nameOf.all (fun q => ab_chk 105 q.1 q.2) = true := by decide +kernel
set_option maxRecDepth 100000 in
theorem bo_Fair_gain : bt_Fair_gain.all (fun q => ab_chk 106 q.1 q.2) = true := by decide +kernel
set_option maxRecDepth 100000 in
theorem bo_Fair_fair : bt_Fair_fair.all (fun q => ab_chk 107 q.1 q.2) = true := by decide +kernel
set_option maxRecDepth 100000 in
theorem bo_Fair_best : bt_Fair_best.all (fun q => ab_chk 108 q.1 q.2) = true := by decide +kernel
set_option maxRecDepth 100000 in
theorem bo_Fair_missing : bt_Fair_missing.all (fun q => ab_chk 109 q.1 q.2) = true := by decide +kernel
set_option maxRecDepth 100000 in
theorem bo_Fair_mean : bt_Fair_mean.all (fun q => ab_chk 110 q.1 q.2) = true := by decide +kernel
set_option maxRecDepth 100000 in
theorem bo_Fair_count : bt_Fair_count.all (fun q => ab_chk 111 q.1 q.2) = true := by decide +kernel
set_option maxRecDepth 100000 in
theorem bo_Fair_undo : bt_Fair_undo.all (fun q => ab_chk 112 q.1 q.2) = true := by decide +kernel
set_option maxRecDepth 100000 in
theorem bo_Fair_type : bt_Fair_type.all (fun q => ab_chk 113 q.1 q.2) = true := by decide +kernel
set_option maxRecDepth 100000 in
theorem bo_Fair_clearText : bt_Fair_clearText.all (fun q => ab_chk 114 q.1 q.2) = true := by decide +kernel
set_option maxRecDepth 100000 in
theorem bo_Fair_fault : bt_Fair_fault.all (fun q => ab_chk 115 q.1 q.2) = true := by decide +kernel
set_option maxRecDepth 100000 in
theorem bo_Fair_play : bt_Fair_play.all (fun q => ab_chk 116 q.1 q.2) = true := by decide +kernel
set_option maxRecDepth 100000 in
theorem bo_Fair_isCollector : bt_Fair_isCollector.all (fun q => ab_chk 117 q.1 q.2) = true := by decide +kernel
set_option maxRecDepth 100000 in
theorem bo_Fair_isTheme : bt_Fair_isTheme.all (fun q => ab_chk 118 q.1 q.2) = true := by decide +kernel
set_option maxRecDepth 100000 in
theorem bo_Fair_isSide : bt_Fair_isSide.all (fun q => ab_chk 119 q.1 q.2) = true := by decide +kernel
set_option maxRecDepth 100000 in
theorem bo_Fair_arePaid : bt_Fair_arePaid.all (fun q => ab_chk 120 q.1 q.2) = true := by decide +kernel
set_option maxRecDepth 100000 in
theorem bo_Fair_bitsOf : bt_Fair_bitsOf.all (fun q => ab_chk 121 q.1 q.2) = true := by decide +kernel
set_option maxRecDepth 100000 in
theorem bo_Law_part : bt_Law_part.all (fun q => ab_chk 122 q.1 q.2) = true := by decide +kernel
set_option maxRecDepth 100000 in
theorem bo_Law_drawn : bt_Law_drawn.all (fun q => ab_chk 123 q.1 q.2) = true := by decide +kernel
set_option maxRecDepth 100000 in
theorem bo_Law_seen : bt_Law_seen.all (fun q => ab_chk 124 q.1 q.2) = true := by decide +kernel
set_option maxRecDepth 100000 in
theorem bo_Law_refusesAny_0 : ab_chk 125 0 bk_Law_refusesAny_0 = true := by decide +kernel
set_option maxRecDepth 100000 in
theorem bo_Law_refusesAny_8 : ab_chk 125 8 bk_Law_refusesAny_8 = true := by decide +kernel
set_option maxRecDepth 100000 in
theorem bo_Law_refusesAny_9 : ab_chk 125 9 bk_Law_refusesAny_9 = true := by decide +kernel
set_option maxRecDepth 100000 in
theorem bo_Law_refusesAny_18 : ab_chk 125 18 bk_Law_refusesAny_18 = true := by decide +kernel
set_option maxRecDepth 100000 in
theorem bo_Law_refusesAny_23 : ab_chk 125 23 bk_Law_refusesAny_23 = true := by decide +kernel
set_option maxRecDepth 100000 in
theorem bo_Law_refusesAny_32 : ab_chk 125 32 bk_Law_refusesAny_32 = true := by decide +kernel
set_option maxRecDepth 100000 in
theorem bo_Law_refusesAny_37 : ab_chk 125 37 bk_Law_refusesAny_37 = true := by decide +kernel
set_option maxRecDepth 100000 in
theorem bo_Law_refusesAny_47 : ab_chk 125 47 bk_Law_refusesAny_47 = true := by decide +kernel
set_option maxRecDepth 100000 in
theorem bo_Law_refusesAny_48 : ab_chk 125 48 bk_Law_refusesAny_48 = true := by decide +kernel
set_option maxRecDepth 100000 in
theorem bo_Law_refusesAny_60 : ab_chk 125 60 bk_Law_refusesAny_60 = true := by decide +kernel
set_option maxRecDepth 100000 in
theorem bo_Law_refusesAny_63 : ab_chk 125 63 bk_Law_refusesAny_63 = true := by decide +kernel
set_option maxRecDepth 100000 in
theorem bo_Law_refusesAny_74 : ab_chk 125 74 bk_Law_refusesAny_74 = true := by decide +kernel
set_option maxRecDepth 100000 in
theorem bo_Law_refusesAny_76_0 : ab_chk 125 76 bk_Law_refusesAny_76_0 = true := by decide +kernel
set_option maxRecDepth 100000 in
theorem bo_Law_refusesAny_76_1 : ab_chk 125 133 bk_Law_refusesAny_76_1 = true := by decide +kernel
set_option maxRecDepth 100000 in
theorem bo_Law_refusesAny_76_2 : ab_chk 125 188 bk_Law_refusesAny_76_2 = true := by decide +kernel
set_option maxRecDepth 100000 in
theorem bo_Law_refusesAny_76 : ab_chk 125 76 bk_Law_refusesAny_76 = true := (ab_chk_app (pc2 := 133) bo_Law_refusesAny_76_0 rfl (ab_chk_app (pc2 := 188) bo_Law_refusesAny_76_1 rfl bo_Law_refusesAny_76_2))
set_option maxRecDepth 100000 in
theorem bo_Law_refusesAny_240 : ab_chk 125 240 bk_Law_refusesAny_240 = true := by decide +kernel
set_option maxRecDepth 100000 in
theorem bo_Law_refusesAny_242_0 : ab_chk 125 242 bk_Law_refusesAny_242_0 = true := by decide +kernel
set_option maxRecDepth 100000 in
theorem bo_Law_refusesAny_242_1 : ab_chk 125 296 bk_Law_refusesAny_242_1 = true := by decide +kernel
set_option maxRecDepth 100000 in
theorem bo_Law_refusesAny_242 : ab_chk 125 242 bk_Law_refusesAny_242 = true := (ab_chk_app (pc2 := 296) bo_Law_refusesAny_242_0 rfl bo_Law_refusesAny_242_1)
set_option maxRecDepth 100000 in
theorem bo_Law_refusesAny_325 : ab_chk 125 325 bk_Law_refusesAny_325 = true := by decide +kernel
set_option maxRecDepth 100000 in
theorem bo_Law_refusesAny_328 : ab_chk 125 328 bk_Law_refusesAny_328 = true := by decide +kernel
set_option maxRecDepth 100000 in
theorem bo_Law_refusesAny_373 : ab_chk 125 373 bk_Law_refusesAny_373 = true := by decide +kernel
set_option maxRecDepth 100000 in
theorem bo_Law_refusesAny_374 : ab_chk 125 374 bk_Law_refusesAny_374 = true := by decide +kernel
set_option maxRecDepth 100000 in
theorem bo_Law_refusesAny_404 : ab_chk 125 404 bk_Law_refusesAny_404 = true := by decide +kernel
set_option maxRecDepth 100000 in
theorem bo_Law_refusesAny_405 : ab_chk 125 405 bk_Law_refusesAny_405 = true := by decide +kernel
set_option maxRecDepth 100000 in
theorem bo_Law_refusesAny_447 : ab_chk 125 447 bk_Law_refusesAny_447 = true := by decide +kernel
set_option maxRecDepth 100000 in
theorem bo_Law_refusesAny_449 : ab_chk 125 449 bk_Law_refusesAny_449 = true := by decide +kernel
set_option maxRecDepth 100000 in
theorem bo_Law_refusesAny_470 : ab_chk 125 470 bk_Law_refusesAny_470 = true := by decide +kernel
set_option maxRecDepth 100000 in
theorem bo_Law_refusesAny_472 : ab_chk 125 472 bk_Law_refusesAny_472 = true := by decide +kernel
set_option maxRecDepth 100000 in
theorem bo_Law_refusesAny_501 : ab_chk 125 501 bk_Law_refusesAny_501 = true := by decide +kernel
set_option maxRecDepth 100000 in
theorem bo_Law_refusesAny_502_0 : ab_chk 125 502 bk_Law_refusesAny_502_0 = true := by decide +kernel
set_option maxRecDepth 100000 in
theorem bo_Law_refusesAny_502_1 : ab_chk 125 555 bk_Law_refusesAny_502_1 = true := by decide +kernel
set_option maxRecDepth 100000 in
theorem bo_Law_refusesAny_502 : ab_chk 125 502 bk_Law_refusesAny_502 = true := (ab_chk_app (pc2 := 555) bo_Law_refusesAny_502_0 rfl bo_Law_refusesAny_502_1)
set_option maxRecDepth 100000 in
theorem bo_Law_refusesAny_609 : ab_chk 125 609 bk_Law_refusesAny_609 = true := by decide +kernel
set_option maxRecDepth 100000 in
theorem bo_Law_refusesAny_610 : ab_chk 125 610 bk_Law_refusesAny_610 = true := by decide +kernel
set_option maxRecDepth 100000 in
theorem bo_Law_refusesAny_659 : ab_chk 125 659 bk_Law_refusesAny_659 = true := by decide +kernel
set_option maxRecDepth 100000 in
theorem bo_Law_refusesAny_661 : ab_chk 125 661 bk_Law_refusesAny_661 = true := by decide +kernel
set_option maxRecDepth 100000 in
theorem bo_Law_refusesAny_679 : ab_chk 125 679 bk_Law_refusesAny_679 = true := by decide +kernel
set_option maxRecDepth 100000 in
theorem bo_Law_refusesAny_681 : ab_chk 125 681 bk_Law_refusesAny_681 = true := by decide +kernel
set_option maxRecDepth 100000 in
theorem bo_Law_refusesAny_698 : ab_chk 125 698 bk_Law_refusesAny_698 = true := by decide +kernel
set_option maxRecDepth 100000 in
theorem bo_Law_refusesAny_699 : ab_chk 125 699 bk_Law_refusesAny_699 = true := by decide +kernel
set_option maxRecDepth 100000 in
theorem bo_Law_refusesAny_711 : ab_chk 125 711 bk_Law_refusesAny_711 = true := by decide +kernel
set_option maxRecDepth 100000 in
theorem bo_Law_refusesAny_712 : ab_chk 125 712 bk_Law_refusesAny_712 = true := by decide +kernel
set_option maxRecDepth 100000 in
theorem bo_Law_refusesAny : bt_Law_refusesAny.all (fun q => ab_chk 125 q.1 q.2) = true := (ab_all_cons bo_Law_refusesAny_0 (ab_all_cons bo_Law_refusesAny_8 (ab_all_cons bo_Law_refusesAny_9 (ab_all_cons bo_Law_refusesAny_18 (ab_all_cons bo_Law_refusesAny_23 (ab_all_cons bo_Law_refusesAny_32 (ab_all_cons bo_Law_refusesAny_37 (ab_all_cons bo_Law_refusesAny_47 (ab_all_cons bo_Law_refusesAny_48 (ab_all_cons bo_Law_refusesAny_60 (ab_all_cons bo_Law_refusesAny_63 (ab_all_cons bo_Law_refusesAny_74 (ab_all_cons bo_Law_refusesAny_76 (ab_all_cons bo_Law_refusesAny_240 (ab_all_cons bo_Law_refusesAny_242 (ab_all_cons bo_Law_refusesAny_325 (ab_all_cons bo_Law_refusesAny_328 (ab_all_cons bo_Law_refusesAny_373 (ab_all_cons bo_Law_refusesAny_374 (ab_all_cons bo_Law_refusesAny_404 (ab_all_cons bo_Law_refusesAny_405 (ab_all_cons bo_Law_refusesAny_447 (ab_all_cons bo_Law_refusesAny_449 (ab_all_cons bo_Law_refusesAny_470 (ab_all_cons bo_Law_refusesAny_472 (ab_all_cons bo_Law_refusesAny_501 (ab_all_cons bo_Law_refusesAny_502 (ab_all_cons bo_Law_refusesAny_609 (ab_all_cons bo_Law_refusesAny_610 (ab_all_cons bo_Law_refusesAny_659 (ab_all_cons bo_Law_refusesAny_661 (ab_all_cons bo_Law_refusesAny_679 (ab_all_cons bo_Law_refusesAny_681 (ab_all_cons bo_Law_refusesAny_698 (ab_all_cons bo_Law_refusesAny_699 (ab_all_cons bo_Law_refusesAny_711 (ab_all_cons bo_Law_refusesAny_712 rfl)))))))))))))))))))))))))))))))))))))
set_option maxRecDepth 100000 in
theorem bo_Law_refused : bt_Law_refused.all (fun q => ab_chk 126 q.1 q.2) = true := by decide +kernel
set_option maxRecDepth 100000 in
theorem bo_Law_books_0_0 : ab_chk 127 0 bk_Law_books_0_0 = true := by decide +kernel
set_option maxRecDepth 100000 in
theorem bo_Law_books_0_1 : ab_chk 127 59 bk_Law_books_0_1 = true := by decide +kernel
set_option maxRecDepth 100000 in
theorem bo_Law_books_0_2 : ab_chk 127 114 bk_Law_books_0_2 = true := by decide +kernel
set_option maxRecDepth 100000 in
theorem bo_Law_books_0_3 : ab_chk 127 167 bk_Law_books_0_3 = true := by decide +kernel
set_option maxRecDepth 100000 in
theorem bo_Law_books_0_4 : ab_chk 127 221 bk_Law_books_0_4 = true := by decide +kernel
set_option maxRecDepth 100000 in
theorem bo_Law_books_0_5 : ab_chk 127 273 bk_Law_books_0_5 = true := by decide +kernel
set_option maxRecDepth 100000 in
theorem bo_Law_books_0 : ab_chk 127 0 bk_Law_books_0 = true := (ab_chk_app (pc2 := 59) bo_Law_books_0_0 rfl (ab_chk_app (pc2 := 114) bo_Law_books_0_1 rfl (ab_chk_app (pc2 := 167) bo_Law_books_0_2 rfl (ab_chk_app (pc2 := 221) bo_Law_books_0_3 rfl (ab_chk_app (pc2 := 273) bo_Law_books_0_4 rfl bo_Law_books_0_5)))))
set_option maxRecDepth 100000 in
theorem bo_Law_books_285 : ab_chk 127 285 bk_Law_books_285 = true := by decide +kernel
set_option maxRecDepth 100000 in
theorem bo_Law_books_287_0 : ab_chk 127 287 bk_Law_books_287_0 = true := by decide +kernel
set_option maxRecDepth 100000 in
theorem bo_Law_books_287_1 : ab_chk 127 337 bk_Law_books_287_1 = true := by decide +kernel
set_option maxRecDepth 100000 in
theorem bo_Law_books_287_2 : ab_chk 127 390 bk_Law_books_287_2 = true := by decide +kernel
set_option maxRecDepth 100000 in
theorem bo_Law_books_287_3 : ab_chk 127 447 bk_Law_books_287_3 = true := by decide +kernel
set_option maxRecDepth 100000 in
theorem bo_Law_books_287_4 : ab_chk 127 503 bk_Law_books_287_4 = true := by decide +kernel
set_option maxRecDepth 100000 in
theorem bo_Law_books_287_5 : ab_chk 127 552 bk_Law_books_287_5 = true := by decide +kernel
set_option maxRecDepth 100000 in
theorem bo_Law_books_287 : ab_chk 127 287 bk_Law_books_287 = true := (ab_chk_app (pc2 := 337) bo_Law_books_287_0 rfl (ab_chk_app (pc2 := 390) bo_Law_books_287_1 rfl (ab_chk_app (pc2 := 447) bo_Law_books_287_2 rfl (ab_chk_app (pc2 := 503) bo_Law_books_287_3 rfl (ab_chk_app (pc2 := 552) bo_Law_books_287_4 rfl bo_Law_books_287_5)))))
set_option maxRecDepth 100000 in
theorem bo_Law_books_575 : ab_chk 127 575 bk_Law_books_575 = true := by decide +kernel
set_option maxRecDepth 100000 in
theorem bo_Law_books_577_0 : ab_chk 127 577 bk_Law_books_577_0 = true := by decide +kernel
set_option maxRecDepth 100000 in
theorem bo_Law_books_577_1 : ab_chk 127 628 bk_Law_books_577_1 = true := by decide +kernel
set_option maxRecDepth 100000 in
theorem bo_Law_books_577_2 : ab_chk 127 680 bk_Law_books_577_2 = true := by decide +kernel
set_option maxRecDepth 100000 in
theorem bo_Law_books_577_3 : ab_chk 127 731 bk_Law_books_577_3 = true := by decide +kernel
set_option maxRecDepth 100000 in
theorem bo_Law_books_577_4 : ab_chk 127 787 bk_Law_books_577_4 = true := by decide +kernel
set_option maxRecDepth 100000 in
theorem bo_Law_books_577_5 : ab_chk 127 841 bk_Law_books_577_5 = true := by decide +kernel
set_option maxRecDepth 100000 in
theorem bo_Law_books_577 : ab_chk 127 577 bk_Law_books_577 = true := (ab_chk_app (pc2 := 628) bo_Law_books_577_0 rfl (ab_chk_app (pc2 := 680) bo_Law_books_577_1 rfl (ab_chk_app (pc2 := 731) bo_Law_books_577_2 rfl (ab_chk_app (pc2 := 787) bo_Law_books_577_3 rfl (ab_chk_app (pc2 := 841) bo_Law_books_577_4 rfl bo_Law_books_577_5)))))
set_option maxRecDepth 100000 in
theorem bo_Law_books_891 : ab_chk 127 891 bk_Law_books_891 = true := by decide +kernel
set_option maxRecDepth 100000 in
theorem bo_Law_books_893_0 : ab_chk 127 893 bk_Law_books_893_0 = true := by decide +kernel
set_option maxRecDepth 100000 in
theorem bo_Law_books_893_1 : ab_chk 127 950 bk_Law_books_893_1 = true := by decide +kernel
set_option maxRecDepth 100000 in
theorem bo_Law_books_893 : ab_chk 127 893 bk_Law_books_893 = true := (ab_chk_app (pc2 := 950) bo_Law_books_893_0 rfl bo_Law_books_893_1)
set_option maxRecDepth 100000 in
theorem bo_Law_books_997 : ab_chk 127 997 bk_Law_books_997 = true := by decide +kernel
set_option maxRecDepth 100000 in
theorem bo_Law_books_999 : ab_chk 127 999 bk_Law_books_999 = true := by decide +kernel
set_option maxRecDepth 100000 in
theorem bo_Law_books_1001 : ab_chk 127 1001 bk_Law_books_1001 = true := by decide +kernel
set_option maxRecDepth 100000 in
theorem bo_Law_books_1020 : ab_chk 127 1020 bk_Law_books_1020 = true := by decide +kernel
set_option maxRecDepth 100000 in
theorem bo_Law_books_1026_0 : ab_chk 127 1026 bk_Law_books_1026_0 = true := by decide +kernel
set_option maxRecDepth 100000 in
theorem bo_Law_books_1026_1 : ab_chk 127 1079 bk_Law_books_1026_1 = true := by decide +kernel
set_option maxRecDepth 100000 in
theorem bo_Law_books_1026 : ab_chk 127 1026 bk_Law_books_1026 = true := (ab_chk_app (pc2 := 1079) bo_Law_books_1026_0 rfl bo_Law_books_1026_1)
set_option maxRecDepth 100000 in
theorem bo_Law_books_1084 : ab_chk 127 1084 bk_Law_books_1084 = true := by decide +kernel
set_option maxRecDepth 100000 in
theorem bo_Law_books_1086 : ab_chk 127 1086 bk_Law_books_1086 = true := by decide +kernel
set_option maxRecDepth 100000 in
theorem bo_Law_books_1088 : ab_chk 127 1088 bk_Law_books_1088 = true := by decide +kernel
set_option maxRecDepth 100000 in
theorem bo_Law_books_1106 : ab_chk 127 1106 bk_Law_books_1106 = true := by decide +kernel
set_option maxRecDepth 100000 in
theorem bo_Law_books_1112 : ab_chk 127 1112 bk_Law_books_1112 = true := by decide +kernel
set_option maxRecDepth 100000 in
theorem bo_Law_books_1156 : ab_chk 127 1156 bk_Law_books_1156 = true := by decide +kernel
set_option maxRecDepth 100000 in
theorem bo_Law_books_1157 : ab_chk 127 1157 bk_Law_books_1157 = true := by decide +kernel
set_option maxRecDepth 100000 in
theorem bo_Law_books : bt_Law_books.all (fun q => ab_chk 127 q.1 q.2) = true := (ab_all_cons bo_Law_books_0 (ab_all_cons bo_Law_books_285 (ab_all_cons bo_Law_books_287 (ab_all_cons bo_Law_books_575 (ab_all_cons bo_Law_books_577 (ab_all_cons bo_Law_books_891 (ab_all_cons bo_Law_books_893 (ab_all_cons bo_Law_books_997 (ab_all_cons bo_Law_books_999 (ab_all_cons bo_Law_books_1001 (ab_all_cons bo_Law_books_1020 (ab_all_cons bo_Law_books_1026 (ab_all_cons bo_Law_books_1084 (ab_all_cons bo_Law_books_1086 (ab_all_cons bo_Law_books_1088 (ab_all_cons bo_Law_books_1106 (ab_all_cons bo_Law_books_1112 (ab_all_cons bo_Law_books_1156 (ab_all_cons bo_Law_books_1157 rfl)))))))))))))))))))
set_option maxRecDepth 100000 in
theorem bo_Law_types : bt_Law_types.all (fun q => ab_chk 128 q.1 q.2) = true := by decide +kernel
set_option maxRecDepth 100000 in
theorem bo_Law_isFault : bt_Law_isFault.all (fun q => ab_chk 129 q.1 q.2) = true := by decide +kernel
set_option maxRecDepth 100000 in
theorem bo_Law_texts_93 : ab_chk 130 93 bk_Law_texts_93 = true := by decide +kernel
set_option maxRecDepth 100000 in
theorem bo_Law_texts_194 : ab_chk 130 194 bk_Law_texts_194 = true := by decide +kernel
set_option maxRecDepth 100000 in
theorem bo_Law_texts_196_0 : ab_chk 130 196 bk_Law_texts_196_0 = true := by decide +kernel
set_option maxRecDepth 100000 in
theorem bo_Law_texts_196_1 : ab_chk 130 259 bk_Law_texts_196_1 = true := by decide +kernel
set_option maxRecDepth 100000 in
theorem bo_Law_texts_196_2 : ab_chk 130 318 bk_Law_texts_196_2 = true := by decide +kernel
set_option maxRecDepth 100000 in
theorem bo_Law_texts_196_3 : ab_chk 130 377 bk_Law_texts_196_3 = true := by decide +kernel
set_option maxRecDepth 100000 in
theorem bo_Law_texts_196 : ab_chk 130 196 bk_Law_texts_196 = true := (ab_chk_app (pc2 := 259) bo_Law_texts_196_0 rfl (ab_chk_app (pc2 := 318) bo_Law_texts_196_1 rfl (ab_chk_app (pc2 := 377) bo_Law_texts_196_2 rfl bo_Law_texts_196_3)))
set_option maxRecDepth 100000 in
theorem bo_Law_texts_422 : ab_chk 130 422 bk_Law_texts_422 = true := by decide +kernel
set_option maxRecDepth 100000 in
theorem bo_Law_texts_424 : ab_chk 130 424 bk_Law_texts_424 = true := by decide +kernel
set_option maxRecDepth 100000 in
theorem bo_Law_texts_426 : ab_chk 130 426 bk_Law_texts_426 = true := by decide +kernel
set_option maxRecDepth 100000 in
theorem bo_Law_texts_446 : ab_chk 130 446 bk_Law_texts_446 = true := by decide +kernel
set_option maxRecDepth 100000 in
theorem bo_Law_texts_452 : ab_chk 130 452 bk_Law_texts_452 = true := by decide +kernel
set_option maxRecDepth 100000 in
theorem bo_Law_texts_493 : ab_chk 130 493 bk_Law_texts_493 = true := by decide +kernel
set_option maxRecDepth 100000 in
theorem bo_Law_texts_494 : ab_chk 130 494 bk_Law_texts_494 = true := by decide +kernel
set_option maxRecDepth 100000 in
theorem bo_Law_texts : bt_Law_texts.all (fun q => ab_chk 130 q.1 q.2) = true := (ab_all_cons bo_Law_texts_93 (ab_all_cons bo_Law_texts_194 (ab_all_cons bo_Law_texts_196 (ab_all_cons bo_Law_texts_422 (ab_all_cons bo_Law_texts_424 (ab_all_cons bo_Law_texts_426 (ab_all_cons bo_Law_texts_446 (ab_all_cons bo_Law_texts_452 (ab_all_cons bo_Law_texts_493 (ab_all_cons bo_Law_texts_494 rfl))))))))))
def ab_bl (bt : List (Nat × List ab_O)) (pc : Nat) : List ab_O := (bt.lookup pc).getD []
theorem ab_bl_ok {k pc : Nat} {bt : List (Nat × List ab_O)} (hb : bt.all (fun q => ab_chk k q.1 q.2) = true) : ab_chk k pc (ab_bl bt pc) = true := by
  unfold ab_bl
  cases h : bt.lookup pc with
  | none => rfl
  | some os =>
    have h2 := List.all_eq_true.mp hb (pc, os) (by
      obtain ⟨l1, l2, e, -⟩ := List.lookup_eq_some_iff.mp h
      rw [e]; simp)
    exact h2
def ab_rn (d k : Nat) (bt : List (Nat × List ab_O)) (stop : List Nat) (Q : Option Value → ab_H → Prop) : Nat → Nat → ab_K
  | 0, pc, n, bc, bs, ls, st, h => ab_W d k pc n bc bs ls st h Q
  | f + 1, pc, n, bc, bs, ls, st, h => if pc ∈ stop then ab_W d k pc n bc bs ls st h Q else ab_wp d (ab_rn d k bt stop Q f) Q (ab_bl bt pc) n bc bs ls st h
theorem ab_rn_ok {d k : Nat} {bt : List (Nat × List ab_O)} {stop : List Nat} {Q : Option Value → ab_H → Prop} (hb : bt.all (fun q => ab_chk k q.1 q.2) = true) : ∀ (f : Nat) {pc n bc bs : Nat} {ls : List (Option Value)} {st : List Value} {h : ab_H}, ab_rn d k bt stop Q f pc n bc bs ls st h → ab_W d k pc n bc bs ls st h Q
  | 0, _, _, _, _, _, _, _, hw => hw
  | f + 1, pc, n, bc, bs, ls, st, h, hw => by
    unfold ab_rn at hw
    split at hw
    · exact hw
    · exact ab_wp_ok (fun t n bc bs ls st h q => ab_rn_ok hb f q) _ (ab_bl_ok hb) hw
/-- on from a program counter: the blocks are walked until a place of the list 'stop' (or f blocks on) -/
theorem ab_go {d k : Nat} {bt : List (Nat × List ab_O)} (stop : List Nat) (f : Nat) {Q : Option Value → ab_H → Prop} (hb : bt.all (fun q => ab_chk k q.1 q.2) = true) {pc n bc bs : Nat} {ls : List (Option Value)} {st : List Value} {h : ab_H} (hw : ab_wp d (ab_rn d k bt stop Q f) Q (ab_bl bt pc) n bc bs ls st h) : ab_W d k pc n bc bs ls st h Q :=
  ab_wp_ok (fun t n bc bs ls st h q => ab_rn_ok hb f q) _ (ab_bl_ok hb) hw
end
section
/-! ===== rows that unfold the weakest precondition (printed by wip/p28/mkeval.py) ===== -/
theorem ev_rn {d k : Nat} {bt : List (Nat × List ab_O)} {stop : List Nat} {Q : Option Value → ab_H → Prop} {f pc n bc bs : Nat} {ls : List (Option Value)} {st : List Value} {h : ab_H} : ab_rn d k bt stop Q (f + 1) pc n bc bs ls st h = if pc ∈ stop then ab_W d k pc n bc bs ls st h Q else ab_wp d (ab_rn d k bt stop Q f) Q (ab_bl bt pc) n bc bs ls st h := rfl
theorem ev_iadd {d : Nat} {J : Nat → ab_K} {Q : Option Value → ab_H → Prop} {os : List ab_O} {n bc bs : Nat} {st : List Value} {h : ab_H} {ls : List (Option Value)} {len : Nat} {dt : List Nat} {v : Int} {x y : Int32} : ab_wp d J Q ((.iadd, len, dt, v) :: os) n bc bs ls (.int y :: .int x :: st) h = (ab_wp d J Q os n bc bs ls (.int (x + y) :: st) h) := rfl
theorem ev_isub {d : Nat} {J : Nat → ab_K} {Q : Option Value → ab_H → Prop} {os : List ab_O} {n bc bs : Nat} {st : List Value} {h : ab_H} {ls : List (Option Value)} {len : Nat} {dt : List Nat} {v : Int} {x y : Int32} : ab_wp d J Q ((.isub, len, dt, v) :: os) n bc bs ls (.int y :: .int x :: st) h = (ab_wp d J Q os n bc bs ls (.int (x - y) :: st) h) := rfl
theorem ev_imul {d : Nat} {J : Nat → ab_K} {Q : Option Value → ab_H → Prop} {os : List ab_O} {n bc bs : Nat} {st : List Value} {h : ab_H} {ls : List (Option Value)} {len : Nat} {dt : List Nat} {v : Int} {x y : Int32} : ab_wp d J Q ((.imul, len, dt, v) :: os) n bc bs ls (.int y :: .int x :: st) h = (ab_wp d J Q os n bc bs ls (.int (x * y) :: st) h) := rfl
theorem ev_iand {d : Nat} {J : Nat → ab_K} {Q : Option Value → ab_H → Prop} {os : List ab_O} {n bc bs : Nat} {st : List Value} {h : ab_H} {ls : List (Option Value)} {len : Nat} {dt : List Nat} {v : Int} {x y : Int32} : ab_wp d J Q ((.iand, len, dt, v) :: os) n bc bs ls (.int y :: .int x :: st) h = (ab_wp d J Q os n bc bs ls (.int (x &&& y) :: st) h) := rfl
theorem ev_ior {d : Nat} {J : Nat → ab_K} {Q : Option Value → ab_H → Prop} {os : List ab_O} {n bc bs : Nat} {st : List Value} {h : ab_H} {ls : List (Option Value)} {len : Nat} {dt : List Nat} {v : Int} {x y : Int32} : ab_wp d J Q ((.ior, len, dt, v) :: os) n bc bs ls (.int y :: .int x :: st) h = (ab_wp d J Q os n bc bs ls (.int (x ||| y) :: st) h) := rfl
theorem ev_ixor {d : Nat} {J : Nat → ab_K} {Q : Option Value → ab_H → Prop} {os : List ab_O} {n bc bs : Nat} {st : List Value} {h : ab_H} {ls : List (Option Value)} {len : Nat} {dt : List Nat} {v : Int} {x y : Int32} : ab_wp d J Q ((.ixor, len, dt, v) :: os) n bc bs ls (.int y :: .int x :: st) h = (ab_wp d J Q os n bc bs ls (.int (x ^^^ y) :: st) h) := rfl
theorem ev_ishl {d : Nat} {J : Nat → ab_K} {Q : Option Value → ab_H → Prop} {os : List ab_O} {n bc bs : Nat} {st : List Value} {h : ab_H} {ls : List (Option Value)} {len : Nat} {dt : List Nat} {v : Int} {x y : Int32} : ab_wp d J Q ((.ishl, len, dt, v) :: os) n bc bs ls (.int y :: .int x :: st) h = (ab_wp d J Q os n bc bs ls (.int (x <<< (y &&& 31)) :: st) h) := rfl
theorem ev_ishr {d : Nat} {J : Nat → ab_K} {Q : Option Value → ab_H → Prop} {os : List ab_O} {n bc bs : Nat} {st : List Value} {h : ab_H} {ls : List (Option Value)} {len : Nat} {dt : List Nat} {v : Int} {x y : Int32} : ab_wp d J Q ((.ishr, len, dt, v) :: os) n bc bs ls (.int y :: .int x :: st) h = (ab_wp d J Q os n bc bs ls (.int (x >>> (y &&& 31)) :: st) h) := rfl
theorem ev_iushr {d : Nat} {J : Nat → ab_K} {Q : Option Value → ab_H → Prop} {os : List ab_O} {n bc bs : Nat} {st : List Value} {h : ab_H} {ls : List (Option Value)} {len : Nat} {dt : List Nat} {v : Int} {x y : Int32} : ab_wp d J Q ((.iushr, len, dt, v) :: os) n bc bs ls (.int y :: .int x :: st) h = (ab_wp d J Q os n bc bs ls (.int ((x.toUInt32 >>> (y.toUInt32 &&& Int32.toUInt32 31)).toInt32) :: st) h) := rfl
theorem ev_idiv {d : Nat} {J : Nat → ab_K} {Q : Option Value → ab_H → Prop} {os : List ab_O} {n bc bs : Nat} {st : List Value} {h : ab_H} {ls : List (Option Value)} {len : Nat} {dt : List Nat} {v : Int} {x y : Int32} : ab_wp d J Q ((.idiv, len, dt, v) :: os) n bc bs ls (.int y :: .int x :: st) h = (¬ y = 0 ∧ ab_wp d J Q os n bc bs ls (.int (x / y) :: st) h) := rfl
theorem ev_irem {d : Nat} {J : Nat → ab_K} {Q : Option Value → ab_H → Prop} {os : List ab_O} {n bc bs : Nat} {st : List Value} {h : ab_H} {ls : List (Option Value)} {len : Nat} {dt : List Nat} {v : Int} {x y : Int32} : ab_wp d J Q ((.irem, len, dt, v) :: os) n bc bs ls (.int y :: .int x :: st) h = (¬ y = 0 ∧ ab_wp d J Q os n bc bs ls (.int (x - x / y * y) :: st) h) := rfl
theorem ev_ineg {d : Nat} {J : Nat → ab_K} {Q : Option Value → ab_H → Prop} {os : List ab_O} {n bc bs : Nat} {st : List Value} {h : ab_H} {ls : List (Option Value)} {len : Nat} {dt : List Nat} {v : Int} {x : Int32} : ab_wp d J Q ((.ineg, len, dt, v) :: os) n bc bs ls (.int x :: st) h = (ab_wp d J Q os n bc bs ls (.int (-x) :: st) h) := rfl
theorem ev_i2f {d : Nat} {J : Nat → ab_K} {Q : Option Value → ab_H → Prop} {os : List ab_O} {n bc bs : Nat} {st : List Value} {h : ab_H} {ls : List (Option Value)} {len : Nat} {dt : List Nat} {v : Int} {x : Int32} : ab_wp d J Q ((.i2f, len, dt, v) :: os) n bc bs ls (.int x :: st) h = (ab_wp d J Q os n bc bs ls (.float (FP.i2f x) :: st) h) := rfl
theorem ev_fdiv {d : Nat} {J : Nat → ab_K} {Q : Option Value → ab_H → Prop} {os : List ab_O} {n bc bs : Nat} {st : List Value} {h : ab_H} {ls : List (Option Value)} {len : Nat} {dt : List Nat} {v : Int} {x y : UInt32} : ab_wp d J Q ((.fdiv, len, dt, v) :: os) n bc bs ls (.float y :: .float x :: st) h = (vf_n32 (FP.fdiv x y) ∧ ab_wp d J Q os n bc bs ls (.float (FP.fdiv x y) :: st) h) := rfl
theorem ev_fmul {d : Nat} {J : Nat → ab_K} {Q : Option Value → ab_H → Prop} {os : List ab_O} {n bc bs : Nat} {st : List Value} {h : ab_H} {ls : List (Option Value)} {len : Nat} {dt : List Nat} {v : Int} {x y : UInt32} : ab_wp d J Q ((.fmul, len, dt, v) :: os) n bc bs ls (.float y :: .float x :: st) h = (vf_n32 (FP.fmul x y) ∧ ab_wp d J Q os n bc bs ls (.float (FP.fmul x y) :: st) h) := rfl
theorem ev_f2i {d : Nat} {J : Nat → ab_K} {Q : Option Value → ab_H → Prop} {os : List ab_O} {n bc bs : Nat} {st : List Value} {h : ab_H} {ls : List (Option Value)} {len : Nat} {dt : List Nat} {v : Int} {x : UInt32} : ab_wp d J Q ((.f2i, len, dt, v) :: os) n bc bs ls (.float x :: st) h = (ab_wp d J Q os n bc bs ls (.int (FP.f2i x) :: st) h) := rfl
theorem ev_fcmp {d : Nat} {J : Nat → ab_K} {Q : Option Value → ab_H → Prop} {os : List ab_O} {n bc bs : Nat} {st : List Value} {h : ab_H} {ls : List (Option Value)} {len : Nat} {dt : List Nat} {v : Int} {x y : UInt32} {op : CmpOp} : ab_wp d J Q (((.fcmp op), len, dt, v) :: os) n bc bs ls (.float y :: .float x :: st) h = (ab_wp d J Q os n bc bs ls (.int (Op.cmpValue (FP.fcmp x y) op) :: st) h) := rfl
theorem ev_fconst {d : Nat} {J : Nat → ab_K} {Q : Option Value → ab_H → Prop} {os : List ab_O} {n bc bs : Nat} {st : List Value} {h : ab_H} {ls : List (Option Value)} {len : Nat} {dt : List Nat} {v : Int} {f : Fin 3} : ab_wp d J Q (((.fconst f), len, dt, v) :: os) n bc bs ls st h = (ab_wp d J Q os n bc bs ls (.float FP.fconst2 :: st) h) := rfl
theorem ev_lconst {d : Nat} {J : Nat → ab_K} {Q : Option Value → ab_H → Prop} {os : List ab_O} {n bc bs : Nat} {st : List Value} {h : ab_H} {ls : List (Option Value)} {len : Nat} {dt : List Nat} {v : Int} {i : Fin 2} : ab_wp d J Q (((.lconst i), len, dt, v) :: os) n bc bs ls st h = (ab_wp d J Q os n bc bs ls (.long (Int64.ofInt v) :: st) h) := rfl
theorem ev_ldc2_w {d : Nat} {J : Nat → ab_K} {Q : Option Value → ab_H → Prop} {os : List ab_O} {n bc bs : Nat} {st : List Value} {h : ab_H} {ls : List (Option Value)} {len : Nat} {dt : List Nat} {v : Int} {i : Nat} : ab_wp d J Q (((.ldc2_w i), len, dt, v) :: os) n bc bs ls st h = (ab_wp d J Q os n bc bs ls (.long (Int64.ofInt v) :: st) h) := rfl
theorem ev_ladd {d : Nat} {J : Nat → ab_K} {Q : Option Value → ab_H → Prop} {os : List ab_O} {n bc bs : Nat} {st : List Value} {h : ab_H} {ls : List (Option Value)} {len : Nat} {dt : List Nat} {v : Int} {x y : Int64} : ab_wp d J Q ((.ladd, len, dt, v) :: os) n bc bs ls (.long y :: .long x :: st) h = (ab_wp d J Q os n bc bs ls (.long (x + y) :: st) h) := rfl
theorem ev_lmul {d : Nat} {J : Nat → ab_K} {Q : Option Value → ab_H → Prop} {os : List ab_O} {n bc bs : Nat} {st : List Value} {h : ab_H} {ls : List (Option Value)} {len : Nat} {dt : List Nat} {v : Int} {x y : Int64} : ab_wp d J Q ((.lmul, len, dt, v) :: os) n bc bs ls (.long y :: .long x :: st) h = (ab_wp d J Q os n bc bs ls (.long (x * y) :: st) h) := rfl
theorem ev_land {d : Nat} {J : Nat → ab_K} {Q : Option Value → ab_H → Prop} {os : List ab_O} {n bc bs : Nat} {st : List Value} {h : ab_H} {ls : List (Option Value)} {len : Nat} {dt : List Nat} {v : Int} {x y : Int64} : ab_wp d J Q ((.land, len, dt, v) :: os) n bc bs ls (.long y :: .long x :: st) h = (ab_wp d J Q os n bc bs ls (.long (x &&& y) :: st) h) := rfl
theorem ev_lcmp {d : Nat} {J : Nat → ab_K} {Q : Option Value → ab_H → Prop} {os : List ab_O} {n bc bs : Nat} {st : List Value} {h : ab_H} {ls : List (Option Value)} {len : Nat} {dt : List Nat} {v : Int} {x y : Int64} : ab_wp d J Q ((.lcmp, len, dt, v) :: os) n bc bs ls (.long y :: .long x :: st) h = (ab_wp d J Q os n bc bs ls (.int (lg_cmp x y) :: st) h) := rfl
theorem ev_lshr {d : Nat} {J : Nat → ab_K} {Q : Option Value → ab_H → Prop} {os : List ab_O} {n bc bs : Nat} {st : List Value} {h : ab_H} {ls : List (Option Value)} {len : Nat} {dt : List Nat} {v : Int} {x : Int64} {y : Int32} : ab_wp d J Q ((.lshr, len, dt, v) :: os) n bc bs ls (.int y :: .long x :: st) h = (ab_wp d J Q os n bc bs ls (.long (x >>> (y.toInt64 &&& 63)) :: st) h) := rfl
theorem ev_i2l {d : Nat} {J : Nat → ab_K} {Q : Option Value → ab_H → Prop} {os : List ab_O} {n bc bs : Nat} {st : List Value} {h : ab_H} {ls : List (Option Value)} {len : Nat} {dt : List Nat} {v : Int} {x : Int32} : ab_wp d J Q ((.i2l, len, dt, v) :: os) n bc bs ls (.int x :: st) h = (ab_wp d J Q os n bc bs ls (.long x.toInt64 :: st) h) := rfl
theorem ev_l2i {d : Nat} {J : Nat → ab_K} {Q : Option Value → ab_H → Prop} {os : List ab_O} {n bc bs : Nat} {st : List Value} {h : ab_H} {ls : List (Option Value)} {len : Nat} {dt : List Nat} {v : Int} {x : Int64} : ab_wp d J Q ((.l2i, len, dt, v) :: os) n bc bs ls (.long x :: st) h = (ab_wp d J Q os n bc bs ls (.int x.toInt32 :: st) h) := rfl
theorem ev_lreturn {d : Nat} {J : Nat → ab_K} {Q : Option Value → ab_H → Prop} {os : List ab_O} {n bc bs : Nat} {h : ab_H} {ls : List (Option Value)} {len : Nat} {dt : List Nat} {v : Int} {x : Int64} : ab_wp d J Q ((.lreturn, len, dt, v) :: os) n bc bs ls [.long x] h = (bc = 0 ∧ Q (some (.long x)) h) := rfl
theorem ev_lload_0 {d : Nat} {J : Nat → ab_K} {Q : Option Value → ab_H → Prop} {os : List ab_O} {n bc bs : Nat} {st : List Value} {h : ab_H} {ls : List (Option Value)} {len : Nat} {v : Int} {x : Int64} {j : Fin 4} : ab_wp d J Q (((.lload_n j), len, [0], v) :: os) n bc bs (some (.long x) :: ls) st h = (ab_wp d J Q os n bc bs (some (.long x) :: ls) (.long x :: st) h) := rfl
theorem ev_lstore_0 {d : Nat} {J : Nat → ab_K} {Q : Option Value → ab_H → Prop} {os : List ab_O} {n bc bs : Nat} {st : List Value} {h : ab_H} {ls : List (Option Value)} {a b : Option Value} {len : Nat} {v : Int} {x : Int64} {j : Fin 4} : ab_wp d J Q (((.lstore_n j), len, [0], v) :: os) n bc bs (a :: b :: ls) (.long x :: st) h = (ab_wp d J Q os n bc bs (some (.long x) :: none :: ls) st h) := rfl
theorem ev_lload_1 {d : Nat} {J : Nat → ab_K} {Q : Option Value → ab_H → Prop} {os : List ab_O} {n bc bs : Nat} {st : List Value} {h : ab_H} {ls : List (Option Value)} {a0 : Option Value} {len : Nat} {v : Int} {x : Int64} {j : Fin 4} : ab_wp d J Q (((.lload_n j), len, [1], v) :: os) n bc bs (a0 :: some (.long x) :: ls) st h = (ab_wp d J Q os n bc bs (a0 :: some (.long x) :: ls) (.long x :: st) h) := rfl
theorem ev_lstore_1 {d : Nat} {J : Nat → ab_K} {Q : Option Value → ab_H → Prop} {os : List ab_O} {n bc bs : Nat} {st : List Value} {h : ab_H} {ls : List (Option Value)} {a0 : Option Value} {a b : Option Value} {len : Nat} {v : Int} {x : Int64} {j : Fin 4} : ab_wp d J Q (((.lstore_n j), len, [1], v) :: os) n bc bs (a0 :: a :: b :: ls) (.long x :: st) h = (ab_wp d J Q os n bc bs (a0 :: some (.long x) :: none :: ls) st h) := rfl
theorem ev_lload_2 {d : Nat} {J : Nat → ab_K} {Q : Option Value → ab_H → Prop} {os : List ab_O} {n bc bs : Nat} {st : List Value} {h : ab_H} {ls : List (Option Value)} {a0 a1 : Option Value} {len : Nat} {v : Int} {x : Int64} {j : Fin 4} : ab_wp d J Q (((.lload_n j), len, [2], v) :: os) n bc bs (a0 :: a1 :: some (.long x) :: ls) st h = (ab_wp d J Q os n bc bs (a0 :: a1 :: some (.long x) :: ls) (.long x :: st) h) := rfl
theorem ev_lstore_2 {d : Nat} {J : Nat → ab_K} {Q : Option Value → ab_H → Prop} {os : List ab_O} {n bc bs : Nat} {st : List Value} {h : ab_H} {ls : List (Option Value)} {a0 a1 : Option Value} {a b : Option Value} {len : Nat} {v : Int} {x : Int64} {j : Fin 4} : ab_wp d J Q (((.lstore_n j), len, [2], v) :: os) n bc bs (a0 :: a1 :: a :: b :: ls) (.long x :: st) h = (ab_wp d J Q os n bc bs (a0 :: a1 :: some (.long x) :: none :: ls) st h) := rfl
theorem ev_lload_3 {d : Nat} {J : Nat → ab_K} {Q : Option Value → ab_H → Prop} {os : List ab_O} {n bc bs : Nat} {st : List Value} {h : ab_H} {ls : List (Option Value)} {a0 a1 a2 : Option Value} {len : Nat} {v : Int} {x : Int64} {j : Fin 4} : ab_wp d J Q (((.lload_n j), len, [3], v) :: os) n bc bs (a0 :: a1 :: a2 :: some (.long x) :: ls) st h = (ab_wp d J Q os n bc bs (a0 :: a1 :: a2 :: some (.long x) :: ls) (.long x :: st) h) := rfl
theorem ev_lstore_3 {d : Nat} {J : Nat → ab_K} {Q : Option Value → ab_H → Prop} {os : List ab_O} {n bc bs : Nat} {st : List Value} {h : ab_H} {ls : List (Option Value)} {a0 a1 a2 : Option Value} {a b : Option Value} {len : Nat} {v : Int} {x : Int64} {j : Fin 4} : ab_wp d J Q (((.lstore_n j), len, [3], v) :: os) n bc bs (a0 :: a1 :: a2 :: a :: b :: ls) (.long x :: st) h = (ab_wp d J Q os n bc bs (a0 :: a1 :: a2 :: some (.long x) :: none :: ls) st h) := rfl
theorem ev_aconst_null {d : Nat} {J : Nat → ab_K} {Q : Option Value → ab_H → Prop} {os : List ab_O} {n bc bs : Nat} {st : List Value} {h : ab_H} {ls : List (Option Value)} {len : Nat} {dt : List Nat} {v : Int} : ab_wp d J Q ((.aconst_null, len, dt, v) :: os) n bc bs ls st h = (ab_wp d J Q os n bc bs ls (.null :: st) h) := rfl
theorem ev_iconst {d : Nat} {J : Nat → ab_K} {Q : Option Value → ab_H → Prop} {os : List ab_O} {n bc bs : Nat} {st : List Value} {h : ab_H} {ls : List (Option Value)} {len : Nat} {dt : List Nat} {v : Int} {i : Int} : ab_wp d J Q (((.iconst i), len, dt, v) :: os) n bc bs ls st h = (ab_wp d J Q os n bc bs ls (.int (Int32.ofInt v) :: st) h) := rfl
theorem ev_bipush {d : Nat} {J : Nat → ab_K} {Q : Option Value → ab_H → Prop} {os : List ab_O} {n bc bs : Nat} {st : List Value} {h : ab_H} {ls : List (Option Value)} {len : Nat} {dt : List Nat} {v : Int} {i : Int} : ab_wp d J Q (((.bipush i), len, dt, v) :: os) n bc bs ls st h = (ab_wp d J Q os n bc bs ls (.int (Int32.ofInt v) :: st) h) := rfl
theorem ev_sipush {d : Nat} {J : Nat → ab_K} {Q : Option Value → ab_H → Prop} {os : List ab_O} {n bc bs : Nat} {st : List Value} {h : ab_H} {ls : List (Option Value)} {len : Nat} {dt : List Nat} {v : Int} {i : Int} : ab_wp d J Q (((.sipush i), len, dt, v) :: os) n bc bs ls st h = (ab_wp d J Q os n bc bs ls (.int (Int32.ofInt v) :: st) h) := rfl
theorem ev_ldc {d : Nat} {J : Nat → ab_K} {Q : Option Value → ab_H → Prop} {os : List ab_O} {n bc bs : Nat} {st : List Value} {h : ab_H} {ls : List (Option Value)} {len p i : Nat} {v : Int} : ab_wp d J Q (((.ldc i), len, [p], v) :: os) n bc bs ls st h = (ab_wp d J Q os n bc bs ls (.int (Int32.ofInt v) :: st) h) := rfl
theorem ev_ldc_f {d : Nat} {J : Nat → ab_K} {Q : Option Value → ab_H → Prop} {os : List ab_O} {n bc bs : Nat} {st : List Value} {h : ab_H} {ls : List (Option Value)} {len p i : Nat} {v : Int} : ab_wp d J Q (((.ldc i), len, [p, 1], v) :: os) n bc bs ls st h = (ab_wp d J Q os n bc bs ls (.float (UInt32.ofNat v.toNat) :: st) h) := rfl
theorem ev_ldc_w {d : Nat} {J : Nat → ab_K} {Q : Option Value → ab_H → Prop} {os : List ab_O} {n bc bs : Nat} {st : List Value} {h : ab_H} {ls : List (Option Value)} {len p i : Nat} {v : Int} : ab_wp d J Q (((.ldc_w i), len, [p], v) :: os) n bc bs ls st h = (ab_wp d J Q os n bc bs ls (.int (Int32.ofInt v) :: st) h) := rfl
theorem ev_ldc_w_f {d : Nat} {J : Nat → ab_K} {Q : Option Value → ab_H → Prop} {os : List ab_O} {n bc bs : Nat} {st : List Value} {h : ab_H} {ls : List (Option Value)} {len p i : Nat} {v : Int} : ab_wp d J Q (((.ldc_w i), len, [p, 1], v) :: os) n bc bs ls st h = (ab_wp d J Q os n bc bs ls (.float (UInt32.ofNat v.toNat) :: st) h) := rfl
theorem ev_iload_0 {d : Nat} {J : Nat → ab_K} {Q : Option Value → ab_H → Prop} {os : List ab_O} {n bc bs : Nat} {st : List Value} {h : ab_H} {ls : List (Option Value)} {len : Nat} {v : Int} {x : Int32} {j : Fin 4} : ab_wp d J Q (((.iload_n j), len, [0], v) :: os) n bc bs (some (.int x) :: ls) st h = (ab_wp d J Q os n bc bs (some (.int x) :: ls) (.int x :: st) h) := rfl
theorem ev_fload_0 {d : Nat} {J : Nat → ab_K} {Q : Option Value → ab_H → Prop} {os : List ab_O} {n bc bs : Nat} {st : List Value} {h : ab_H} {ls : List (Option Value)} {len : Nat} {v : Int} {x : UInt32} {j : Fin 4} : ab_wp d J Q (((.fload_n j), len, [0], v) :: os) n bc bs (some (.float x) :: ls) st h = (ab_wp d J Q os n bc bs (some (.float x) :: ls) (.float x :: st) h) := rfl
theorem ev_aload_0 {d : Nat} {J : Nat → ab_K} {Q : Option Value → ab_H → Prop} {os : List ab_O} {n bc bs : Nat} {st : List Value} {h : ab_H} {ls : List (Option Value)} {len : Nat} {v : Int} {x : Nat} {j : Fin 4} : ab_wp d J Q (((.aload_n j), len, [0], v) :: os) n bc bs (some (.ref x) :: ls) st h = (ab_wp d J Q os n bc bs (some (.ref x) :: ls) (.ref x :: st) h) := rfl
theorem ev_aload_0N {d : Nat} {J : Nat → ab_K} {Q : Option Value → ab_H → Prop} {os : List ab_O} {n bc bs : Nat} {st : List Value} {h : ab_H} {ls : List (Option Value)} {len : Nat} {v : Int} {j : Fin 4} : ab_wp d J Q (((.aload_n j), len, [0], v) :: os) n bc bs (some (.null) :: ls) st h = (ab_wp d J Q os n bc bs (some (.null) :: ls) (.null :: st) h) := rfl
theorem ev_istore_0 {d : Nat} {J : Nat → ab_K} {Q : Option Value → ab_H → Prop} {os : List ab_O} {n bc bs : Nat} {st : List Value} {h : ab_H} {ls : List (Option Value)} {a : Option Value} {len : Nat} {v : Int} {x : Int32} {j : Fin 4} : ab_wp d J Q (((.istore_n j), len, [0], v) :: os) n bc bs (a :: ls) (.int x :: st) h = (ab_wp d J Q os n bc bs (some (.int x) :: ls) st h) := rfl
theorem ev_fstore_0 {d : Nat} {J : Nat → ab_K} {Q : Option Value → ab_H → Prop} {os : List ab_O} {n bc bs : Nat} {st : List Value} {h : ab_H} {ls : List (Option Value)} {a : Option Value} {len : Nat} {v : Int} {x : UInt32} {j : Fin 4} : ab_wp d J Q (((.fstore_n j), len, [0], v) :: os) n bc bs (a :: ls) (.float x :: st) h = (ab_wp d J Q os n bc bs (some (.float x) :: ls) st h) := rfl
theorem ev_astore_0 {d : Nat} {J : Nat → ab_K} {Q : Option Value → ab_H → Prop} {os : List ab_O} {n bc bs : Nat} {st : List Value} {h : ab_H} {ls : List (Option Value)} {a : Option Value} {len : Nat} {v : Int} {x : Nat} {j : Fin 4} : ab_wp d J Q (((.astore_n j), len, [0], v) :: os) n bc bs (a :: ls) (.ref x :: st) h = (ab_wp d J Q os n bc bs (some (.ref x) :: ls) st h) := rfl
theorem ev_astore_0N {d : Nat} {J : Nat → ab_K} {Q : Option Value → ab_H → Prop} {os : List ab_O} {n bc bs : Nat} {st : List Value} {h : ab_H} {ls : List (Option Value)} {a : Option Value} {len : Nat} {v : Int} {j : Fin 4} : ab_wp d J Q (((.astore_n j), len, [0], v) :: os) n bc bs (a :: ls) (.null :: st) h = (ab_wp d J Q os n bc bs (some (.null) :: ls) st h) := rfl
theorem ev_iinc_0 {d : Nat} {J : Nat → ab_K} {Q : Option Value → ab_H → Prop} {os : List ab_O} {n bc bs : Nat} {st : List Value} {h : ab_H} {ls : List (Option Value)} {len j : Nat} {c v : Int} {x : Int32} : ab_wp d J Q (((.iinc j c), len, [0], v) :: os) n bc bs (some (.int x) :: ls) st h = (ab_wp d J Q os n bc bs (some (.int (x + Int32.ofInt v)) :: ls) st h) := rfl
theorem ev_iload_1 {d : Nat} {J : Nat → ab_K} {Q : Option Value → ab_H → Prop} {os : List ab_O} {n bc bs : Nat} {st : List Value} {h : ab_H} {ls : List (Option Value)} {a0 : Option Value} {len : Nat} {v : Int} {x : Int32} {j : Fin 4} : ab_wp d J Q (((.iload_n j), len, [1], v) :: os) n bc bs (a0 :: some (.int x) :: ls) st h = (ab_wp d J Q os n bc bs (a0 :: some (.int x) :: ls) (.int x :: st) h) := rfl
theorem ev_fload_1 {d : Nat} {J : Nat → ab_K} {Q : Option Value → ab_H → Prop} {os : List ab_O} {n bc bs : Nat} {st : List Value} {h : ab_H} {ls : List (Option Value)} {a0 : Option Value} {len : Nat} {v : Int} {x : UInt32} {j : Fin 4} : ab_wp d J Q (((.fload_n j), len, [1], v) :: os) n bc bs (a0 :: some (.float x) :: ls) st h = (ab_wp d J Q os n bc bs (a0 :: some (.float x) :: ls) (.float x :: st) h) := rfl
theorem ev_aload_1 {d : Nat} {J : Nat → ab_K} {Q : Option Value → ab_H → Prop} {os : List ab_O} {n bc bs : Nat} {st : List Value} {h : ab_H} {ls : List (Option Value)} {a0 : Option Value} {len : Nat} {v : Int} {x : Nat} {j : Fin 4} : ab_wp d J Q (((.aload_n j), len, [1], v) :: os) n bc bs (a0 :: some (.ref x) :: ls) st h = (ab_wp d J Q os n bc bs (a0 :: some (.ref x) :: ls) (.ref x :: st) h) := rfl
theorem ev_aload_1N {d : Nat} {J : Nat → ab_K} {Q : Option Value → ab_H → Prop} {os : List ab_O} {n bc bs : Nat} {st : List Value} {h : ab_H} {ls : List (Option Value)} {a0 : Option Value} {len : Nat} {v : Int} {j : Fin 4} : ab_wp d J Q (((.aload_n j), len, [1], v) :: os) n bc bs (a0 :: some (.null) :: ls) st h = (ab_wp d J Q os n bc bs (a0 :: some (.null) :: ls) (.null :: st) h) := rfl
theorem ev_istore_1 {d : Nat} {J : Nat → ab_K} {Q : Option Value → ab_H → Prop} {os : List ab_O} {n bc bs : Nat} {st : List Value} {h : ab_H} {ls : List (Option Value)} {a0 : Option Value} {a : Option Value} {len : Nat} {v : Int} {x : Int32} {j : Fin 4} : ab_wp d J Q (((.istore_n j), len, [1], v) :: os) n bc bs (a0 :: a :: ls) (.int x :: st) h = (ab_wp d J Q os n bc bs (a0 :: some (.int x) :: ls) st h) := rfl
theorem ev_fstore_1 {d : Nat} {J : Nat → ab_K} {Q : Option Value → ab_H → Prop} {os : List ab_O} {n bc bs : Nat} {st : List Value} {h : ab_H} {ls : List (Option Value)} {a0 : Option Value} {a : Option Value} {len : Nat} {v : Int} {x : UInt32} {j : Fin 4} : ab_wp d J Q (((.fstore_n j), len, [1], v) :: os) n bc bs (a0 :: a :: ls) (.float x :: st) h = (ab_wp d J Q os n bc bs (a0 :: some (.float x) :: ls) st h) := rfl
theorem ev_astore_1 {d : Nat} {J : Nat → ab_K} {Q : Option Value → ab_H → Prop} {os : List ab_O} {n bc bs : Nat} {st : List Value} {h : ab_H} {ls : List (Option Value)} {a0 : Option Value} {a : Option Value} {len : Nat} {v : Int} {x : Nat} {j : Fin 4} : ab_wp d J Q (((.astore_n j), len, [1], v) :: os) n bc bs (a0 :: a :: ls) (.ref x :: st) h = (ab_wp d J Q os n bc bs (a0 :: some (.ref x) :: ls) st h) := rfl
theorem ev_astore_1N {d : Nat} {J : Nat → ab_K} {Q : Option Value → ab_H → Prop} {os : List ab_O} {n bc bs : Nat} {st : List Value} {h : ab_H} {ls : List (Option Value)} {a0 : Option Value} {a : Option Value} {len : Nat} {v : Int} {j : Fin 4} : ab_wp d J Q (((.astore_n j), len, [1], v) :: os) n bc bs (a0 :: a :: ls) (.null :: st) h = (ab_wp d J Q os n bc bs (a0 :: some (.null) :: ls) st h) := rfl
theorem ev_iinc_1 {d : Nat} {J : Nat → ab_K} {Q : Option Value → ab_H → Prop} {os : List ab_O} {n bc bs : Nat} {st : List Value} {h : ab_H} {ls : List (Option Value)} {a0 : Option Value} {len j : Nat} {c v : Int} {x : Int32} : ab_wp d J Q (((.iinc j c), len, [1], v) :: os) n bc bs (a0 :: some (.int x) :: ls) st h = (ab_wp d J Q os n bc bs (a0 :: some (.int (x + Int32.ofInt v)) :: ls) st h) := rfl
theorem ev_iload_2 {d : Nat} {J : Nat → ab_K} {Q : Option Value → ab_H → Prop} {os : List ab_O} {n bc bs : Nat} {st : List Value} {h : ab_H} {ls : List (Option Value)} {a0 a1 : Option Value} {len : Nat} {v : Int} {x : Int32} {j : Fin 4} : ab_wp d J Q (((.iload_n j), len, [2], v) :: os) n bc bs (a0 :: a1 :: some (.int x) :: ls) st h = (ab_wp d J Q os n bc bs (a0 :: a1 :: some (.int x) :: ls) (.int x :: st) h) := rfl
theorem ev_fload_2 {d : Nat} {J : Nat → ab_K} {Q : Option Value → ab_H → Prop} {os : List ab_O} {n bc bs : Nat} {st : List Value} {h : ab_H} {ls : List (Option Value)} {a0 a1 : Option Value} {len : Nat} {v : Int} {x : UInt32} {j : Fin 4} : ab_wp d J Q (((.fload_n j), len, [2], v) :: os) n bc bs (a0 :: a1 :: some (.float x) :: ls) st h = (ab_wp d J Q os n bc bs (a0 :: a1 :: some (.float x) :: ls) (.float x :: st) h) := rfl
theorem ev_aload_2 {d : Nat} {J : Nat → ab_K} {Q : Option Value → ab_H → Prop} {os : List ab_O} {n bc bs : Nat} {st : List Value} {h : ab_H} {ls : List (Option Value)} {a0 a1 : Option Value} {len : Nat} {v : Int} {x : Nat} {j : Fin 4} : ab_wp d J Q (((.aload_n j), len, [2], v) :: os) n bc bs (a0 :: a1 :: some (.ref x) :: ls) st h = (ab_wp d J Q os n bc bs (a0 :: a1 :: some (.ref x) :: ls) (.ref x :: st) h) := rfl
theorem ev_aload_2N {d : Nat} {J : Nat → ab_K} {Q : Option Value → ab_H → Prop} {os : List ab_O} {n bc bs : Nat} {st : List Value} {h : ab_H} {ls : List (Option Value)} {a0 a1 : Option Value} {len : Nat} {v : Int} {j : Fin 4} : ab_wp d J Q (((.aload_n j), len, [2], v) :: os) n bc bs (a0 :: a1 :: some (.null) :: ls) st h = (ab_wp d J Q os n bc bs (a0 :: a1 :: some (.null) :: ls) (.null :: st) h) := rfl
theorem ev_istore_2 {d : Nat} {J : Nat → ab_K} {Q : Option Value → ab_H → Prop} {os : List ab_O} {n bc bs : Nat} {st : List Value} {h : ab_H} {ls : List (Option Value)} {a0 a1 : Option Value} {a : Option Value} {len : Nat} {v : Int} {x : Int32} {j : Fin 4} : ab_wp d J Q (((.istore_n j), len, [2], v) :: os) n bc bs (a0 :: a1 :: a :: ls) (.int x :: st) h = (ab_wp d J Q os n bc bs (a0 :: a1 :: some (.int x) :: ls) st h) := rfl
theorem ev_fstore_2 {d : Nat} {J : Nat → ab_K} {Q : Option Value → ab_H → Prop} {os : List ab_O} {n bc bs : Nat} {st : List Value} {h : ab_H} {ls : List (Option Value)} {a0 a1 : Option Value} {a : Option Value} {len : Nat} {v : Int} {x : UInt32} {j : Fin 4} : ab_wp d J Q (((.fstore_n j), len, [2], v) :: os) n bc bs (a0 :: a1 :: a :: ls) (.float x :: st) h = (ab_wp d J Q os n bc bs (a0 :: a1 :: some (.float x) :: ls) st h) := rfl
theorem ev_astore_2 {d : Nat} {J : Nat → ab_K} {Q : Option Value → ab_H → Prop} {os : List ab_O} {n bc bs : Nat} {st : List Value} {h : ab_H} {ls : List (Option Value)} {a0 a1 : Option Value} {a : Option Value} {len : Nat} {v : Int} {x : Nat} {j : Fin 4} : ab_wp d J Q (((.astore_n j), len, [2], v) :: os) n bc bs (a0 :: a1 :: a :: ls) (.ref x :: st) h = (ab_wp d J Q os n bc bs (a0 :: a1 :: some (.ref x) :: ls) st h) := rfl
theorem ev_astore_2N {d : Nat} {J : Nat → ab_K} {Q : Option Value → ab_H → Prop} {os : List ab_O} {n bc bs : Nat} {st : List Value} {h : ab_H} {ls : List (Option Value)} {a0 a1 : Option Value} {a : Option Value} {len : Nat} {v : Int} {j : Fin 4} : ab_wp d J Q (((.astore_n j), len, [2], v) :: os) n bc bs (a0 :: a1 :: a :: ls) (.null :: st) h = (ab_wp d J Q os n bc bs (a0 :: a1 :: some (.null) :: ls) st h) := rfl
theorem ev_iinc_2 {d : Nat} {J : Nat → ab_K} {Q : Option Value → ab_H → Prop} {os : List ab_O} {n bc bs : Nat} {st : List Value} {h : ab_H} {ls : List (Option Value)} {a0 a1 : Option Value} {len j : Nat} {c v : Int} {x : Int32} : ab_wp d J Q (((.iinc j c), len, [2], v) :: os) n bc bs (a0 :: a1 :: some (.int x) :: ls) st h = (ab_wp d J Q os n bc bs (a0 :: a1 :: some (.int (x + Int32.ofInt v)) :: ls) st h) := rfl
theorem ev_iload_3 {d : Nat} {J : Nat → ab_K} {Q : Option Value → ab_H → Prop} {os : List ab_O} {n bc bs : Nat} {st : List Value} {h : ab_H} {ls : List (Option Value)} {a0 a1 a2 : Option Value} {len : Nat} {v : Int} {x : Int32} {j : Fin 4} : ab_wp d J Q (((.iload_n j), len, [3], v) :: os) n bc bs (a0 :: a1 :: a2 :: some (.int x) :: ls) st h = (ab_wp d J Q os n bc bs (a0 :: a1 :: a2 :: some (.int x) :: ls) (.int x :: st) h) := rfl
theorem ev_fload_3 {d : Nat} {J : Nat → ab_K} {Q : Option Value → ab_H → Prop} {os : List ab_O} {n bc bs : Nat} {st : List Value} {h : ab_H} {ls : List (Option Value)} {a0 a1 a2 : Option Value} {len : Nat} {v : Int} {x : UInt32} {j : Fin 4} : ab_wp d J Q (((.fload_n j), len, [3], v) :: os) n bc bs (a0 :: a1 :: a2 :: some (.float x) :: ls) st h = (ab_wp d J Q os n bc bs (a0 :: a1 :: a2 :: some (.float x) :: ls) (.float x :: st) h) := rfl
theorem ev_aload_3 {d : Nat} {J : Nat → ab_K} {Q : Option Value → ab_H → Prop} {os : List ab_O} {n bc bs : Nat} {st : List Value} {h : ab_H} {ls : List (Option Value)} {a0 a1 a2 : Option Value} {len : Nat} {v : Int} {x : Nat} {j : Fin 4} : ab_wp d J Q (((.aload_n j), len, [3], v) :: os) n bc bs (a0 :: a1 :: a2 :: some (.ref x) :: ls) st h = (ab_wp d J Q os n bc bs (a0 :: a1 :: a2 :: some (.ref x) :: ls) (.ref x :: st) h) := rfl
theorem ev_aload_3N {d : Nat} {J : Nat → ab_K} {Q : Option Value → ab_H → Prop} {os : List ab_O} {n bc bs : Nat} {st : List Value} {h : ab_H} {ls : List (Option Value)} {a0 a1 a2 : Option Value} {len : Nat} {v : Int} {j : Fin 4} : ab_wp d J Q (((.aload_n j), len, [3], v) :: os) n bc bs (a0 :: a1 :: a2 :: some (.null) :: ls) st h = (ab_wp d J Q os n bc bs (a0 :: a1 :: a2 :: some (.null) :: ls) (.null :: st) h) := rfl
theorem ev_istore_3 {d : Nat} {J : Nat → ab_K} {Q : Option Value → ab_H → Prop} {os : List ab_O} {n bc bs : Nat} {st : List Value} {h : ab_H} {ls : List (Option Value)} {a0 a1 a2 : Option Value} {a : Option Value} {len : Nat} {v : Int} {x : Int32} {j : Fin 4} : ab_wp d J Q (((.istore_n j), len, [3], v) :: os) n bc bs (a0 :: a1 :: a2 :: a :: ls) (.int x :: st) h = (ab_wp d J Q os n bc bs (a0 :: a1 :: a2 :: some (.int x) :: ls) st h) := rfl
theorem ev_fstore_3 {d : Nat} {J : Nat → ab_K} {Q : Option Value → ab_H → Prop} {os : List ab_O} {n bc bs : Nat} {st : List Value} {h : ab_H} {ls : List (Option Value)} {a0 a1 a2 : Option Value} {a : Option Value} {len : Nat} {v : Int} {x : UInt32} {j : Fin 4} : ab_wp d J Q (((.fstore_n j), len, [3], v) :: os) n bc bs (a0 :: a1 :: a2 :: a :: ls) (.float x :: st) h = (ab_wp d J Q os n bc bs (a0 :: a1 :: a2 :: some (.float x) :: ls) st h) := rfl
theorem ev_astore_3 {d : Nat} {J : Nat → ab_K} {Q : Option Value → ab_H → Prop} {os : List ab_O} {n bc bs : Nat} {st : List Value} {h : ab_H} {ls : List (Option Value)} {a0 a1 a2 : Option Value} {a : Option Value} {len : Nat} {v : Int} {x : Nat} {j : Fin 4} : ab_wp d J Q (((.astore_n j), len, [3], v) :: os) n bc bs (a0 :: a1 :: a2 :: a :: ls) (.ref x :: st) h = (ab_wp d J Q os n bc bs (a0 :: a1 :: a2 :: some (.ref x) :: ls) st h) := rfl
theorem ev_astore_3N {d : Nat} {J : Nat → ab_K} {Q : Option Value → ab_H → Prop} {os : List ab_O} {n bc bs : Nat} {st : List Value} {h : ab_H} {ls : List (Option Value)} {a0 a1 a2 : Option Value} {a : Option Value} {len : Nat} {v : Int} {j : Fin 4} : ab_wp d J Q (((.astore_n j), len, [3], v) :: os) n bc bs (a0 :: a1 :: a2 :: a :: ls) (.null :: st) h = (ab_wp d J Q os n bc bs (a0 :: a1 :: a2 :: some (.null) :: ls) st h) := rfl
theorem ev_iinc_3 {d : Nat} {J : Nat → ab_K} {Q : Option Value → ab_H → Prop} {os : List ab_O} {n bc bs : Nat} {st : List Value} {h : ab_H} {ls : List (Option Value)} {a0 a1 a2 : Option Value} {len j : Nat} {c v : Int} {x : Int32} : ab_wp d J Q (((.iinc j c), len, [3], v) :: os) n bc bs (a0 :: a1 :: a2 :: some (.int x) :: ls) st h = (ab_wp d J Q os n bc bs (a0 :: a1 :: a2 :: some (.int (x + Int32.ofInt v)) :: ls) st h) := rfl
theorem ev_iload_4 {d : Nat} {J : Nat → ab_K} {Q : Option Value → ab_H → Prop} {os : List ab_O} {n bc bs : Nat} {st : List Value} {h : ab_H} {ls : List (Option Value)} {a0 a1 a2 a3 : Option Value} {len : Nat} {v : Int} {x : Int32} {j : Nat} : ab_wp d J Q (((.iload j), len, [4], v) :: os) n bc bs (a0 :: a1 :: a2 :: a3 :: some (.int x) :: ls) st h = (ab_wp d J Q os n bc bs (a0 :: a1 :: a2 :: a3 :: some (.int x) :: ls) (.int x :: st) h) := rfl
theorem ev_aload_4 {d : Nat} {J : Nat → ab_K} {Q : Option Value → ab_H → Prop} {os : List ab_O} {n bc bs : Nat} {st : List Value} {h : ab_H} {ls : List (Option Value)} {a0 a1 a2 a3 : Option Value} {len : Nat} {v : Int} {x : Nat} {j : Nat} : ab_wp d J Q (((.aload j), len, [4], v) :: os) n bc bs (a0 :: a1 :: a2 :: a3 :: some (.ref x) :: ls) st h = (ab_wp d J Q os n bc bs (a0 :: a1 :: a2 :: a3 :: some (.ref x) :: ls) (.ref x :: st) h) := rfl
theorem ev_aload_4N {d : Nat} {J : Nat → ab_K} {Q : Option Value → ab_H → Prop} {os : List ab_O} {n bc bs : Nat} {st : List Value} {h : ab_H} {ls : List (Option Value)} {a0 a1 a2 a3 : Option Value} {len : Nat} {v : Int} {j : Nat} : ab_wp d J Q (((.aload j), len, [4], v) :: os) n bc bs (a0 :: a1 :: a2 :: a3 :: some (.null) :: ls) st h = (ab_wp d J Q os n bc bs (a0 :: a1 :: a2 :: a3 :: some (.null) :: ls) (.null :: st) h) := rfl
theorem ev_istore_4 {d : Nat} {J : Nat → ab_K} {Q : Option Value → ab_H → Prop} {os : List ab_O} {n bc bs : Nat} {st : List Value} {h : ab_H} {ls : List (Option Value)} {a0 a1 a2 a3 : Option Value} {a : Option Value} {len : Nat} {v : Int} {x : Int32} {j : Nat} : ab_wp d J Q (((.istore j), len, [4], v) :: os) n bc bs (a0 :: a1 :: a2 :: a3 :: a :: ls) (.int x :: st) h = (ab_wp d J Q os n bc bs (a0 :: a1 :: a2 :: a3 :: some (.int x) :: ls) st h) := rfl
theorem ev_astore_4 {d : Nat} {J : Nat → ab_K} {Q : Option Value → ab_H → Prop} {os : List ab_O} {n bc bs : Nat} {st : List Value} {h : ab_H} {ls : List (Option Value)} {a0 a1 a2 a3 : Option Value} {a : Option Value} {len : Nat} {v : Int} {x : Nat} {j : Nat} : ab_wp d J Q (((.astore j), len, [4], v) :: os) n bc bs (a0 :: a1 :: a2 :: a3 :: a :: ls) (.ref x :: st) h = (ab_wp d J Q os n bc bs (a0 :: a1 :: a2 :: a3 :: some (.ref x) :: ls) st h) := rfl
theorem ev_astore_4N {d : Nat} {J : Nat → ab_K} {Q : Option Value → ab_H → Prop} {os : List ab_O} {n bc bs : Nat} {st : List Value} {h : ab_H} {ls : List (Option Value)} {a0 a1 a2 a3 : Option Value} {a : Option Value} {len : Nat} {v : Int} {j : Nat} : ab_wp d J Q (((.astore j), len, [4], v) :: os) n bc bs (a0 :: a1 :: a2 :: a3 :: a :: ls) (.null :: st) h = (ab_wp d J Q os n bc bs (a0 :: a1 :: a2 :: a3 :: some (.null) :: ls) st h) := rfl
theorem ev_iinc_4 {d : Nat} {J : Nat → ab_K} {Q : Option Value → ab_H → Prop} {os : List ab_O} {n bc bs : Nat} {st : List Value} {h : ab_H} {ls : List (Option Value)} {a0 a1 a2 a3 : Option Value} {len j : Nat} {c v : Int} {x : Int32} : ab_wp d J Q (((.iinc j c), len, [4], v) :: os) n bc bs (a0 :: a1 :: a2 :: a3 :: some (.int x) :: ls) st h = (ab_wp d J Q os n bc bs (a0 :: a1 :: a2 :: a3 :: some (.int (x + Int32.ofInt v)) :: ls) st h) := rfl
theorem ev_iload_5 {d : Nat} {J : Nat → ab_K} {Q : Option Value → ab_H → Prop} {os : List ab_O} {n bc bs : Nat} {st : List Value} {h : ab_H} {ls : List (Option Value)} {a0 a1 a2 a3 a4 : Option Value} {len : Nat} {v : Int} {x : Int32} {j : Nat} : ab_wp d J Q (((.iload j), len, [5], v) :: os) n bc bs (a0 :: a1 :: a2 :: a3 :: a4 :: some (.int x) :: ls) st h = (ab_wp d J Q os n bc bs (a0 :: a1 :: a2 :: a3 :: a4 :: some (.int x) :: ls) (.int x :: st) h) := rfl
theorem ev_aload_5 {d : Nat} {J : Nat → ab_K} {Q : Option Value → ab_H → Prop} {os : List ab_O} {n bc bs : Nat} {st : List Value} {h : ab_H} {ls : List (Option Value)} {a0 a1 a2 a3 a4 : Option Value} {len : Nat} {v : Int} {x : Nat} {j : Nat} : ab_wp d J Q (((.aload j), len, [5], v) :: os) n bc bs (a0 :: a1 :: a2 :: a3 :: a4 :: some (.ref x) :: ls) st h = (ab_wp d J Q os n bc bs (a0 :: a1 :: a2 :: a3 :: a4 :: some (.ref x) :: ls) (.ref x :: st) h) := rfl
theorem ev_aload_5N {d : Nat} {J : Nat → ab_K} {Q : Option Value → ab_H → Prop} {os : List ab_O} {n bc bs : Nat} {st : List Value} {h : ab_H} {ls : List (Option Value)} {a0 a1 a2 a3 a4 : Option Value} {len : Nat} {v : Int} {j : Nat} : ab_wp d J Q (((.aload j), len, [5], v) :: os) n bc bs (a0 :: a1 :: a2 :: a3 :: a4 :: some (.null) :: ls) st h = (ab_wp d J Q os n bc bs (a0 :: a1 :: a2 :: a3 :: a4 :: some (.null) :: ls) (.null :: st) h) := rfl
theorem ev_istore_5 {d : Nat} {J : Nat → ab_K} {Q : Option Value → ab_H → Prop} {os : List ab_O} {n bc bs : Nat} {st : List Value} {h : ab_H} {ls : List (Option Value)} {a0 a1 a2 a3 a4 : Option Value} {a : Option Value} {len : Nat} {v : Int} {x : Int32} {j : Nat} : ab_wp d J Q (((.istore j), len, [5], v) :: os) n bc bs (a0 :: a1 :: a2 :: a3 :: a4 :: a :: ls) (.int x :: st) h = (ab_wp d J Q os n bc bs (a0 :: a1 :: a2 :: a3 :: a4 :: some (.int x) :: ls) st h) := rfl
theorem ev_astore_5 {d : Nat} {J : Nat → ab_K} {Q : Option Value → ab_H → Prop} {os : List ab_O} {n bc bs : Nat} {st : List Value} {h : ab_H} {ls : List (Option Value)} {a0 a1 a2 a3 a4 : Option Value} {a : Option Value} {len : Nat} {v : Int} {x : Nat} {j : Nat} : ab_wp d J Q (((.astore j), len, [5], v) :: os) n bc bs (a0 :: a1 :: a2 :: a3 :: a4 :: a :: ls) (.ref x :: st) h = (ab_wp d J Q os n bc bs (a0 :: a1 :: a2 :: a3 :: a4 :: some (.ref x) :: ls) st h) := rfl
theorem ev_astore_5N {d : Nat} {J : Nat → ab_K} {Q : Option Value → ab_H → Prop} {os : List ab_O} {n bc bs : Nat} {st : List Value} {h : ab_H} {ls : List (Option Value)} {a0 a1 a2 a3 a4 : Option Value} {a : Option Value} {len : Nat} {v : Int} {j : Nat} : ab_wp d J Q (((.astore j), len, [5], v) :: os) n bc bs (a0 :: a1 :: a2 :: a3 :: a4 :: a :: ls) (.null :: st) h = (ab_wp d J Q os n bc bs (a0 :: a1 :: a2 :: a3 :: a4 :: some (.null) :: ls) st h) := rfl
theorem ev_iinc_5 {d : Nat} {J : Nat → ab_K} {Q : Option Value → ab_H → Prop} {os : List ab_O} {n bc bs : Nat} {st : List Value} {h : ab_H} {ls : List (Option Value)} {a0 a1 a2 a3 a4 : Option Value} {len j : Nat} {c v : Int} {x : Int32} : ab_wp d J Q (((.iinc j c), len, [5], v) :: os) n bc bs (a0 :: a1 :: a2 :: a3 :: a4 :: some (.int x) :: ls) st h = (ab_wp d J Q os n bc bs (a0 :: a1 :: a2 :: a3 :: a4 :: some (.int (x + Int32.ofInt v)) :: ls) st h) := rfl
theorem ev_iload_6 {d : Nat} {J : Nat → ab_K} {Q : Option Value → ab_H → Prop} {os : List ab_O} {n bc bs : Nat} {st : List Value} {h : ab_H} {ls : List (Option Value)} {a0 a1 a2 a3 a4 a5 : Option Value} {len : Nat} {v : Int} {x : Int32} {j : Nat} : ab_wp d J Q (((.iload j), len, [6], v) :: os) n bc bs (a0 :: a1 :: a2 :: a3 :: a4 :: a5 :: some (.int x) :: ls) st h = (ab_wp d J Q os n bc bs (a0 :: a1 :: a2 :: a3 :: a4 :: a5 :: some (.int x) :: ls) (.int x :: st) h) := rfl
theorem ev_aload_6 {d : Nat} {J : Nat → ab_K} {Q : Option Value → ab_H → Prop} {os : List ab_O} {n bc bs : Nat} {st : List Value} {h : ab_H} {ls : List (Option Value)} {a0 a1 a2 a3 a4 a5 : Option Value} {len : Nat} {v : Int} {x : Nat} {j : Nat} : ab_wp d J Q (((.aload j), len, [6], v) :: os) n bc bs (a0 :: a1 :: a2 :: a3 :: a4 :: a5 :: some (.ref x) :: ls) st h = (ab_wp d J Q os n bc bs (a0 :: a1 :: a2 :: a3 :: a4 :: a5 :: some (.ref x) :: ls) (.ref x :: st) h) := rfl
theorem ev_aload_6N {d : Nat} {J : Nat → ab_K} {Q : Option Value → ab_H → Prop} {os : List ab_O} {n bc bs : Nat} {st : List Value} {h : ab_H} {ls : List (Option Value)} {a0 a1 a2 a3 a4 a5 : Option Value} {len : Nat} {v : Int} {j : Nat} : ab_wp d J Q (((.aload j), len, [6], v) :: os) n bc bs (a0 :: a1 :: a2 :: a3 :: a4 :: a5 :: some (.null) :: ls) st h = (ab_wp d J Q os n bc bs (a0 :: a1 :: a2 :: a3 :: a4 :: a5 :: some (.null) :: ls) (.null :: st) h) := rfl
theorem ev_istore_6 {d : Nat} {J : Nat → ab_K} {Q : Option Value → ab_H → Prop} {os : List ab_O} {n bc bs : Nat} {st : List Value} {h : ab_H} {ls : List (Option Value)} {a0 a1 a2 a3 a4 a5 : Option Value} {a : Option Value} {len : Nat} {v : Int} {x : Int32} {j : Nat} : ab_wp d J Q (((.istore j), len, [6], v) :: os) n bc bs (a0 :: a1 :: a2 :: a3 :: a4 :: a5 :: a :: ls) (.int x :: st) h = (ab_wp d J Q os n bc bs (a0 :: a1 :: a2 :: a3 :: a4 :: a5 :: some (.int x) :: ls) st h) := rfl
theorem ev_astore_6 {d : Nat} {J : Nat → ab_K} {Q : Option Value → ab_H → Prop} {os : List ab_O} {n bc bs : Nat} {st : List Value} {h : ab_H} {ls : List (Option Value)} {a0 a1 a2 a3 a4 a5 : Option Value} {a : Option Value} {len : Nat} {v : Int} {x : Nat} {j : Nat} : ab_wp d J Q (((.astore j), len, [6], v) :: os) n bc bs (a0 :: a1 :: a2 :: a3 :: a4 :: a5 :: a :: ls) (.ref x :: st) h = (ab_wp d J Q os n bc bs (a0 :: a1 :: a2 :: a3 :: a4 :: a5 :: some (.ref x) :: ls) st h) := rfl
theorem ev_astore_6N {d : Nat} {J : Nat → ab_K} {Q : Option Value → ab_H → Prop} {os : List ab_O} {n bc bs : Nat} {st : List Value} {h : ab_H} {ls : List (Option Value)} {a0 a1 a2 a3 a4 a5 : Option Value} {a : Option Value} {len : Nat} {v : Int} {j : Nat} : ab_wp d J Q (((.astore j), len, [6], v) :: os) n bc bs (a0 :: a1 :: a2 :: a3 :: a4 :: a5 :: a :: ls) (.null :: st) h = (ab_wp d J Q os n bc bs (a0 :: a1 :: a2 :: a3 :: a4 :: a5 :: some (.null) :: ls) st h) := rfl
theorem ev_iinc_6 {d : Nat} {J : Nat → ab_K} {Q : Option Value → ab_H → Prop} {os : List ab_O} {n bc bs : Nat} {st : List Value} {h : ab_H} {ls : List (Option Value)} {a0 a1 a2 a3 a4 a5 : Option Value} {len j : Nat} {c v : Int} {x : Int32} : ab_wp d J Q (((.iinc j c), len, [6], v) :: os) n bc bs (a0 :: a1 :: a2 :: a3 :: a4 :: a5 :: some (.int x) :: ls) st h = (ab_wp d J Q os n bc bs (a0 :: a1 :: a2 :: a3 :: a4 :: a5 :: some (.int (x + Int32.ofInt v)) :: ls) st h) := rfl
theorem ev_iload_7 {d : Nat} {J : Nat → ab_K} {Q : Option Value → ab_H → Prop} {os : List ab_O} {n bc bs : Nat} {st : List Value} {h : ab_H} {ls : List (Option Value)} {a0 a1 a2 a3 a4 a5 a6 : Option Value} {len : Nat} {v : Int} {x : Int32} {j : Nat} : ab_wp d J Q (((.iload j), len, [7], v) :: os) n bc bs (a0 :: a1 :: a2 :: a3 :: a4 :: a5 :: a6 :: some (.int x) :: ls) st h = (ab_wp d J Q os n bc bs (a0 :: a1 :: a2 :: a3 :: a4 :: a5 :: a6 :: some (.int x) :: ls) (.int x :: st) h) := rfl
theorem ev_aload_7 {d : Nat} {J : Nat → ab_K} {Q : Option Value → ab_H → Prop} {os : List ab_O} {n bc bs : Nat} {st : List Value} {h : ab_H} {ls : List (Option Value)} {a0 a1 a2 a3 a4 a5 a6 : Option Value} {len : Nat} {v : Int} {x : Nat} {j : Nat} : ab_wp d J Q (((.aload j), len, [7], v) :: os) n bc bs (a0 :: a1 :: a2 :: a3 :: a4 :: a5 :: a6 :: some (.ref x) :: ls) st h = (ab_wp d J Q os n bc bs (a0 :: a1 :: a2 :: a3 :: a4 :: a5 :: a6 :: some (.ref x) :: ls) (.ref x :: st) h) := rfl
theorem ev_aload_7N {d : Nat} {J : Nat → ab_K} {Q : Option Value → ab_H → Prop} {os : List ab_O} {n bc bs : Nat} {st : List Value} {h : ab_H} {ls : List (Option Value)} {a0 a1 a2 a3 a4 a5 a6 : Option Value} {len : Nat} {v : Int} {j : Nat} : ab_wp d J Q (((.aload j), len, [7], v) :: os) n bc bs (a0 :: a1 :: a2 :: a3 :: a4 :: a5 :: a6 :: some (.null) :: ls) st h = (ab_wp d J Q os n bc bs (a0 :: a1 :: a2 :: a3 :: a4 :: a5 :: a6 :: some (.null) :: ls) (.null :: st) h) := rfl
theorem ev_istore_7 {d : Nat} {J : Nat → ab_K} {Q : Option Value → ab_H → Prop} {os : List ab_O} {n bc bs : Nat} {st : List Value} {h : ab_H} {ls : List (Option Value)} {a0 a1 a2 a3 a4 a5 a6 : Option Value} {a : Option Value} {len : Nat} {v : Int} {x : Int32} {j : Nat} : ab_wp d J Q (((.istore j), len, [7], v) :: os) n bc bs (a0 :: a1 :: a2 :: a3 :: a4 :: a5 :: a6 :: a :: ls) (.int x :: st) h = (ab_wp d J Q os n bc bs (a0 :: a1 :: a2 :: a3 :: a4 :: a5 :: a6 :: some (.int x) :: ls) st h) := rfl
theorem ev_astore_7 {d : Nat} {J : Nat → ab_K} {Q : Option Value → ab_H → Prop} {os : List ab_O} {n bc bs : Nat} {st : List Value} {h : ab_H} {ls : List (Option Value)} {a0 a1 a2 a3 a4 a5 a6 : Option Value} {a : Option Value} {len : Nat} {v : Int} {x : Nat} {j : Nat} : ab_wp d J Q (((.astore j), len, [7], v) :: os) n bc bs (a0 :: a1 :: a2 :: a3 :: a4 :: a5 :: a6 :: a :: ls) (.ref x :: st) h = (ab_wp d J Q os n bc bs (a0 :: a1 :: a2 :: a3 :: a4 :: a5 :: a6 :: some (.ref x) :: ls) st h) := rfl
theorem ev_astore_7N {d : Nat} {J : Nat → ab_K} {Q : Option Value → ab_H → Prop} {os : List ab_O} {n bc bs : Nat} {st : List Value} {h : ab_H} {ls : List (Option Value)} {a0 a1 a2 a3 a4 a5 a6 : Option Value} {a : Option Value} {len : Nat} {v : Int} {j : Nat} : ab_wp d J Q (((.astore j), len, [7], v) :: os) n bc bs (a0 :: a1 :: a2 :: a3 :: a4 :: a5 :: a6 :: a :: ls) (.null :: st) h = (ab_wp d J Q os n bc bs (a0 :: a1 :: a2 :: a3 :: a4 :: a5 :: a6 :: some (.null) :: ls) st h) := rfl
theorem ev_iinc_7 {d : Nat} {J : Nat → ab_K} {Q : Option Value → ab_H → Prop} {os : List ab_O} {n bc bs : Nat} {st : List Value} {h : ab_H} {ls : List (Option Value)} {a0 a1 a2 a3 a4 a5 a6 : Option Value} {len j : Nat} {c v : Int} {x : Int32} : ab_wp d J Q (((.iinc j c), len, [7], v) :: os) n bc bs (a0 :: a1 :: a2 :: a3 :: a4 :: a5 :: a6 :: some (.int x) :: ls) st h = (ab_wp d J Q os n bc bs (a0 :: a1 :: a2 :: a3 :: a4 :: a5 :: a6 :: some (.int (x + Int32.ofInt v)) :: ls) st h) := rfl
theorem ev_iload_8 {d : Nat} {J : Nat → ab_K} {Q : Option Value → ab_H → Prop} {os : List ab_O} {n bc bs : Nat} {st : List Value} {h : ab_H} {ls : List (Option Value)} {a0 a1 a2 a3 a4 a5 a6 a7 : Option Value} {len : Nat} {v : Int} {x : Int32} {j : Nat} : ab_wp d J Q (((.iload j), len, [8], v) :: os) n bc bs (a0 :: a1 :: a2 :: a3 :: a4 :: a5 :: a6 :: a7 :: some (.int x) :: ls) st h = (ab_wp d J Q os n bc bs (a0 :: a1 :: a2 :: a3 :: a4 :: a5 :: a6 :: a7 :: some (.int x) :: ls) (.int x :: st) h) := rfl
theorem ev_aload_8 {d : Nat} {J : Nat → ab_K} {Q : Option Value → ab_H → Prop} {os : List ab_O} {n bc bs : Nat} {st : List Value} {h : ab_H} {ls : List (Option Value)} {a0 a1 a2 a3 a4 a5 a6 a7 : Option Value} {len : Nat} {v : Int} {x : Nat} {j : Nat} : ab_wp d J Q (((.aload j), len, [8], v) :: os) n bc bs (a0 :: a1 :: a2 :: a3 :: a4 :: a5 :: a6 :: a7 :: some (.ref x) :: ls) st h = (ab_wp d J Q os n bc bs (a0 :: a1 :: a2 :: a3 :: a4 :: a5 :: a6 :: a7 :: some (.ref x) :: ls) (.ref x :: st) h) := rfl
theorem ev_aload_8N {d : Nat} {J : Nat → ab_K} {Q : Option Value → ab_H → Prop} {os : List ab_O} {n bc bs : Nat} {st : List Value} {h : ab_H} {ls : List (Option Value)} {a0 a1 a2 a3 a4 a5 a6 a7 : Option Value} {len : Nat} {v : Int} {j : Nat} : ab_wp d J Q (((.aload j), len, [8], v) :: os) n bc bs (a0 :: a1 :: a2 :: a3 :: a4 :: a5 :: a6 :: a7 :: some (.null) :: ls) st h = (ab_wp d J Q os n bc bs (a0 :: a1 :: a2 :: a3 :: a4 :: a5 :: a6 :: a7 :: some (.null) :: ls) (.null :: st) h) := rfl
theorem ev_istore_8 {d : Nat} {J : Nat → ab_K} {Q : Option Value → ab_H → Prop} {os : List ab_O} {n bc bs : Nat} {st : List Value} {h : ab_H} {ls : List (Option Value)} {a0 a1 a2 a3 a4 a5 a6 a7 : Option Value} {a : Option Value} {len : Nat} {v : Int} {x : Int32} {j : Nat} : ab_wp d J Q (((.istore j), len, [8], v) :: os) n bc bs (a0 :: a1 :: a2 :: a3 :: a4 :: a5 :: a6 :: a7 :: a :: ls) (.int x :: st) h = (ab_wp d J Q os n bc bs (a0 :: a1 :: a2 :: a3 :: a4 :: a5 :: a6 :: a7 :: some (.int x) :: ls) st h) := rfl
theorem ev_astore_8 {d : Nat} {J : Nat → ab_K} {Q : Option Value → ab_H → Prop} {os : List ab_O} {n bc bs : Nat} {st : List Value} {h : ab_H} {ls : List (Option Value)} {a0 a1 a2 a3 a4 a5 a6 a7 : Option Value} {a : Option Value} {len : Nat} {v : Int} {x : Nat} {j : Nat} : ab_wp d J Q (((.astore j), len, [8], v) :: os) n bc bs (a0 :: a1 :: a2 :: a3 :: a4 :: a5 :: a6 :: a7 :: a :: ls) (.ref x :: st) h = (ab_wp d J Q os n bc bs (a0 :: a1 :: a2 :: a3 :: a4 :: a5 :: a6 :: a7 :: some (.ref x) :: ls) st h) := rfl
theorem ev_astore_8N {d : Nat} {J : Nat → ab_K} {Q : Option Value → ab_H → Prop} {os : List ab_O} {n bc bs : Nat} {st : List Value} {h : ab_H} {ls : List (Option Value)} {a0 a1 a2 a3 a4 a5 a6 a7 : Option Value} {a : Option Value} {len : Nat} {v : Int} {j : Nat} : ab_wp d J Q (((.astore j), len, [8], v) :: os) n bc bs (a0 :: a1 :: a2 :: a3 :: a4 :: a5 :: a6 :: a7 :: a :: ls) (.null :: st) h = (ab_wp d J Q os n bc bs (a0 :: a1 :: a2 :: a3 :: a4 :: a5 :: a6 :: a7 :: some (.null) :: ls) st h) := rfl
theorem ev_iinc_8 {d : Nat} {J : Nat → ab_K} {Q : Option Value → ab_H → Prop} {os : List ab_O} {n bc bs : Nat} {st : List Value} {h : ab_H} {ls : List (Option Value)} {a0 a1 a2 a3 a4 a5 a6 a7 : Option Value} {len j : Nat} {c v : Int} {x : Int32} : ab_wp d J Q (((.iinc j c), len, [8], v) :: os) n bc bs (a0 :: a1 :: a2 :: a3 :: a4 :: a5 :: a6 :: a7 :: some (.int x) :: ls) st h = (ab_wp d J Q os n bc bs (a0 :: a1 :: a2 :: a3 :: a4 :: a5 :: a6 :: a7 :: some (.int (x + Int32.ofInt v)) :: ls) st h) := rfl
theorem ev_iload_9 {d : Nat} {J : Nat → ab_K} {Q : Option Value → ab_H → Prop} {os : List ab_O} {n bc bs : Nat} {st : List Value} {h : ab_H} {ls : List (Option Value)} {a0 a1 a2 a3 a4 a5 a6 a7 a8 : Option Value} {len : Nat} {v : Int} {x : Int32} {j : Nat} : ab_wp d J Q (((.iload j), len, [9], v) :: os) n bc bs (a0 :: a1 :: a2 :: a3 :: a4 :: a5 :: a6 :: a7 :: a8 :: some (.int x) :: ls) st h = (ab_wp d J Q os n bc bs (a0 :: a1 :: a2 :: a3 :: a4 :: a5 :: a6 :: a7 :: a8 :: some (.int x) :: ls) (.int x :: st) h) := rfl
theorem ev_aload_9 {d : Nat} {J : Nat → ab_K} {Q : Option Value → ab_H → Prop} {os : List ab_O} {n bc bs : Nat} {st : List Value} {h : ab_H} {ls : List (Option Value)} {a0 a1 a2 a3 a4 a5 a6 a7 a8 : Option Value} {len : Nat} {v : Int} {x : Nat} {j : Nat} : ab_wp d J Q (((.aload j), len, [9], v) :: os) n bc bs (a0 :: a1 :: a2 :: a3 :: a4 :: a5 :: a6 :: a7 :: a8 :: some (.ref x) :: ls) st h = (ab_wp d J Q os n bc bs (a0 :: a1 :: a2 :: a3 :: a4 :: a5 :: a6 :: a7 :: a8 :: some (.ref x) :: ls) (.ref x :: st) h) := rfl
theorem ev_aload_9N {d : Nat} {J : Nat → ab_K} {Q : Option Value → ab_H → Prop} {os : List ab_O} {n bc bs : Nat} {st : List Value} {h : ab_H} {ls : List (Option Value)} {a0 a1 a2 a3 a4 a5 a6 a7 a8 : Option Value} {len : Nat} {v : Int} {j : Nat} : ab_wp d J Q (((.aload j), len, [9], v) :: os) n bc bs (a0 :: a1 :: a2 :: a3 :: a4 :: a5 :: a6 :: a7 :: a8 :: some (.null) :: ls) st h = (ab_wp d J Q os n bc bs (a0 :: a1 :: a2 :: a3 :: a4 :: a5 :: a6 :: a7 :: a8 :: some (.null) :: ls) (.null :: st) h) := rfl
theorem ev_istore_9 {d : Nat} {J : Nat → ab_K} {Q : Option Value → ab_H → Prop} {os : List ab_O} {n bc bs : Nat} {st : List Value} {h : ab_H} {ls : List (Option Value)} {a0 a1 a2 a3 a4 a5 a6 a7 a8 : Option Value} {a : Option Value} {len : Nat} {v : Int} {x : Int32} {j : Nat} : ab_wp d J Q (((.istore j), len, [9], v) :: os) n bc bs (a0 :: a1 :: a2 :: a3 :: a4 :: a5 :: a6 :: a7 :: a8 :: a :: ls) (.int x :: st) h = (ab_wp d J Q os n bc bs (a0 :: a1 :: a2 :: a3 :: a4 :: a5 :: a6 :: a7 :: a8 :: some (.int x) :: ls) st h) := rfl
theorem ev_astore_9 {d : Nat} {J : Nat → ab_K} {Q : Option Value → ab_H → Prop} {os : List ab_O} {n bc bs : Nat} {st : List Value} {h : ab_H} {ls : List (Option Value)} {a0 a1 a2 a3 a4 a5 a6 a7 a8 : Option Value} {a : Option Value} {len : Nat} {v : Int} {x : Nat} {j : Nat} : ab_wp d J Q (((.astore j), len, [9], v) :: os) n bc bs (a0 :: a1 :: a2 :: a3 :: a4 :: a5 :: a6 :: a7 :: a8 :: a :: ls) (.ref x :: st) h = (ab_wp d J Q os n bc bs (a0 :: a1 :: a2 :: a3 :: a4 :: a5 :: a6 :: a7 :: a8 :: some (.ref x) :: ls) st h) := rfl
theorem ev_astore_9N {d : Nat} {J : Nat → ab_K} {Q : Option Value → ab_H → Prop} {os : List ab_O} {n bc bs : Nat} {st : List Value} {h : ab_H} {ls : List (Option Value)} {a0 a1 a2 a3 a4 a5 a6 a7 a8 : Option Value} {a : Option Value} {len : Nat} {v : Int} {j : Nat} : ab_wp d J Q (((.astore j), len, [9], v) :: os) n bc bs (a0 :: a1 :: a2 :: a3 :: a4 :: a5 :: a6 :: a7 :: a8 :: a :: ls) (.null :: st) h = (ab_wp d J Q os n bc bs (a0 :: a1 :: a2 :: a3 :: a4 :: a5 :: a6 :: a7 :: a8 :: some (.null) :: ls) st h) := rfl
theorem ev_iinc_9 {d : Nat} {J : Nat → ab_K} {Q : Option Value → ab_H → Prop} {os : List ab_O} {n bc bs : Nat} {st : List Value} {h : ab_H} {ls : List (Option Value)} {a0 a1 a2 a3 a4 a5 a6 a7 a8 : Option Value} {len j : Nat} {c v : Int} {x : Int32} : ab_wp d J Q (((.iinc j c), len, [9], v) :: os) n bc bs (a0 :: a1 :: a2 :: a3 :: a4 :: a5 :: a6 :: a7 :: a8 :: some (.int x) :: ls) st h = (ab_wp d J Q os n bc bs (a0 :: a1 :: a2 :: a3 :: a4 :: a5 :: a6 :: a7 :: a8 :: some (.int (x + Int32.ofInt v)) :: ls) st h) := rfl
theorem ev_dup_i {d : Nat} {J : Nat → ab_K} {Q : Option Value → ab_H → Prop} {os : List ab_O} {n bc bs : Nat} {st : List Value} {h : ab_H} {ls : List (Option Value)} {len : Nat} {dt : List Nat} {v : Int} {x : Int32} : ab_wp d J Q ((.dup, len, dt, v) :: os) n bc bs ls (.int x :: st) h = (ab_wp d J Q os n bc bs ls (.int x :: .int x :: st) h) := rfl
theorem ev_dup_r {d : Nat} {J : Nat → ab_K} {Q : Option Value → ab_H → Prop} {os : List ab_O} {n bc bs : Nat} {st : List Value} {h : ab_H} {ls : List (Option Value)} {len : Nat} {dt : List Nat} {v : Int} {x : Nat} : ab_wp d J Q ((.dup, len, dt, v) :: os) n bc bs ls (.ref x :: st) h = (ab_wp d J Q os n bc bs ls (.ref x :: .ref x :: st) h) := rfl
theorem ev_dup2 {d : Nat} {J : Nat → ab_K} {Q : Option Value → ab_H → Prop} {os : List ab_O} {n bc bs : Nat} {st : List Value} {h : ab_H} {ls : List (Option Value)} {len : Nat} {dt : List Nat} {v : Int} {x : Int32} {b : Nat} : ab_wp d J Q ((.dup2, len, dt, v) :: os) n bc bs ls (.int x :: .ref b :: st) h = (ab_wp d J Q os n bc bs ls (.int x :: .ref b :: .int x :: .ref b :: st) h) := rfl
theorem ev_icmp_eq {d : Nat} {J : Nat → ab_K} {Q : Option Value → ab_H → Prop} {os : List ab_O} {n bc bs : Nat} {st : List Value} {h : ab_H} {ls : List (Option Value)} {len t : Nat} {off v : Int} {x y : Int32} : ab_wp d J Q (((.if_icmp .eq off), len, [t], v) :: os) n bc bs ls (.int y :: .int x :: st) h = ((x = y → J t n bc bs ls st h) ∧ (¬ x = y → ab_wp d J Q os n bc bs ls st h)) := rfl
theorem ev_if_eq {d : Nat} {J : Nat → ab_K} {Q : Option Value → ab_H → Prop} {os : List ab_O} {n bc bs : Nat} {st : List Value} {h : ab_H} {ls : List (Option Value)} {len t : Nat} {off v : Int} {x : Int32} : ab_wp d J Q (((.ifCond .eq off), len, [t], v) :: os) n bc bs ls (.int x :: st) h = ((x = 0 → J t n bc bs ls st h) ∧ (¬ x = 0 → ab_wp d J Q os n bc bs ls st h)) := rfl
theorem ev_icmp_ne {d : Nat} {J : Nat → ab_K} {Q : Option Value → ab_H → Prop} {os : List ab_O} {n bc bs : Nat} {st : List Value} {h : ab_H} {ls : List (Option Value)} {len t : Nat} {off v : Int} {x y : Int32} : ab_wp d J Q (((.if_icmp .ne off), len, [t], v) :: os) n bc bs ls (.int y :: .int x :: st) h = ((¬ x = y → J t n bc bs ls st h) ∧ (x = y → ab_wp d J Q os n bc bs ls st h)) := rfl
theorem ev_if_ne {d : Nat} {J : Nat → ab_K} {Q : Option Value → ab_H → Prop} {os : List ab_O} {n bc bs : Nat} {st : List Value} {h : ab_H} {ls : List (Option Value)} {len t : Nat} {off v : Int} {x : Int32} : ab_wp d J Q (((.ifCond .ne off), len, [t], v) :: os) n bc bs ls (.int x :: st) h = ((¬ x = 0 → J t n bc bs ls st h) ∧ (x = 0 → ab_wp d J Q os n bc bs ls st h)) := rfl
theorem ev_icmp_lt {d : Nat} {J : Nat → ab_K} {Q : Option Value → ab_H → Prop} {os : List ab_O} {n bc bs : Nat} {st : List Value} {h : ab_H} {ls : List (Option Value)} {len t : Nat} {off v : Int} {x y : Int32} : ab_wp d J Q (((.if_icmp .lt off), len, [t], v) :: os) n bc bs ls (.int y :: .int x :: st) h = ((x < y → J t n bc bs ls st h) ∧ (¬ x < y → ab_wp d J Q os n bc bs ls st h)) := rfl
theorem ev_if_lt {d : Nat} {J : Nat → ab_K} {Q : Option Value → ab_H → Prop} {os : List ab_O} {n bc bs : Nat} {st : List Value} {h : ab_H} {ls : List (Option Value)} {len t : Nat} {off v : Int} {x : Int32} : ab_wp d J Q (((.ifCond .lt off), len, [t], v) :: os) n bc bs ls (.int x :: st) h = ((x < 0 → J t n bc bs ls st h) ∧ (¬ x < 0 → ab_wp d J Q os n bc bs ls st h)) := rfl
theorem ev_icmp_ge {d : Nat} {J : Nat → ab_K} {Q : Option Value → ab_H → Prop} {os : List ab_O} {n bc bs : Nat} {st : List Value} {h : ab_H} {ls : List (Option Value)} {len t : Nat} {off v : Int} {x y : Int32} : ab_wp d J Q (((.if_icmp .ge off), len, [t], v) :: os) n bc bs ls (.int y :: .int x :: st) h = ((y ≤ x → J t n bc bs ls st h) ∧ (¬ y ≤ x → ab_wp d J Q os n bc bs ls st h)) := rfl
theorem ev_if_ge {d : Nat} {J : Nat → ab_K} {Q : Option Value → ab_H → Prop} {os : List ab_O} {n bc bs : Nat} {st : List Value} {h : ab_H} {ls : List (Option Value)} {len t : Nat} {off v : Int} {x : Int32} : ab_wp d J Q (((.ifCond .ge off), len, [t], v) :: os) n bc bs ls (.int x :: st) h = ((0 ≤ x → J t n bc bs ls st h) ∧ (¬ 0 ≤ x → ab_wp d J Q os n bc bs ls st h)) := rfl
theorem ev_icmp_gt {d : Nat} {J : Nat → ab_K} {Q : Option Value → ab_H → Prop} {os : List ab_O} {n bc bs : Nat} {st : List Value} {h : ab_H} {ls : List (Option Value)} {len t : Nat} {off v : Int} {x y : Int32} : ab_wp d J Q (((.if_icmp .gt off), len, [t], v) :: os) n bc bs ls (.int y :: .int x :: st) h = ((y < x → J t n bc bs ls st h) ∧ (¬ y < x → ab_wp d J Q os n bc bs ls st h)) := rfl
theorem ev_if_gt {d : Nat} {J : Nat → ab_K} {Q : Option Value → ab_H → Prop} {os : List ab_O} {n bc bs : Nat} {st : List Value} {h : ab_H} {ls : List (Option Value)} {len t : Nat} {off v : Int} {x : Int32} : ab_wp d J Q (((.ifCond .gt off), len, [t], v) :: os) n bc bs ls (.int x :: st) h = ((0 < x → J t n bc bs ls st h) ∧ (¬ 0 < x → ab_wp d J Q os n bc bs ls st h)) := rfl
theorem ev_icmp_le {d : Nat} {J : Nat → ab_K} {Q : Option Value → ab_H → Prop} {os : List ab_O} {n bc bs : Nat} {st : List Value} {h : ab_H} {ls : List (Option Value)} {len t : Nat} {off v : Int} {x y : Int32} : ab_wp d J Q (((.if_icmp .le off), len, [t], v) :: os) n bc bs ls (.int y :: .int x :: st) h = ((x ≤ y → J t n bc bs ls st h) ∧ (¬ x ≤ y → ab_wp d J Q os n bc bs ls st h)) := rfl
theorem ev_if_le {d : Nat} {J : Nat → ab_K} {Q : Option Value → ab_H → Prop} {os : List ab_O} {n bc bs : Nat} {st : List Value} {h : ab_H} {ls : List (Option Value)} {len t : Nat} {off v : Int} {x : Int32} : ab_wp d J Q (((.ifCond .le off), len, [t], v) :: os) n bc bs ls (.int x :: st) h = ((x ≤ 0 → J t n bc bs ls st h) ∧ (¬ x ≤ 0 → ab_wp d J Q os n bc bs ls st h)) := rfl
theorem ev_goto {d : Nat} {J : Nat → ab_K} {Q : Option Value → ab_H → Prop} {os : List ab_O} {n bc bs : Nat} {st : List Value} {h : ab_H} {ls : List (Option Value)} {len t : Nat} {off v : Int} : ab_wp d J Q (((.goto off), len, [t], v) :: os) n bc bs ls st h = (J t n bc bs ls st h) := rfl
theorem ev_nop {d : Nat} {J : Nat → ab_K} {Q : Option Value → ab_H → Prop} {os : List ab_O} {n bc bs : Nat} {st : List Value} {h : ab_H} {ls : List (Option Value)} {len t : Nat} {v : Int} : ab_wp d J Q ((.nop, len, [t], v) :: os) n bc bs ls st h = (J t n bc bs ls st h) := rfl
theorem ev_ifnull {d : Nat} {J : Nat → ab_K} {Q : Option Value → ab_H → Prop} {os : List ab_O} {n bc bs : Nat} {st : List Value} {h : ab_H} {ls : List (Option Value)} {len t x : Nat} {off v : Int} : ab_wp d J Q (((.ifnull off), len, [t], v) :: os) n bc bs ls (.ref x :: st) h = (ab_wp d J Q os n bc bs ls st h) := rfl
theorem ev_ifnullN {d : Nat} {J : Nat → ab_K} {Q : Option Value → ab_H → Prop} {os : List ab_O} {n bc bs : Nat} {st : List Value} {h : ab_H} {ls : List (Option Value)} {len t : Nat} {off v : Int} : ab_wp d J Q (((.ifnull off), len, [t], v) :: os) n bc bs ls (.null :: st) h = (J t n bc bs ls st h) := rfl
theorem ev_ifnonnull {d : Nat} {J : Nat → ab_K} {Q : Option Value → ab_H → Prop} {os : List ab_O} {n bc bs : Nat} {st : List Value} {h : ab_H} {ls : List (Option Value)} {len t x : Nat} {off v : Int} : ab_wp d J Q (((.ifnonnull off), len, [t], v) :: os) n bc bs ls (.ref x :: st) h = (J t n bc bs ls st h) := rfl
theorem ev_ifnonnullN {d : Nat} {J : Nat → ab_K} {Q : Option Value → ab_H → Prop} {os : List ab_O} {n bc bs : Nat} {st : List Value} {h : ab_H} {ls : List (Option Value)} {len t : Nat} {off v : Int} : ab_wp d J Q (((.ifnonnull off), len, [t], v) :: os) n bc bs ls (.null :: st) h = (ab_wp d J Q os n bc bs ls st h) := rfl
theorem ev_tableswitch {d : Nat} {J : Nat → ab_K} {Q : Option Value → ab_H → Prop} {os : List ab_O} {n bc bs : Nat} {st : List Value} {h : ab_H} {ls : List (Option Value)} {len t : Nat} {ts : List Nat} {df lo hi v : Int} {offs : Array Int} {x : Int32} : ab_wp d J Q (((.tableswitch df lo hi offs), len, (t :: ts), v) :: os) n bc bs ls (.int x :: st) h = ((x.toInt < lo ∨ hi < x.toInt → J t n bc bs ls st h) ∧ ab_sw x (fun t => J t n bc bs ls st h) lo ts) := rfl
theorem ev_lookupswitch {d : Nat} {J : Nat → ab_K} {Q : Option Value → ab_H → Prop} {os : List ab_O} {n bc bs : Nat} {st : List Value} {h : ab_H} {ls : List (Option Value)} {len t : Nat} {ts : List Nat} {df v : Int} {ps : Array (Int × Int)} {x : Int32} : ab_wp d J Q (((.lookupswitch df ps), len, (t :: ts), v) :: os) n bc bs ls (.int x :: st) h = (ab_lk2 x (fun t => J t n bc bs ls st h) t ps.toList ts) := rfl
theorem ev_getfield_0 {d : Nat} {J : Nat → ab_K} {Q : Option Value → ab_H → Prop} {os : List ab_O} {n bc bs : Nat} {st : List Value} {h : ab_H} {ls : List (Option Value)} {len i ci f p ne b : Nat} {v : Int} : ab_wp d J Q (((.getfield i), len, [ci, f, 0, p, ne], v) :: os) n bc bs ls (.ref b :: st) h = (ab_ac n b ci ∧ ab_wp d J Q os n bc bs ls (.int (h.1 b f) :: st) h) := rfl
theorem ev_getfield_2 {d : Nat} {J : Nat → ab_K} {Q : Option Value → ab_H → Prop} {os : List ab_O} {n bc bs : Nat} {st : List Value} {h : ab_H} {ls : List (Option Value)} {len i ci f p ne b : Nat} {v : Int} : ab_wp d J Q (((.getfield i), len, [ci, f, 2, p, ne], v) :: os) n bc bs ls (.ref b :: st) h = (ab_ac n b ci ∧ ab_wp d J Q os n bc bs ls (.int (h.1 b f) :: st) h) := rfl
theorem ev_getfield_1 {d : Nat} {J : Nat → ab_K} {Q : Option Value → ab_H → Prop} {os : List ab_O} {n bc bs : Nat} {st : List Value} {h : ab_H} {ls : List (Option Value)} {len i ci f p ne b : Nat} {v : Int} : ab_wp d J Q (((.getfield i), len, [ci, f, 1, p, ne], v) :: os) n bc bs ls (.ref b :: st) h = (ab_ac n b ci ∧ h.2 b f < 1000 ∧ ab_wp d J Q os n bc bs ls (.ref (h.2 b f) :: st) h) := rfl
theorem ev_putfield_0 {d : Nat} {J : Nat → ab_K} {Q : Option Value → ab_H → Prop} {os : List ab_O} {n bc bs : Nat} {st : List Value} {h : ab_H} {ls : List (Option Value)} {len i ci f p ne fi b : Nat} {v : Int} {x : Int32} : ab_wp d J Q (((.putfield i), len, [ci, f, 0, p, ne, fi], v) :: os) n bc bs ls (.int x :: .ref b :: st) h = (ab_ac n b ci ∧ ab_wp d J Q os n bc bs ls st (ab_hi h b f x)) := rfl
theorem ev_putfield_2 {d : Nat} {J : Nat → ab_K} {Q : Option Value → ab_H → Prop} {os : List ab_O} {n bc bs : Nat} {st : List Value} {h : ab_H} {ls : List (Option Value)} {len i ci f p ne fi b : Nat} {v : Int} {x : Int32} : ab_wp d J Q (((.putfield i), len, [ci, f, 2, p, ne, fi], v) :: os) n bc bs ls (.int x :: .ref b :: st) h = (ab_ac n b ci ∧ (x = 0 ∨ x = 1) ∧ ab_wp d J Q os n bc bs ls st (ab_hi h b f x)) := rfl
theorem ev_putfield_1 {d : Nat} {J : Nat → ab_K} {Q : Option Value → ab_H → Prop} {os : List ab_O} {n bc bs : Nat} {st : List Value} {h : ab_H} {ls : List (Option Value)} {len i ci f p ne fi a b : Nat} {v : Int} : ab_wp d J Q (((.putfield i), len, [ci, f, 1, p, ne, fi], v) :: os) n bc bs ls (.ref a :: .ref b :: st) h = (ab_ac n b ci ∧ a < 1000 ∧ ab_wp d J Q os n bc bs ls st (ab_hr h b f a)) := rfl
theorem ev_arraylength {d : Nat} {J : Nat → ab_K} {Q : Option Value → ab_H → Prop} {os : List ab_O} {n bc bs : Nat} {st : List Value} {h : ab_H} {ls : List (Option Value)} {len : Nat} {dt : List Nat} {v : Int} {b : Nat} : ab_wp d J Q ((.arraylength, len, dt, v) :: os) n bc bs ls (.ref b :: st) h = (ab_ar n b ∧ ab_wp d J Q os n bc bs ls (.int (Int32.ofInt ((ab_sh b - 100 : Nat) : Int)) :: st) h) := rfl
theorem ev_iaload {d : Nat} {J : Nat → ab_K} {Q : Option Value → ab_H → Prop} {os : List ab_O} {n bc bs : Nat} {st : List Value} {h : ab_H} {ls : List (Option Value)} {len : Nat} {dt : List Nat} {v : Int} {b : Nat} {i : Int32} : ab_wp d J Q ((.iaload, len, dt, v) :: os) n bc bs ls (.int i :: .ref b :: st) h = (ab_ar n b ∧ vp_in i (ab_sh b - 100) ∧ ab_wp d J Q os n bc bs ls (.int (h.1 b i.toNatClampNeg) :: st) h) := rfl
theorem ev_iastore {d : Nat} {J : Nat → ab_K} {Q : Option Value → ab_H → Prop} {os : List ab_O} {n bc bs : Nat} {st : List Value} {h : ab_H} {ls : List (Option Value)} {len : Nat} {dt : List Nat} {v : Int} {b : Nat} {i x : Int32} : ab_wp d J Q ((.iastore, len, dt, v) :: os) n bc bs ls (.int x :: .int i :: .ref b :: st) h = (ab_ar n b ∧ vp_in i (ab_sh b - 100) ∧ ab_wp d J Q os n bc bs ls st (ab_hi h b i.toNatClampNeg x)) := rfl
theorem ev_new {d : Nat} {J : Nat → ab_K} {Q : Option Value → ab_H → Prop} {os : List ab_O} {n bc bs : Nat} {st : List Value} {h : ab_H} {ls : List (Option Value)} {len : Nat} {dt : List Nat} {v : Int} {i ci : Nat} : ab_wp d J Q (((.new i), len, (ci :: dt), v) :: os) n bc bs ls st h = (ab_sh n = ci ∧ 1 ≤ bc ∧ ab_nf ci ≤ bs ∧ ab_wp d J Q os (n + 1) (bc - 1) (bs - ab_nf ci) ls (.ref n :: st) (ab_hn h n)) := rfl
theorem ev_newarray {d : Nat} {J : Nat → ab_K} {Q : Option Value → ab_H → Prop} {os : List ab_O} {n bc bs : Nat} {st : List Value} {h : ab_H} {ls : List (Option Value)} {len : Nat} {dt : List Nat} {v : Int} {t : ArrayType} {x : Int32} : ab_wp d J Q (((.newarray t), len, dt, v) :: os) n bc bs ls (.int x :: st) h = (¬ x < 0 ∧ x.toNatClampNeg ≤ 1000 ∧ ab_sh n = 100 + x.toNatClampNeg ∧ 1 ≤ bc ∧ x.toNatClampNeg ≤ bs ∧ ab_wp d J Q os (n + 1) (bc - 1) (bs - x.toNatClampNeg) ls (.ref n :: st) (ab_hn h n)) := rfl
theorem ev_callv_1 {d : Nat} {J : Nat → ab_K} {Q : Option Value → ab_H → Prop} {os : List ab_O} {n bc bs : Nat} {st : List Value} {h : ab_H} {ls : List (Option Value)} {len i y ne p1 p2 p3 p4 ci b : Nat} {v : Int} : ab_wp d J Q (((.invokevirtual i), len, [y, 1, 0, ne, p1, p2, p3, p4, ci], v) :: os) n bc bs ls (.ref b :: st) h = (1 ≤ d ∧ ab_st1 st = true ∧ ab_ac n b ci ∧ ab_C (d - 1) y n [.ref b] h (fun rv h' => ab_wp d J Q os n bc bs ls (rv.toList ++ st) h')) := rfl
theorem ev_calls_0 {d : Nat} {J : Nat → ab_K} {Q : Option Value → ab_H → Prop} {os : List ab_O} {n bc bs : Nat} {st : List Value} {h : ab_H} {ls : List (Option Value)} {len i y ne p1 p2 p3 p4 : Nat} {v : Int} : ab_wp d J Q (((.invokestatic i), len, [y, 0, 1, ne, p1, p2, p3, p4], v) :: os) n bc bs ls (st) h = (1 ≤ d ∧ ab_st1 st = true ∧ ab_C (d - 1) y n [] h (fun rv h' => ab_wp d J Q os n bc bs ls (rv.toList ++ st) h')) := rfl
theorem ev_calli_1 {d : Nat} {J : Nat → ab_K} {Q : Option Value → ab_H → Prop} {os : List ab_O} {n bc bs : Nat} {st : List Value} {h : ab_H} {ls : List (Option Value)} {len i y ne p1 p2 p3 p4 b : Nat} {v : Int} : ab_wp d J Q (((.invokespecial i), len, [y, 1, 2, ne, p1, p2, p3, p4], v) :: os) n bc bs ls (.ref b :: st) h = (1 ≤ d ∧ ab_st1 st = true ∧ True ∧ ab_mc y ≤ bc ∧ ab_ms y ≤ bs ∧ ab_C (d - 1) y n [.ref b] h (fun rv h' => ab_wp d J Q os (n + ab_mc y) (bc - ab_mc y) (bs - ab_ms y) ls (rv.toList ++ st) h')) := rfl
theorem ev_callv_2 {d : Nat} {J : Nat → ab_K} {Q : Option Value → ab_H → Prop} {os : List ab_O} {n bc bs : Nat} {st : List Value} {h : ab_H} {ls : List (Option Value)} {w0 : Value} {len i y ne p1 p2 p3 p4 ci b : Nat} {v : Int} : ab_wp d J Q (((.invokevirtual i), len, [y, 2, 0, ne, p1, p2, p3, p4, ci], v) :: os) n bc bs ls (w0 :: .ref b :: st) h = (1 ≤ d ∧ ab_st1 st = true ∧ ab_ac n b ci ∧ ab_C (d - 1) y n [.ref b, w0] h (fun rv h' => ab_wp d J Q os n bc bs ls (rv.toList ++ st) h')) := rfl
theorem ev_calls_1 {d : Nat} {J : Nat → ab_K} {Q : Option Value → ab_H → Prop} {os : List ab_O} {n bc bs : Nat} {st : List Value} {h : ab_H} {ls : List (Option Value)} {w0 : Value} {len i y ne p1 p2 p3 p4 : Nat} {v : Int} : ab_wp d J Q (((.invokestatic i), len, [y, 1, 1, ne, p1, p2, p3, p4], v) :: os) n bc bs ls (w0 :: st) h = (1 ≤ d ∧ ab_st1 st = true ∧ ab_C (d - 1) y n [w0] h (fun rv h' => ab_wp d J Q os n bc bs ls (rv.toList ++ st) h')) := rfl
theorem ev_calli_2 {d : Nat} {J : Nat → ab_K} {Q : Option Value → ab_H → Prop} {os : List ab_O} {n bc bs : Nat} {st : List Value} {h : ab_H} {ls : List (Option Value)} {w0 : Value} {len i y ne p1 p2 p3 p4 b : Nat} {v : Int} : ab_wp d J Q (((.invokespecial i), len, [y, 2, 2, ne, p1, p2, p3, p4], v) :: os) n bc bs ls (w0 :: .ref b :: st) h = (1 ≤ d ∧ ab_st1 st = true ∧ True ∧ ab_mc y ≤ bc ∧ ab_ms y ≤ bs ∧ ab_C (d - 1) y n [.ref b, w0] h (fun rv h' => ab_wp d J Q os (n + ab_mc y) (bc - ab_mc y) (bs - ab_ms y) ls (rv.toList ++ st) h')) := rfl
theorem ev_callv_3 {d : Nat} {J : Nat → ab_K} {Q : Option Value → ab_H → Prop} {os : List ab_O} {n bc bs : Nat} {st : List Value} {h : ab_H} {ls : List (Option Value)} {w0 w1 : Value} {len i y ne p1 p2 p3 p4 ci b : Nat} {v : Int} : ab_wp d J Q (((.invokevirtual i), len, [y, 3, 0, ne, p1, p2, p3, p4, ci], v) :: os) n bc bs ls (w1 :: w0 :: .ref b :: st) h = (1 ≤ d ∧ ab_st1 st = true ∧ ab_ac n b ci ∧ ab_C (d - 1) y n [.ref b, w0, w1] h (fun rv h' => ab_wp d J Q os n bc bs ls (rv.toList ++ st) h')) := rfl
theorem ev_calls_2 {d : Nat} {J : Nat → ab_K} {Q : Option Value → ab_H → Prop} {os : List ab_O} {n bc bs : Nat} {st : List Value} {h : ab_H} {ls : List (Option Value)} {w0 w1 : Value} {len i y ne p1 p2 p3 p4 : Nat} {v : Int} : ab_wp d J Q (((.invokestatic i), len, [y, 2, 1, ne, p1, p2, p3, p4], v) :: os) n bc bs ls (w1 :: w0 :: st) h = (1 ≤ d ∧ ab_st1 st = true ∧ ab_C (d - 1) y n [w0, w1] h (fun rv h' => ab_wp d J Q os n bc bs ls (rv.toList ++ st) h')) := rfl
theorem ev_calli_3 {d : Nat} {J : Nat → ab_K} {Q : Option Value → ab_H → Prop} {os : List ab_O} {n bc bs : Nat} {st : List Value} {h : ab_H} {ls : List (Option Value)} {w0 w1 : Value} {len i y ne p1 p2 p3 p4 b : Nat} {v : Int} : ab_wp d J Q (((.invokespecial i), len, [y, 3, 2, ne, p1, p2, p3, p4], v) :: os) n bc bs ls (w1 :: w0 :: .ref b :: st) h = (1 ≤ d ∧ ab_st1 st = true ∧ True ∧ ab_mc y ≤ bc ∧ ab_ms y ≤ bs ∧ ab_C (d - 1) y n [.ref b, w0, w1] h (fun rv h' => ab_wp d J Q os (n + ab_mc y) (bc - ab_mc y) (bs - ab_ms y) ls (rv.toList ++ st) h')) := rfl
theorem ev_callv_4 {d : Nat} {J : Nat → ab_K} {Q : Option Value → ab_H → Prop} {os : List ab_O} {n bc bs : Nat} {st : List Value} {h : ab_H} {ls : List (Option Value)} {w0 w1 w2 : Value} {len i y ne p1 p2 p3 p4 ci b : Nat} {v : Int} : ab_wp d J Q (((.invokevirtual i), len, [y, 4, 0, ne, p1, p2, p3, p4, ci], v) :: os) n bc bs ls (w2 :: w1 :: w0 :: .ref b :: st) h = (1 ≤ d ∧ ab_st1 st = true ∧ ab_ac n b ci ∧ ab_C (d - 1) y n [.ref b, w0, w1, w2] h (fun rv h' => ab_wp d J Q os n bc bs ls (rv.toList ++ st) h')) := rfl
theorem ev_calls_3 {d : Nat} {J : Nat → ab_K} {Q : Option Value → ab_H → Prop} {os : List ab_O} {n bc bs : Nat} {st : List Value} {h : ab_H} {ls : List (Option Value)} {w0 w1 w2 : Value} {len i y ne p1 p2 p3 p4 : Nat} {v : Int} : ab_wp d J Q (((.invokestatic i), len, [y, 3, 1, ne, p1, p2, p3, p4], v) :: os) n bc bs ls (w2 :: w1 :: w0 :: st) h = (1 ≤ d ∧ ab_st1 st = true ∧ ab_C (d - 1) y n [w0, w1, w2] h (fun rv h' => ab_wp d J Q os n bc bs ls (rv.toList ++ st) h')) := rfl
theorem ev_calli_4 {d : Nat} {J : Nat → ab_K} {Q : Option Value → ab_H → Prop} {os : List ab_O} {n bc bs : Nat} {st : List Value} {h : ab_H} {ls : List (Option Value)} {w0 w1 w2 : Value} {len i y ne p1 p2 p3 p4 b : Nat} {v : Int} : ab_wp d J Q (((.invokespecial i), len, [y, 4, 2, ne, p1, p2, p3, p4], v) :: os) n bc bs ls (w2 :: w1 :: w0 :: .ref b :: st) h = (1 ≤ d ∧ ab_st1 st = true ∧ True ∧ ab_mc y ≤ bc ∧ ab_ms y ≤ bs ∧ ab_C (d - 1) y n [.ref b, w0, w1, w2] h (fun rv h' => ab_wp d J Q os (n + ab_mc y) (bc - ab_mc y) (bs - ab_ms y) ls (rv.toList ++ st) h')) := rfl
theorem ev_callv_5 {d : Nat} {J : Nat → ab_K} {Q : Option Value → ab_H → Prop} {os : List ab_O} {n bc bs : Nat} {st : List Value} {h : ab_H} {ls : List (Option Value)} {w0 w1 w2 w3 : Value} {len i y ne p1 p2 p3 p4 ci b : Nat} {v : Int} : ab_wp d J Q (((.invokevirtual i), len, [y, 5, 0, ne, p1, p2, p3, p4, ci], v) :: os) n bc bs ls (w3 :: w2 :: w1 :: w0 :: .ref b :: st) h = (1 ≤ d ∧ ab_st1 st = true ∧ ab_ac n b ci ∧ ab_C (d - 1) y n [.ref b, w0, w1, w2, w3] h (fun rv h' => ab_wp d J Q os n bc bs ls (rv.toList ++ st) h')) := rfl
theorem ev_calls_4 {d : Nat} {J : Nat → ab_K} {Q : Option Value → ab_H → Prop} {os : List ab_O} {n bc bs : Nat} {st : List Value} {h : ab_H} {ls : List (Option Value)} {w0 w1 w2 w3 : Value} {len i y ne p1 p2 p3 p4 : Nat} {v : Int} : ab_wp d J Q (((.invokestatic i), len, [y, 4, 1, ne, p1, p2, p3, p4], v) :: os) n bc bs ls (w3 :: w2 :: w1 :: w0 :: st) h = (1 ≤ d ∧ ab_st1 st = true ∧ ab_C (d - 1) y n [w0, w1, w2, w3] h (fun rv h' => ab_wp d J Q os n bc bs ls (rv.toList ++ st) h')) := rfl
theorem ev_calli_5 {d : Nat} {J : Nat → ab_K} {Q : Option Value → ab_H → Prop} {os : List ab_O} {n bc bs : Nat} {st : List Value} {h : ab_H} {ls : List (Option Value)} {w0 w1 w2 w3 : Value} {len i y ne p1 p2 p3 p4 b : Nat} {v : Int} : ab_wp d J Q (((.invokespecial i), len, [y, 5, 2, ne, p1, p2, p3, p4], v) :: os) n bc bs ls (w3 :: w2 :: w1 :: w0 :: .ref b :: st) h = (1 ≤ d ∧ ab_st1 st = true ∧ True ∧ ab_mc y ≤ bc ∧ ab_ms y ≤ bs ∧ ab_C (d - 1) y n [.ref b, w0, w1, w2, w3] h (fun rv h' => ab_wp d J Q os (n + ab_mc y) (bc - ab_mc y) (bs - ab_ms y) ls (rv.toList ++ st) h')) := rfl
theorem ev_callv_6 {d : Nat} {J : Nat → ab_K} {Q : Option Value → ab_H → Prop} {os : List ab_O} {n bc bs : Nat} {st : List Value} {h : ab_H} {ls : List (Option Value)} {w0 w1 w2 w3 w4 : Value} {len i y ne p1 p2 p3 p4 ci b : Nat} {v : Int} : ab_wp d J Q (((.invokevirtual i), len, [y, 6, 0, ne, p1, p2, p3, p4, ci], v) :: os) n bc bs ls (w4 :: w3 :: w2 :: w1 :: w0 :: .ref b :: st) h = (1 ≤ d ∧ ab_st1 st = true ∧ ab_ac n b ci ∧ ab_C (d - 1) y n [.ref b, w0, w1, w2, w3, w4] h (fun rv h' => ab_wp d J Q os n bc bs ls (rv.toList ++ st) h')) := rfl
theorem ev_calls_5 {d : Nat} {J : Nat → ab_K} {Q : Option Value → ab_H → Prop} {os : List ab_O} {n bc bs : Nat} {st : List Value} {h : ab_H} {ls : List (Option Value)} {w0 w1 w2 w3 w4 : Value} {len i y ne p1 p2 p3 p4 : Nat} {v : Int} : ab_wp d J Q (((.invokestatic i), len, [y, 5, 1, ne, p1, p2, p3, p4], v) :: os) n bc bs ls (w4 :: w3 :: w2 :: w1 :: w0 :: st) h = (1 ≤ d ∧ ab_st1 st = true ∧ ab_C (d - 1) y n [w0, w1, w2, w3, w4] h (fun rv h' => ab_wp d J Q os n bc bs ls (rv.toList ++ st) h')) := rfl
theorem ev_calli_6 {d : Nat} {J : Nat → ab_K} {Q : Option Value → ab_H → Prop} {os : List ab_O} {n bc bs : Nat} {st : List Value} {h : ab_H} {ls : List (Option Value)} {w0 w1 w2 w3 w4 : Value} {len i y ne p1 p2 p3 p4 b : Nat} {v : Int} : ab_wp d J Q (((.invokespecial i), len, [y, 6, 2, ne, p1, p2, p3, p4], v) :: os) n bc bs ls (w4 :: w3 :: w2 :: w1 :: w0 :: .ref b :: st) h = (1 ≤ d ∧ ab_st1 st = true ∧ True ∧ ab_mc y ≤ bc ∧ ab_ms y ≤ bs ∧ ab_C (d - 1) y n [.ref b, w0, w1, w2, w3, w4] h (fun rv h' => ab_wp d J Q os (n + ab_mc y) (bc - ab_mc y) (bs - ab_ms y) ls (rv.toList ++ st) h')) := rfl
theorem ev_callv_7 {d : Nat} {J : Nat → ab_K} {Q : Option Value → ab_H → Prop} {os : List ab_O} {n bc bs : Nat} {st : List Value} {h : ab_H} {ls : List (Option Value)} {w0 w1 w2 w3 w4 w5 : Value} {len i y ne p1 p2 p3 p4 ci b : Nat} {v : Int} : ab_wp d J Q (((.invokevirtual i), len, [y, 7, 0, ne, p1, p2, p3, p4, ci], v) :: os) n bc bs ls (w5 :: w4 :: w3 :: w2 :: w1 :: w0 :: .ref b :: st) h = (1 ≤ d ∧ ab_st1 st = true ∧ ab_ac n b ci ∧ ab_C (d - 1) y n [.ref b, w0, w1, w2, w3, w4, w5] h (fun rv h' => ab_wp d J Q os n bc bs ls (rv.toList ++ st) h')) := rfl
theorem ev_calls_6 {d : Nat} {J : Nat → ab_K} {Q : Option Value → ab_H → Prop} {os : List ab_O} {n bc bs : Nat} {st : List Value} {h : ab_H} {ls : List (Option Value)} {w0 w1 w2 w3 w4 w5 : Value} {len i y ne p1 p2 p3 p4 : Nat} {v : Int} : ab_wp d J Q (((.invokestatic i), len, [y, 6, 1, ne, p1, p2, p3, p4], v) :: os) n bc bs ls (w5 :: w4 :: w3 :: w2 :: w1 :: w0 :: st) h = (1 ≤ d ∧ ab_st1 st = true ∧ ab_C (d - 1) y n [w0, w1, w2, w3, w4, w5] h (fun rv h' => ab_wp d J Q os n bc bs ls (rv.toList ++ st) h')) := rfl
theorem ev_calli_7 {d : Nat} {J : Nat → ab_K} {Q : Option Value → ab_H → Prop} {os : List ab_O} {n bc bs : Nat} {st : List Value} {h : ab_H} {ls : List (Option Value)} {w0 w1 w2 w3 w4 w5 : Value} {len i y ne p1 p2 p3 p4 b : Nat} {v : Int} : ab_wp d J Q (((.invokespecial i), len, [y, 7, 2, ne, p1, p2, p3, p4], v) :: os) n bc bs ls (w5 :: w4 :: w3 :: w2 :: w1 :: w0 :: .ref b :: st) h = (1 ≤ d ∧ ab_st1 st = true ∧ True ∧ ab_mc y ≤ bc ∧ ab_ms y ≤ bs ∧ ab_C (d - 1) y n [.ref b, w0, w1, w2, w3, w4, w5] h (fun rv h' => ab_wp d J Q os (n + ab_mc y) (bc - ab_mc y) (bs - ab_ms y) ls (rv.toList ++ st) h')) := rfl
theorem ev_callv_8 {d : Nat} {J : Nat → ab_K} {Q : Option Value → ab_H → Prop} {os : List ab_O} {n bc bs : Nat} {st : List Value} {h : ab_H} {ls : List (Option Value)} {w0 w1 w2 w3 w4 w5 w6 : Value} {len i y ne p1 p2 p3 p4 ci b : Nat} {v : Int} : ab_wp d J Q (((.invokevirtual i), len, [y, 8, 0, ne, p1, p2, p3, p4, ci], v) :: os) n bc bs ls (w6 :: w5 :: w4 :: w3 :: w2 :: w1 :: w0 :: .ref b :: st) h = (1 ≤ d ∧ ab_st1 st = true ∧ ab_ac n b ci ∧ ab_C (d - 1) y n [.ref b, w0, w1, w2, w3, w4, w5, w6] h (fun rv h' => ab_wp d J Q os n bc bs ls (rv.toList ++ st) h')) := rfl
theorem ev_calls_7 {d : Nat} {J : Nat → ab_K} {Q : Option Value → ab_H → Prop} {os : List ab_O} {n bc bs : Nat} {st : List Value} {h : ab_H} {ls : List (Option Value)} {w0 w1 w2 w3 w4 w5 w6 : Value} {len i y ne p1 p2 p3 p4 : Nat} {v : Int} : ab_wp d J Q (((.invokestatic i), len, [y, 7, 1, ne, p1, p2, p3, p4], v) :: os) n bc bs ls (w6 :: w5 :: w4 :: w3 :: w2 :: w1 :: w0 :: st) h = (1 ≤ d ∧ ab_st1 st = true ∧ ab_C (d - 1) y n [w0, w1, w2, w3, w4, w5, w6] h (fun rv h' => ab_wp d J Q os n bc bs ls (rv.toList ++ st) h')) := rfl
theorem ev_calli_8 {d : Nat} {J : Nat → ab_K} {Q : Option Value → ab_H → Prop} {os : List ab_O} {n bc bs : Nat} {st : List Value} {h : ab_H} {ls : List (Option Value)} {w0 w1 w2 w3 w4 w5 w6 : Value} {len i y ne p1 p2 p3 p4 b : Nat} {v : Int} : ab_wp d J Q (((.invokespecial i), len, [y, 8, 2, ne, p1, p2, p3, p4], v) :: os) n bc bs ls (w6 :: w5 :: w4 :: w3 :: w2 :: w1 :: w0 :: .ref b :: st) h = (1 ≤ d ∧ ab_st1 st = true ∧ True ∧ ab_mc y ≤ bc ∧ ab_ms y ≤ bs ∧ ab_C (d - 1) y n [.ref b, w0, w1, w2, w3, w4, w5, w6] h (fun rv h' => ab_wp d J Q os (n + ab_mc y) (bc - ab_mc y) (bs - ab_ms y) ls (rv.toList ++ st) h')) := rfl
theorem ev_objinit {d : Nat} {J : Nat → ab_K} {Q : Option Value → ab_H → Prop} {os : List ab_O} {n bc bs : Nat} {st : List Value} {h : ab_H} {ls : List (Option Value)} {len : Nat} {dt : List Nat} {v : Int} {i b : Nat} : ab_wp d J Q (((.invokespecial i), len, (999 :: 1 :: 3 :: dt), v) :: os) n bc bs ls (.ref b :: st) h = (1 ≤ d ∧ ab_st1 st = true ∧ ab_wp d J Q os n bc bs ls st h) := rfl
theorem ev_raw {d : Nat} {J : Nat → ab_K} {Q : Option Value → ab_H → Prop} {os : List ab_O} {n bc bs : Nat} {st : List Value} {h : ab_H} {ls : List (Option Value)} {len : Nat} {dt : List Nat} {v : Int} {i : Nat} {x : UInt32} : ab_wp d J Q (((.invokestatic i), len, (998 :: 1 :: 4 :: dt), v) :: os) n bc bs ls (.float x :: st) h = (1 ≤ d ∧ ab_st1 st = true ∧ ab_wp d J Q os n bc bs ls (.int x.toInt32 :: st) h) := rfl
theorem ev_mmax {d : Nat} {J : Nat → ab_K} {Q : Option Value → ab_H → Prop} {os : List ab_O} {n bc bs : Nat} {st : List Value} {h : ab_H} {ls : List (Option Value)} {len : Nat} {dt : List Nat} {v : Int} {i : Nat} {x y : Int32} : ab_wp d J Q (((.invokestatic i), len, (997 :: 2 :: 5 :: dt), v) :: os) n bc bs ls (.int y :: .int x :: st) h = (1 ≤ d ∧ ab_st1 st = true ∧ ab_wp d J Q os n bc bs ls (.int (if x < y then y else x) :: st) h) := rfl
theorem ev_mmin {d : Nat} {J : Nat → ab_K} {Q : Option Value → ab_H → Prop} {os : List ab_O} {n bc bs : Nat} {st : List Value} {h : ab_H} {ls : List (Option Value)} {len : Nat} {dt : List Nat} {v : Int} {i : Nat} {x y : Int32} : ab_wp d J Q (((.invokestatic i), len, (997 :: 2 :: 6 :: dt), v) :: os) n bc bs ls (.int y :: .int x :: st) h = (1 ≤ d ∧ ab_st1 st = true ∧ ab_wp d J Q os n bc bs ls (.int (if y < x then y else x) :: st) h) := rfl
theorem ev_ireturn_0 {d : Nat} {J : Nat → ab_K} {Q : Option Value → ab_H → Prop} {os : List ab_O} {n bc bs : Nat} {h : ab_H} {ls : List (Option Value)} {len : Nat} {v : Int} {x : Int32} : ab_wp d J Q ((.ireturn, len, [0], v) :: os) n bc bs ls [.int x] h = (bc = 0 ∧ Q (some (.int x)) h) := rfl
theorem ev_ireturn_1 {d : Nat} {J : Nat → ab_K} {Q : Option Value → ab_H → Prop} {os : List ab_O} {n bc bs : Nat} {h : ab_H} {ls : List (Option Value)} {len : Nat} {v : Int} {x : Int32} : ab_wp d J Q ((.ireturn, len, [1], v) :: os) n bc bs ls [.int x] h = (bc = 0 ∧ (x = 0 ∨ x = 1) ∧ Q (some (.int x)) h) := rfl
theorem ev_areturn {d : Nat} {J : Nat → ab_K} {Q : Option Value → ab_H → Prop} {os : List ab_O} {n bc bs : Nat} {h : ab_H} {ls : List (Option Value)} {len : Nat} {dt : List Nat} {v : Int} {x : Nat} : ab_wp d J Q ((.areturn, len, dt, v) :: os) n bc bs ls [.ref x] h = (bc = 0 ∧ Q (some (.ref x)) h) := rfl
theorem ev_areturnN {d : Nat} {J : Nat → ab_K} {Q : Option Value → ab_H → Prop} {os : List ab_O} {n bc bs : Nat} {h : ab_H} {ls : List (Option Value)} {len : Nat} {dt : List Nat} {v : Int} : ab_wp d J Q ((.areturn, len, dt, v) :: os) n bc bs ls [.null] h = (bc = 0 ∧ Q (some .null) h) := rfl
theorem ev_return_ {d : Nat} {J : Nat → ab_K} {Q : Option Value → ab_H → Prop} {os : List ab_O} {n bc bs : Nat} {h : ab_H} {ls : List (Option Value)} {len : Nat} {dt : List Nat} {v : Int} : ab_wp d J Q ((.return_, len, dt, v) :: os) n bc bs ls [] h = (bc = 0 ∧ Q none h) := rfl
theorem bq_Integer_bitCount_0 : ab_bl bt_Integer_bitCount 0 = bk_Integer_bitCount_0 := rfl
theorem bq_Names_init_0 : ab_bl bt_Names_init 0 = bk_Names_init_0 := rfl
theorem bq_Names_has_0 : ab_bl bt_Names_has 0 = bk_Names_has_0 := rfl
theorem bq_Names_has_16 : ab_bl bt_Names_has 16 = bk_Names_has_16 := rfl
theorem bq_Names_has_17 : ab_bl bt_Names_has 17 = bk_Names_has_17 := rfl
theorem bq_Names_fameOf_0 : ab_bl bt_Names_fameOf 0 = bk_Names_fameOf_0 := rfl
theorem bq_Names_fameOf_22 : ab_bl bt_Names_fameOf 22 = bk_Names_fameOf_22 := rfl
theorem bq_Names_fameOf_23 : ab_bl bt_Names_fameOf 23 = bk_Names_fameOf_23 := rfl
theorem bq_Names_themeOf_0 : ab_bl bt_Names_themeOf 0 = bk_Names_themeOf_0 := rfl
theorem bq_Names_themeOf_22 : ab_bl bt_Names_themeOf 22 = bk_Names_themeOf_22 := rfl
theorem bq_Names_themeOf_23 : ab_bl bt_Names_themeOf 23 = bk_Names_themeOf_23 := rfl
theorem bq_Names_setOf_0 : ab_bl bt_Names_setOf 0 = bk_Names_setOf_0 := rfl
theorem bq_Names_setOf_4 : ab_bl bt_Names_setOf 4 = bk_Names_setOf_4 := rfl
theorem bq_Names_setOf_37 : ab_bl bt_Names_setOf 37 = bk_Names_setOf_37 := rfl
theorem bq_Names_setOf_43 : ab_bl bt_Names_setOf 43 = bk_Names_setOf_43 := rfl
theorem bq_Names_add_0 : ab_bl bt_Names_add 0 = bk_Names_add_0 := rfl
theorem bq_Names_add_61 : ab_bl bt_Names_add 61 = bk_Names_add_61 := rfl
theorem bq_Names_copyFrom_0 : ab_bl bt_Names_copyFrom 0 = bk_Names_copyFrom_0 := rfl
theorem bq_Names_copyFrom_7 : ab_bl bt_Names_copyFrom 7 = bk_Names_copyFrom_7 := rfl
theorem bq_Names_copyFrom_35 : ab_bl bt_Names_copyFrom 35 = bk_Names_copyFrom_35 := rfl
theorem bq_Book_init_0 : ab_bl bt_Book_init 0 = bk_Book_init_0 := rfl
theorem bq_Book_numberAt_0 : ab_bl bt_Book_numberAt 0 = bk_Book_numberAt_0 := rfl
theorem bq_Book_numberAt_22 : ab_bl bt_Book_numberAt 22 = bk_Book_numberAt_22 := rfl
theorem bq_Book_numberAt_23 : ab_bl bt_Book_numberAt 23 = bk_Book_numberAt_23 := rfl
theorem bq_Book_kindOf_0 : ab_bl bt_Book_kindOf 0 = bk_Book_kindOf_0 := rfl
theorem bq_Book_kindOf_22 : ab_bl bt_Book_kindOf 22 = bk_Book_kindOf_22 := rfl
theorem bq_Book_kindOf_23 : ab_bl bt_Book_kindOf 23 = bk_Book_kindOf_23 := rfl
theorem bq_Book_nameOn_0 : ab_bl bt_Book_nameOn 0 = bk_Book_nameOn_0 := rfl
theorem bq_Book_nameOn_22 : ab_bl bt_Book_nameOn 22 = bk_Book_nameOn_22 := rfl
theorem bq_Book_nameOn_23 : ab_bl bt_Book_nameOn 23 = bk_Book_nameOn_23 := rfl
theorem bq_Book_friendOn_0 : ab_bl bt_Book_friendOn 0 = bk_Book_friendOn_0 := rfl
theorem bq_Book_friendOn_22 : ab_bl bt_Book_friendOn 22 = bk_Book_friendOn_22 := rfl
theorem bq_Book_friendOn_23 : ab_bl bt_Book_friendOn 23 = bk_Book_friendOn_23 := rfl
theorem bq_Book_find_0 : ab_bl bt_Book_find 0 = bk_Book_find_0 := rfl
theorem bq_Book_find_2 : ab_bl bt_Book_find 2 = bk_Book_find_2 := rfl
theorem bq_Book_find_31 : ab_bl bt_Book_find 31 = bk_Book_find_31 := rfl
theorem bq_Book_find_37 : ab_bl bt_Book_find 37 = bk_Book_find_37 := rfl
theorem bq_Book_startsEntry_0 : ab_bl bt_Book_startsEntry 0 = bk_Book_startsEntry_0 := rfl
theorem bq_Book_startsEntry_18 : ab_bl bt_Book_startsEntry 18 = bk_Book_startsEntry_18 := rfl
theorem bq_Book_startsEntry_22 : ab_bl bt_Book_startsEntry 22 = bk_Book_startsEntry_22 := rfl
theorem bq_Book_startsEntry_23 : ab_bl bt_Book_startsEntry 23 = bk_Book_startsEntry_23 := rfl
theorem bq_Book_countEntries_0 : ab_bl bt_Book_countEntries 0 = bk_Book_countEntries_0 := rfl
theorem bq_Book_countEntries_4 : ab_bl bt_Book_countEntries 4 = bk_Book_countEntries_4 := rfl
theorem bq_Book_countEntries_25 : ab_bl bt_Book_countEntries 25 = bk_Book_countEntries_25 := rfl
theorem bq_Book_countEntries_31 : ab_bl bt_Book_countEntries 31 = bk_Book_countEntries_31 := rfl
theorem bq_Book_countEntriesOf_0 : ab_bl bt_Book_countEntriesOf 0 = bk_Book_countEntriesOf_0 := rfl
theorem bq_Book_countEntriesOf_4 : ab_bl bt_Book_countEntriesOf 4 = bk_Book_countEntriesOf_4 := rfl
theorem bq_Book_countEntriesOf_34 : ab_bl bt_Book_countEntriesOf 34 = bk_Book_countEntriesOf_34 := rfl
theorem bq_Book_countEntriesOf_40 : ab_bl bt_Book_countEntriesOf 40 = bk_Book_countEntriesOf_40 := rfl
theorem bq_Book_countDedicatedTo_0 : ab_bl bt_Book_countDedicatedTo 0 = bk_Book_countDedicatedTo_0 := rfl
theorem bq_Book_countDedicatedTo_4 : ab_bl bt_Book_countDedicatedTo 4 = bk_Book_countDedicatedTo_4 := rfl
theorem bq_Book_countDedicatedTo_34 : ab_bl bt_Book_countDedicatedTo 34 = bk_Book_countDedicatedTo_34 := rfl
theorem bq_Book_countDedicatedTo_40 : ab_bl bt_Book_countDedicatedTo 40 = bk_Book_countDedicatedTo_40 := rfl
theorem bq_Book_countDedicated_0 : ab_bl bt_Book_countDedicated 0 = bk_Book_countDedicated_0 := rfl
theorem bq_Book_nameSet_0 : ab_bl bt_Book_nameSet 0 = bk_Book_nameSet_0 := rfl
theorem bq_Book_namesAhead_0 : ab_bl bt_Book_namesAhead 0 = bk_Book_namesAhead_0 := rfl
theorem bq_Book_namesAhead_4 : ab_bl bt_Book_namesAhead 4 = bk_Book_namesAhead_4 := rfl
theorem bq_Book_namesAhead_27 : ab_bl bt_Book_namesAhead 27 = bk_Book_namesAhead_27 := rfl
theorem bq_Book_namesAhead_33 : ab_bl bt_Book_namesAhead 33 = bk_Book_namesAhead_33 := rfl
theorem bq_Book_valueOn_0 : ab_bl bt_Book_valueOn 0 = bk_Book_valueOn_0 := rfl
theorem bq_Book_valueOn_15 : ab_bl bt_Book_valueOn 15 = bk_Book_valueOn_15 := rfl
theorem bq_Book_valueOn_16 : ab_bl bt_Book_valueOn 16 = bk_Book_valueOn_16 := rfl
theorem bq_Book_valueBehind_0 : ab_bl bt_Book_valueBehind 0 = bk_Book_valueBehind_0 := rfl
theorem bq_Book_valueBehind_14 : ab_bl bt_Book_valueBehind 14 = bk_Book_valueBehind_14 := rfl
theorem bq_Book_valueBehind_16 : ab_bl bt_Book_valueBehind 16 = bk_Book_valueBehind_16 := rfl
theorem bq_Book_valueBehind_57 : ab_bl bt_Book_valueBehind 57 = bk_Book_valueBehind_57 := rfl
theorem bq_Book_valueBehind_61 : ab_bl bt_Book_valueBehind 61 = bk_Book_valueBehind_61 := rfl
theorem bq_Book_valueBehind_63 : ab_bl bt_Book_valueBehind 63 = bk_Book_valueBehind_63 := rfl
theorem bq_Book_valueBehind_79 : ab_bl bt_Book_valueBehind 79 = bk_Book_valueBehind_79 := rfl
theorem bq_Book_valueBehind_80 : ab_bl bt_Book_valueBehind 80 = bk_Book_valueBehind_80 := rfl
theorem bq_Book_valueBehind_94 : ab_bl bt_Book_valueBehind 94 = bk_Book_valueBehind_94 := rfl
theorem bq_Book_valueBehind_96 : ab_bl bt_Book_valueBehind 96 = bk_Book_valueBehind_96 := rfl
theorem bq_Book_sumOfValues_0 : ab_bl bt_Book_sumOfValues 0 = bk_Book_sumOfValues_0 := rfl
theorem bq_Book_sumOfValues_7 : ab_bl bt_Book_sumOfValues 7 = bk_Book_sumOfValues_7 := rfl
theorem bq_Book_sumOfValues_49 : ab_bl bt_Book_sumOfValues 49 = bk_Book_sumOfValues_49 := rfl
theorem bq_Book_sumOfValues_55 : ab_bl bt_Book_sumOfValues 55 = bk_Book_sumOfValues_55 := rfl
theorem bq_Book_wholeThemes_0 : ab_bl bt_Book_wholeThemes 0 = bk_Book_wholeThemes_0 := rfl
theorem bq_Book_wholeThemes_16 : ab_bl bt_Book_wholeThemes 16 = bk_Book_wholeThemes_16 := rfl
theorem bq_Book_wholeThemes_51 : ab_bl bt_Book_wholeThemes 51 = bk_Book_wholeThemes_51 := rfl
theorem bq_Book_wholeThemes_57 : ab_bl bt_Book_wholeThemes 57 = bk_Book_wholeThemes_57 := rfl
theorem bq_Book_worth_0 : ab_bl bt_Book_worth 0 = bk_Book_worth_0 := rfl
theorem bq_Book_worth_15 : ab_bl bt_Book_worth 15 = bk_Book_worth_15 := rfl
theorem bq_Book_worth_45 : ab_bl bt_Book_worth 45 = bk_Book_worth_45 := rfl
theorem bq_Book_worth_51 : ab_bl bt_Book_worth 51 = bk_Book_worth_51 := rfl
theorem bq_Book_isJoined_0 : ab_bl bt_Book_isJoined 0 = bk_Book_isJoined_0 := rfl
theorem bq_Book_isJoined_33 : ab_bl bt_Book_isJoined 33 = bk_Book_isJoined_33 := rfl
theorem bq_Book_isJoined_34 : ab_bl bt_Book_isJoined 34 = bk_Book_isJoined_34 := rfl
theorem bq_Book_startsBundle_0 : ab_bl bt_Book_startsBundle 0 = bk_Book_startsBundle_0 := rfl
theorem bq_Book_startsBundle_14 : ab_bl bt_Book_startsBundle 14 = bk_Book_startsBundle_14 := rfl
theorem bq_Book_startsBundle_15 : ab_bl bt_Book_startsBundle 15 = bk_Book_startsBundle_15 := rfl
theorem bq_Book_bundleFirst_0 : ab_bl bt_Book_bundleFirst 0 = bk_Book_bundleFirst_0 := rfl
theorem bq_Book_bundleFirst_2 : ab_bl bt_Book_bundleFirst 2 = bk_Book_bundleFirst_2 := rfl
theorem bq_Book_bundleFirst_22 : ab_bl bt_Book_bundleFirst 22 = bk_Book_bundleFirst_22 := rfl
theorem bq_Book_bundleEnd_0 : ab_bl bt_Book_bundleEnd 0 = bk_Book_bundleEnd_0 := rfl
theorem bq_Book_bundleEnd_4 : ab_bl bt_Book_bundleEnd 4 = bk_Book_bundleEnd_4 := rfl
theorem bq_Book_bundleEnd_28 : ab_bl bt_Book_bundleEnd 28 = bk_Book_bundleEnd_28 := rfl
theorem bq_Book_bundleSize_0 : ab_bl bt_Book_bundleSize 0 = bk_Book_bundleSize_0 := rfl
theorem bq_Book_countBundles_0 : ab_bl bt_Book_countBundles 0 = bk_Book_countBundles_0 := rfl
theorem bq_Book_countBundles_4 : ab_bl bt_Book_countBundles 4 = bk_Book_countBundles_4 := rfl
theorem bq_Book_countBundles_23 : ab_bl bt_Book_countBundles 23 = bk_Book_countBundles_23 := rfl
theorem bq_Book_countBundles_29 : ab_bl bt_Book_countBundles 29 = bk_Book_countBundles_29 := rfl
theorem bq_Book_canShift_0 : ab_bl bt_Book_canShift 0 = bk_Book_canShift_0 := rfl
theorem bq_Book_canShift_18 : ab_bl bt_Book_canShift 18 = bk_Book_canShift_18 := rfl
theorem bq_Book_canShift_39 : ab_bl bt_Book_canShift 39 = bk_Book_canShift_39 := rfl
theorem bq_Book_canShift_43 : ab_bl bt_Book_canShift 43 = bk_Book_canShift_43 := rfl
theorem bq_Book_canShift_53 : ab_bl bt_Book_canShift 53 = bk_Book_canShift_53 := rfl
theorem bq_Book_canShift_54 : ab_bl bt_Book_canShift 54 = bk_Book_canShift_54 := rfl
theorem bq_Book_setEntry_0 : ab_bl bt_Book_setEntry 0 = bk_Book_setEntry_0 := rfl
theorem bq_Book_setEntry_53 : ab_bl bt_Book_setEntry 53 = bk_Book_setEntry_53 := rfl
theorem bq_Book_setFriend_0 : ab_bl bt_Book_setFriend 0 = bk_Book_setFriend_0 := rfl
theorem bq_Book_addLeaf_0 : ab_bl bt_Book_addLeaf 0 = bk_Book_addLeaf_0 := rfl
theorem bq_Book_addLeaf_67 : ab_bl bt_Book_addLeaf 67 = bk_Book_addLeaf_67 := rfl
theorem bq_Book_addLeaves_0 : ab_bl bt_Book_addLeaves 0 = bk_Book_addLeaves_0 := rfl
theorem bq_Book_addLeaves_3 : ab_bl bt_Book_addLeaves 3 = bk_Book_addLeaves_3 := rfl
theorem bq_Book_addLeaves_129 : ab_bl bt_Book_addLeaves 129 = bk_Book_addLeaves_129 := rfl
theorem bq_Book_clearFor_0 : ab_bl bt_Book_clearFor 0 = bk_Book_clearFor_0 := rfl
theorem bq_Book_copyFrom_0 : ab_bl bt_Book_copyFrom 0 = bk_Book_copyFrom_0 := rfl
theorem bq_Bench_init_0 : ab_bl bt_Bench_init 0 = bk_Bench_init_0 := rfl
theorem bq_Bench_takeOut_0 : ab_bl bt_Bench_takeOut 0 = bk_Bench_takeOut_0 := rfl
theorem bq_Bench_shift_0 : ab_bl bt_Bench_shift 0 = bk_Bench_shift_0 := rfl
theorem bq_Bench_layOut_0 : ab_bl bt_Bench_layOut 0 = bk_Bench_layOut_0 := rfl
theorem bq_Bench_layOutFor_0 : ab_bl bt_Bench_layOutFor 0 = bk_Bench_layOutFor_0 := rfl
theorem bq_Bench_fits_0 : ab_bl bt_Bench_fits 0 = bk_Bench_fits_0 := rfl
theorem bq_Bench_fits_28 : ab_bl bt_Bench_fits 28 = bk_Bench_fits_28 := rfl
theorem bq_Bench_fits_29 : ab_bl bt_Bench_fits 29 = bk_Bench_fits_29 := rfl
theorem bq_Bench_gainOfOne_0 : ab_bl bt_Bench_gainOfOne 0 = bk_Bench_gainOfOne_0 := rfl
theorem bq_Bench_gainOfOther_0 : ab_bl bt_Bench_gainOfOther 0 = bk_Bench_gainOfOther_0 := rfl
theorem bq_Bench_settle_0 : ab_bl bt_Bench_settle 0 = bk_Bench_settle_0 := rfl
theorem bq_State_init_0 : ab_bl bt_State_init 0 = bk_State_init_0 := rfl
theorem bq_State_copyFrom_0 : ab_bl bt_State_copyFrom 0 = bk_State_copyFrom_0 := rfl
theorem bq_State_copyFrom_13 : ab_bl bt_State_copyFrom 13 = bk_State_copyFrom_13 := rfl
theorem bq_State_copyFrom_47 : ab_bl bt_State_copyFrom 47 = bk_State_copyFrom_47 := rfl
theorem bq_State_bookOf_0 : ab_bl bt_State_bookOf 0 = bk_State_bookOf_0 := rfl
theorem bq_State_bookOf_28 : ab_bl bt_State_bookOf 28 = bk_State_bookOf_28 := rfl
theorem bq_State_bookOf_33 : ab_bl bt_State_bookOf 33 = bk_State_bookOf_33 := rfl
theorem bq_State_bookOf_38 : ab_bl bt_State_bookOf 38 = bk_State_bookOf_38 := rfl
theorem bq_State_bookOf_43 : ab_bl bt_State_bookOf 43 = bk_State_bookOf_43 := rfl
theorem bq_State_bookWith_0 : ab_bl bt_State_bookWith 0 = bk_State_bookWith_0 := rfl
theorem bq_State_bookWith_2 : ab_bl bt_State_bookWith 2 = bk_State_bookWith_2 := rfl
theorem bq_State_bookWith_26 : ab_bl bt_State_bookWith 26 = bk_State_bookWith_26 := rfl
theorem bq_State_bookWith_32 : ab_bl bt_State_bookWith 32 = bk_State_bookWith_32 := rfl
theorem bq_State_purseOf_0 : ab_bl bt_State_purseOf 0 = bk_State_purseOf_0 := rfl
theorem bq_State_purseOf_22 : ab_bl bt_State_purseOf 22 = bk_State_purseOf_22 := rfl
theorem bq_State_purseOf_23 : ab_bl bt_State_purseOf 23 = bk_State_purseOf_23 := rfl
theorem bq_State_setPurse_0 : ab_bl bt_State_setPurse 0 = bk_State_setPurse_0 := rfl
theorem bq_State_setPurse_20 : ab_bl bt_State_setPurse 20 = bk_State_setPurse_20 := rfl
theorem bq_State_addName_0 : ab_bl bt_State_addName 0 = bk_State_addName_0 := rfl
theorem bq_State_addName_18 : ab_bl bt_State_addName 18 = bk_State_addName_18 := rfl
theorem bq_State_addName_21 : ab_bl bt_State_addName 21 = bk_State_addName_21 := rfl
theorem bq_State_addName_36 : ab_bl bt_State_addName 36 = bk_State_addName_36 := rfl
theorem bq_State_addLeaf_0 : ab_bl bt_State_addLeaf 0 = bk_State_addLeaf_0 := rfl
theorem bq_State_addLeaf_10 : ab_bl bt_State_addLeaf 10 = bk_State_addLeaf_10 := rfl
theorem bq_State_addLeaf_28 : ab_bl bt_State_addLeaf 28 = bk_State_addLeaf_28 := rfl
theorem bq_State_addEntry_0 : ab_bl bt_State_addEntry 0 = bk_State_addEntry_0 := rfl
theorem bq_State_addEntry_30 : ab_bl bt_State_addEntry 30 = bk_State_addEntry_30 := rfl
theorem bq_State_addEntry_33 : ab_bl bt_State_addEntry 33 = bk_State_addEntry_33 := rfl
theorem bq_State_addEntry_58 : ab_bl bt_State_addEntry 58 = bk_State_addEntry_58 := rfl
theorem bq_State_addWideEntry_0 : ab_bl bt_State_addWideEntry 0 = bk_State_addWideEntry_0 := rfl
theorem bq_State_addWideEntry_21 : ab_bl bt_State_addWideEntry 21 = bk_State_addWideEntry_21 := rfl
theorem bq_State_addWideEntry_24 : ab_bl bt_State_addWideEntry 24 = bk_State_addWideEntry_24 := rfl
theorem bq_State_addWideEntry_70 : ab_bl bt_State_addWideEntry 70 = bk_State_addWideEntry_70 := rfl
theorem bq_State_addWideEntry_73 : ab_bl bt_State_addWideEntry 73 = bk_State_addWideEntry_73 := rfl
theorem bq_State_setFriend_0 : ab_bl bt_State_setFriend 0 = bk_State_setFriend_0 := rfl
theorem bq_State_setFriend_26 : ab_bl bt_State_setFriend 26 = bk_State_setFriend_26 := rfl
theorem bq_State_setFriend_29 : ab_bl bt_State_setFriend 29 = bk_State_setFriend_29 := rfl
theorem bq_State_setFriend_66 : ab_bl bt_State_setFriend 66 = bk_State_setFriend_66 := rfl
theorem bq_State_setFriend_69 : ab_bl bt_State_setFriend 69 = bk_State_setFriend_69 := rfl
theorem bq_State_setFriend_96 : ab_bl bt_State_setFriend 96 = bk_State_setFriend_96 := rfl
theorem bq_State_setFriend_112 : ab_bl bt_State_setFriend 112 = bk_State_setFriend_112 := rfl
theorem bq_State_shiftBundle_0 : ab_bl bt_State_shiftBundle 0 = bk_State_shiftBundle_0 := rfl
theorem bq_State_shiftBundle_16 : ab_bl bt_State_shiftBundle 16 = bk_State_shiftBundle_16 := rfl
theorem bq_State_shiftBundle_19 : ab_bl bt_State_shiftBundle 19 = bk_State_shiftBundle_19 := rfl
theorem bq_State_shiftBundle_41 : ab_bl bt_State_shiftBundle 41 = bk_State_shiftBundle_41 := rfl
theorem bq_State_exchange_0 : ab_bl bt_State_exchange 0 = bk_State_exchange_0 := rfl
theorem bq_State_exchange_31 : ab_bl bt_State_exchange 31 = bk_State_exchange_31 := rfl
theorem bq_State_exchange_34 : ab_bl bt_State_exchange 34 = bk_State_exchange_34 := rfl
theorem bq_State_exchange_83 : ab_bl bt_State_exchange 83 = bk_State_exchange_83 := rfl
theorem bq_State_exchange_86 : ab_bl bt_State_exchange 86 = bk_State_exchange_86 := rfl
theorem bq_State_exchange_131 : ab_bl bt_State_exchange 131 = bk_State_exchange_131 := rfl
theorem bq_State_exchange_134 : ab_bl bt_State_exchange 134 = bk_State_exchange_134 := rfl
theorem bq_State_takeOut_0 : ab_bl bt_State_takeOut 0 = bk_State_takeOut_0 := rfl
theorem bq_State_takeOut_13 : ab_bl bt_State_takeOut 13 = bk_State_takeOut_13 := rfl
theorem bq_State_fillPurse_0 : ab_bl bt_State_fillPurse 0 = bk_State_fillPurse_0 := rfl
theorem bq_State_fillPurse_18 : ab_bl bt_State_fillPurse 18 = bk_State_fillPurse_18 := rfl
theorem bq_State_fillPurse_21 : ab_bl bt_State_fillPurse 21 = bk_State_fillPurse_21 := rfl
theorem bq_State_wealth_0 : ab_bl bt_State_wealth 0 = bk_State_wealth_0 := rfl
theorem bq_State_richest_0 : ab_bl bt_State_richest 0 = bk_State_richest_0 := rfl
theorem bq_State_richest_4 : ab_bl bt_State_richest 4 = bk_State_richest_4 := rfl
theorem bq_State_richest_24 : ab_bl bt_State_richest 24 = bk_State_richest_24 := rfl
theorem bq_State_richest_30 : ab_bl bt_State_richest 30 = bk_State_richest_30 := rfl
theorem bq_State_sumOfWorths_0 : ab_bl bt_State_sumOfWorths 0 = bk_State_sumOfWorths_0 := rfl
theorem bq_State_sumOfWorths_4 : ab_bl bt_State_sumOfWorths 4 = bk_State_sumOfWorths_4 := rfl
theorem bq_State_sumOfWorths_30 : ab_bl bt_State_sumOfWorths 30 = bk_State_sumOfWorths_30 := rfl
theorem bq_State_countLeaves_0 : ab_bl bt_State_countLeaves 0 = bk_State_countLeaves_0 := rfl
theorem bq_State_countEntries_0 : ab_bl bt_State_countEntries 0 = bk_State_countEntries_0 := rfl
theorem bq_State_countEntries_4 : ab_bl bt_State_countEntries 4 = bk_State_countEntries_4 := rfl
theorem bq_State_countEntries_26 : ab_bl bt_State_countEntries 26 = bk_State_countEntries_26 := rfl
theorem bq_State_countDedicated_0 : ab_bl bt_State_countDedicated 0 = bk_State_countDedicated_0 := rfl
theorem bq_State_countDedicated_4 : ab_bl bt_State_countDedicated 4 = bk_State_countDedicated_4 := rfl
theorem bq_State_countDedicated_26 : ab_bl bt_State_countDedicated 26 = bk_State_countDedicated_26 := rfl
theorem bq_State_countEntriesOf_0 : ab_bl bt_State_countEntriesOf 0 = bk_State_countEntriesOf_0 := rfl
theorem bq_State_countEntriesOf_4 : ab_bl bt_State_countEntriesOf 4 = bk_State_countEntriesOf_4 := rfl
theorem bq_State_countEntriesOf_27 : ab_bl bt_State_countEntriesOf 27 = bk_State_countEntriesOf_27 := rfl
theorem bq_State_ownersOf_0 : ab_bl bt_State_ownersOf 0 = bk_State_ownersOf_0 := rfl
theorem bq_State_ownersOf_4 : ab_bl bt_State_ownersOf 4 = bk_State_ownersOf_4 := rfl
theorem bq_State_ownersOf_27 : ab_bl bt_State_ownersOf 27 = bk_State_ownersOf_27 := rfl
theorem bq_State_ownersOf_33 : ab_bl bt_State_ownersOf 33 = bk_State_ownersOf_33 := rfl
theorem bq_BestTrade_init_0 : ab_bl bt_BestTrade_init 0 = bk_BestTrade_init_0 := rfl
theorem bq_BestTrade_search_0 : ab_bl bt_BestTrade_search 0 = bk_BestTrade_search_0 := rfl
theorem bq_BestTrade_search_15 : ab_bl bt_BestTrade_search 15 = bk_BestTrade_search_15 := rfl
theorem bq_BestTrade_search_28 : ab_bl bt_BestTrade_search 28 = bk_BestTrade_search_28 := rfl
theorem bq_BestTrade_search_69 : ab_bl bt_BestTrade_search 69 = bk_BestTrade_search_69 := rfl
theorem bq_BestTrade_search_75 : ab_bl bt_BestTrade_search 75 = bk_BestTrade_search_75 := rfl
theorem bq_BestTrade_search_81 : ab_bl bt_BestTrade_search 81 = bk_BestTrade_search_81 := rfl
theorem bq_BestTrade_searchBook_0 : ab_bl bt_BestTrade_searchBook 0 = bk_BestTrade_searchBook_0 := rfl
theorem bq_BestTrade_searchBook_3 : ab_bl bt_BestTrade_searchBook 3 = bk_BestTrade_searchBook_3 := rfl
theorem bq_BestTrade_searchBook_94 : ab_bl bt_BestTrade_searchBook 94 = bk_BestTrade_searchBook_94 := rfl
theorem bq_BestTrade_searchBook_100 : ab_bl bt_BestTrade_searchBook 100 = bk_BestTrade_searchBook_100 := rfl
theorem bq_History_init_0 : ab_bl bt_History_init 0 = bk_History_init_0 := rfl
theorem bq_History_prepare_0 : ab_bl bt_History_prepare 0 = bk_History_prepare_0 := rfl
theorem bq_History_keep_0 : ab_bl bt_History_keep 0 = bk_History_keep_0 := rfl
theorem bq_History_keep_60 : ab_bl bt_History_keep 60 = bk_History_keep_60 := rfl
theorem bq_History_restore_0 : ab_bl bt_History_restore 0 = bk_History_restore_0 := rfl
theorem bq_Orders_init_0 : ab_bl bt_Orders_init 0 = bk_Orders_init_0 := rfl
theorem bq_Orders_append_0 : ab_bl bt_Orders_append 0 = bk_Orders_append_0 := rfl
theorem bq_Orders_append_39 : ab_bl bt_Orders_append 39 = bk_Orders_append_39 := rfl
theorem bq_Orders_run_0 : ab_bl bt_Orders_run 0 = bk_Orders_run_0 := rfl
theorem bq_Orders_run_23 : ab_bl bt_Orders_run 23 = bk_Orders_run_23 := rfl
theorem bq_Orders_run_75 : ab_bl bt_Orders_run 75 = bk_Orders_run_75 := rfl
theorem bq_Orders_run_100 : ab_bl bt_Orders_run 100 = bk_Orders_run_100 := rfl
theorem bq_Orders_run_116 : ab_bl bt_Orders_run 116 = bk_Orders_run_116 := rfl
theorem bq_Orders_characterAt_0 : ab_bl bt_Orders_characterAt 0 = bk_Orders_characterAt_0 := rfl
theorem bq_Orders_characterAt_30 : ab_bl bt_Orders_characterAt 30 = bk_Orders_characterAt_30 := rfl
theorem bq_Orders_characterAt_31 : ab_bl bt_Orders_characterAt 31 = bk_Orders_characterAt_31 := rfl
theorem bq_Orders_readOrder_0 : ab_bl bt_Orders_readOrder 0 = bk_Orders_readOrder_0 := rfl
theorem bq_Orders_readOrder_18 : ab_bl bt_Orders_readOrder 18 = bk_Orders_readOrder_18 := rfl
theorem bq_Orders_readOrder_30 : ab_bl bt_Orders_readOrder 30 = bk_Orders_readOrder_30 := rfl
theorem bq_Orders_readOrder_50 : ab_bl bt_Orders_readOrder 50 = bk_Orders_readOrder_50 := rfl
theorem bq_Orders_readOrder_66 : ab_bl bt_Orders_readOrder 66 = bk_Orders_readOrder_66 := rfl
theorem bq_Orders_readOrder_77 : ab_bl bt_Orders_readOrder 77 = bk_Orders_readOrder_77 := rfl
theorem bq_Orders_skip_0 : ab_bl bt_Orders_skip 0 = bk_Orders_skip_0 := rfl
theorem bq_Orders_skip_14 : ab_bl bt_Orders_skip 14 = bk_Orders_skip_14 := rfl
theorem bq_Orders_readNumber_0 : ab_bl bt_Orders_readNumber 0 = bk_Orders_readNumber_0 := rfl
theorem bq_Orders_readNumber_63 : ab_bl bt_Orders_readNumber 63 = bk_Orders_readNumber_63 := rfl
theorem bq_Orders_readNumber_83 : ab_bl bt_Orders_readNumber 83 = bk_Orders_readNumber_83 := rfl
theorem bq_Orders_number_0 : ab_bl bt_Orders_number 0 = bk_Orders_number_0 := rfl
theorem bq_Orders_number_22 : ab_bl bt_Orders_number 22 = bk_Orders_number_22 := rfl
theorem bq_Orders_number_23 : ab_bl bt_Orders_number 23 = bk_Orders_number_23 := rfl
theorem bq_Orders_doOrder_0 : ab_bl bt_Orders_doOrder 0 = bk_Orders_doOrder_0 := rfl
theorem bq_Orders_doOrder_52 : ab_bl bt_Orders_doOrder 52 = bk_Orders_doOrder_52 := rfl
theorem bq_Orders_doOrder_62 : ab_bl bt_Orders_doOrder 62 = bk_Orders_doOrder_62 := rfl
theorem bq_Orders_doOrder_83 : ab_bl bt_Orders_doOrder 83 = bk_Orders_doOrder_83 := rfl
theorem bq_Orders_doOrder_121 : ab_bl bt_Orders_doOrder 121 = bk_Orders_doOrder_121 := rfl
theorem bq_Orders_doOrder_123 : ab_bl bt_Orders_doOrder 123 = bk_Orders_doOrder_123 := rfl
theorem bq_Orders_doOrder_124 : ab_bl bt_Orders_doOrder 124 = bk_Orders_doOrder_124 := rfl
theorem bq_Orders_doOrder_139 : ab_bl bt_Orders_doOrder 139 = bk_Orders_doOrder_139 := rfl
theorem bq_Orders_howManyNumbers_0 : ab_bl bt_Orders_howManyNumbers 0 = bk_Orders_howManyNumbers_0 := rfl
theorem bq_Orders_howManyNumbers_52 : ab_bl bt_Orders_howManyNumbers 52 = bk_Orders_howManyNumbers_52 := rfl
theorem bq_Orders_howManyNumbers_54 : ab_bl bt_Orders_howManyNumbers 54 = bk_Orders_howManyNumbers_54 := rfl
theorem bq_Orders_howManyNumbers_56 : ab_bl bt_Orders_howManyNumbers 56 = bk_Orders_howManyNumbers_56 := rfl
theorem bq_Orders_howManyNumbers_58 : ab_bl bt_Orders_howManyNumbers 58 = bk_Orders_howManyNumbers_58 := rfl
theorem bq_Orders_howManyNumbers_60 : ab_bl bt_Orders_howManyNumbers 60 = bk_Orders_howManyNumbers_60 := rfl
theorem bq_Orders_isDigit_0 : ab_bl bt_Orders_isDigit 0 = bk_Orders_isDigit_0 := rfl
theorem bq_Orders_isDigit_16 : ab_bl bt_Orders_isDigit 16 = bk_Orders_isDigit_16 := rfl
theorem bq_Orders_isDigit_17 : ab_bl bt_Orders_isDigit 17 = bk_Orders_isDigit_17 := rfl
theorem bq_Fair_init_0 : ab_bl bt_Fair_init 0 = bk_Fair_init_0 := rfl
theorem bq_Fair_name_0 : ab_bl bt_Fair_name 0 = bk_Fair_name_0 := rfl
theorem bq_Fair_leaf_0 : ab_bl bt_Fair_leaf 0 = bk_Fair_leaf_0 := rfl
theorem bq_Fair_sign_0 : ab_bl bt_Fair_sign 0 = bk_Fair_sign_0 := rfl
theorem bq_Fair_over_0 : ab_bl bt_Fair_over 0 = bk_Fair_over_0 := rfl
theorem bq_Fair_dedicate_0 : ab_bl bt_Fair_dedicate 0 = bk_Fair_dedicate_0 := rfl
theorem bq_Fair_move_0 : ab_bl bt_Fair_move 0 = bk_Fair_move_0 := rfl
theorem bq_Fair_trade_0 : ab_bl bt_Fair_trade 0 = bk_Fair_trade_0 := rfl
theorem bq_Fair_tear_0 : ab_bl bt_Fair_tear 0 = bk_Fair_tear_0 := rfl
theorem bq_Fair_coins_0 : ab_bl bt_Fair_coins 0 = bk_Fair_coins_0 := rfl
theorem bq_Fair_pageOf_0 : ab_bl bt_Fair_pageOf 0 = bk_Fair_pageOf_0 := rfl
theorem bq_Fair_pageOf_31 : ab_bl bt_Fair_pageOf 31 = bk_Fair_pageOf_31 := rfl
theorem bq_Fair_pageOf_34 : ab_bl bt_Fair_pageOf 34 = bk_Fair_pageOf_34 := rfl
theorem bq_Fair_pageOf_59 : ab_bl bt_Fair_pageOf 59 = bk_Fair_pageOf_59 := rfl
theorem bq_Fair_pageOf_88 : ab_bl bt_Fair_pageOf 88 = bk_Fair_pageOf_88 := rfl
theorem bq_Fair_pageOf_96 : ab_bl bt_Fair_pageOf 96 = bk_Fair_pageOf_96 := rfl
theorem bq_Fair_pageOf_112 : ab_bl bt_Fair_pageOf 112 = bk_Fair_pageOf_112 := rfl
theorem bq_Fair_pageOf_119 : ab_bl bt_Fair_pageOf 119 = bk_Fair_pageOf_119 := rfl
theorem bq_Fair_pageOf_120 : ab_bl bt_Fair_pageOf 120 = bk_Fair_pageOf_120 := rfl
theorem bq_Fair_pageOf_135 : ab_bl bt_Fair_pageOf 135 = bk_Fair_pageOf_135 := rfl
theorem bq_Fair_pageOf_136 : ab_bl bt_Fair_pageOf 136 = bk_Fair_pageOf_136 := rfl
theorem bq_Fair_pageOf_137 : ab_bl bt_Fair_pageOf 137 = bk_Fair_pageOf_137 := rfl
theorem bq_Fair_leafOf_0 : ab_bl bt_Fair_leafOf 0 = bk_Fair_leafOf_0 := rfl
theorem bq_Fair_leafOf_22 : ab_bl bt_Fair_leafOf 22 = bk_Fair_leafOf_22 := rfl
theorem bq_Fair_leafOf_25 : ab_bl bt_Fair_leafOf 25 = bk_Fair_leafOf_25 := rfl
theorem bq_Fair_leafOf_60 : ab_bl bt_Fair_leafOf 60 = bk_Fair_leafOf_60 := rfl
theorem bq_Fair_leafOf_65 : ab_bl bt_Fair_leafOf 65 = bk_Fair_leafOf_65 := rfl
theorem bq_Fair_leafOf_68 : ab_bl bt_Fair_leafOf 68 = bk_Fair_leafOf_68 := rfl
theorem bq_Fair_leafOf_75 : ab_bl bt_Fair_leafOf 75 = bk_Fair_leafOf_75 := rfl
theorem bq_Fair_at_0 : ab_bl bt_Fair_at 0 = bk_Fair_at_0 := rfl
theorem bq_Fair_at_11 : ab_bl bt_Fair_at 11 = bk_Fair_at_11 := rfl
theorem bq_Fair_at_14 : ab_bl bt_Fair_at 14 = bk_Fair_at_14 := rfl
theorem bq_Fair_at_39 : ab_bl bt_Fair_at 39 = bk_Fair_at_39 := rfl
theorem bq_Fair_at_41 : ab_bl bt_Fair_at 41 = bk_Fair_at_41 := rfl
theorem bq_Fair_collectorOf_0 : ab_bl bt_Fair_collectorOf 0 = bk_Fair_collectorOf_0 := rfl
theorem bq_Fair_collectorOf_10 : ab_bl bt_Fair_collectorOf 10 = bk_Fair_collectorOf_10 := rfl
theorem bq_Fair_collectorOf_72 : ab_bl bt_Fair_collectorOf 72 = bk_Fair_collectorOf_72 := rfl
theorem bq_Fair_collectorOf_81 : ab_bl bt_Fair_collectorOf 81 = bk_Fair_collectorOf_81 := rfl
theorem bq_Fair_collectorOf_86 : ab_bl bt_Fair_collectorOf 86 = bk_Fair_collectorOf_86 := rfl
theorem bq_Fair_collectorOf_91 : ab_bl bt_Fair_collectorOf 91 = bk_Fair_collectorOf_91 := rfl
theorem bq_Fair_collectorOf_103 : ab_bl bt_Fair_collectorOf 103 = bk_Fair_collectorOf_103 := rfl
theorem bq_Fair_collectorOf_112 : ab_bl bt_Fair_collectorOf 112 = bk_Fair_collectorOf_112 := rfl
theorem bq_Fair_collectorOf_117 : ab_bl bt_Fair_collectorOf 117 = bk_Fair_collectorOf_117 := rfl
theorem bq_Fair_collectorOf_129 : ab_bl bt_Fair_collectorOf 129 = bk_Fair_collectorOf_129 := rfl
theorem bq_Fair_collectorOf_134 : ab_bl bt_Fair_collectorOf 134 = bk_Fair_collectorOf_134 := rfl
theorem bq_Fair_collectorOf_140 : ab_bl bt_Fair_collectorOf 140 = bk_Fair_collectorOf_140 := rfl
theorem bq_Fair_nameOf_0 : ab_bl bt_Fair_nameOf 0 = bk_Fair_nameOf_0 := rfl
theorem bq_Fair_nameOf_17 : ab_bl bt_Fair_nameOf 17 = bk_Fair_nameOf_17 := rfl
theorem bq_Fair_nameOf_48 : ab_bl bt_Fair_nameOf 48 = bk_Fair_nameOf_48 := rfl
theorem bq_Fair_nameOf_60 : ab_bl bt_Fair_nameOf 60 = bk_Fair_nameOf_60 := rfl
theorem bq_Fair_nameOf_72 : ab_bl bt_Fair_nameOf 72 = bk_Fair_nameOf_72 := rfl
theorem bq_Fair_nameOf_81 : ab_bl bt_Fair_nameOf 81 = bk_Fair_nameOf_81 := rfl
theorem bq_Fair_nameOf_90 : ab_bl bt_Fair_nameOf 90 = bk_Fair_nameOf_90 := rfl
theorem bq_Fair_gain_0 : ab_bl bt_Fair_gain 0 = bk_Fair_gain_0 := rfl
theorem bq_Fair_gain_48 : ab_bl bt_Fair_gain 48 = bk_Fair_gain_48 := rfl
theorem bq_Fair_gain_51 : ab_bl bt_Fair_gain 51 = bk_Fair_gain_51 := rfl
theorem bq_Fair_gain_67 : ab_bl bt_Fair_gain 67 = bk_Fair_gain_67 := rfl
theorem bq_Fair_gain_114 : ab_bl bt_Fair_gain 114 = bk_Fair_gain_114 := rfl
theorem bq_Fair_gain_130 : ab_bl bt_Fair_gain 130 = bk_Fair_gain_130 := rfl
theorem bq_Fair_fair_0 : ab_bl bt_Fair_fair 0 = bk_Fair_fair_0 := rfl
theorem bq_Fair_fair_28 : ab_bl bt_Fair_fair 28 = bk_Fair_fair_28 := rfl
theorem bq_Fair_fair_31 : ab_bl bt_Fair_fair 31 = bk_Fair_fair_31 := rfl
theorem bq_Fair_fair_46 : ab_bl bt_Fair_fair 46 = bk_Fair_fair_46 := rfl
theorem bq_Fair_fair_131 : ab_bl bt_Fair_fair 131 = bk_Fair_fair_131 := rfl
theorem bq_Fair_fair_133 : ab_bl bt_Fair_fair 133 = bk_Fair_fair_133 := rfl
theorem bq_Fair_best_0 : ab_bl bt_Fair_best 0 = bk_Fair_best_0 := rfl
theorem bq_Fair_best_16 : ab_bl bt_Fair_best 16 = bk_Fair_best_16 := rfl
theorem bq_Fair_best_19 : ab_bl bt_Fair_best 19 = bk_Fair_best_19 := rfl
theorem bq_Fair_best_48 : ab_bl bt_Fair_best 48 = bk_Fair_best_48 := rfl
theorem bq_Fair_best_76 : ab_bl bt_Fair_best 76 = bk_Fair_best_76 := rfl
theorem bq_Fair_best_84 : ab_bl bt_Fair_best 84 = bk_Fair_best_84 := rfl
theorem bq_Fair_best_92 : ab_bl bt_Fair_best 92 = bk_Fair_best_92 := rfl
theorem bq_Fair_missing_0 : ab_bl bt_Fair_missing 0 = bk_Fair_missing_0 := rfl
theorem bq_Fair_missing_14 : ab_bl bt_Fair_missing 14 = bk_Fair_missing_14 := rfl
theorem bq_Fair_missing_17 : ab_bl bt_Fair_missing 17 = bk_Fair_missing_17 := rfl
theorem bq_Fair_mean_0 : ab_bl bt_Fair_mean 0 = bk_Fair_mean_0 := rfl
theorem bq_Fair_mean_10 : ab_bl bt_Fair_mean 10 = bk_Fair_mean_10 := rfl
theorem bq_Fair_mean_31 : ab_bl bt_Fair_mean 31 = bk_Fair_mean_31 := rfl
theorem bq_Fair_count_0 : ab_bl bt_Fair_count 0 = bk_Fair_count_0 := rfl
theorem bq_Fair_count_56 : ab_bl bt_Fair_count 56 = bk_Fair_count_56 := rfl
theorem bq_Fair_count_67 : ab_bl bt_Fair_count 67 = bk_Fair_count_67 := rfl
theorem bq_Fair_count_75 : ab_bl bt_Fair_count 75 = bk_Fair_count_75 := rfl
theorem bq_Fair_count_83 : ab_bl bt_Fair_count 83 = bk_Fair_count_83 := rfl
theorem bq_Fair_count_91 : ab_bl bt_Fair_count 91 = bk_Fair_count_91 := rfl
theorem bq_Fair_count_99 : ab_bl bt_Fair_count 99 = bk_Fair_count_99 := rfl
theorem bq_Fair_count_107 : ab_bl bt_Fair_count 107 = bk_Fair_count_107 := rfl
theorem bq_Fair_count_115 : ab_bl bt_Fair_count 115 = bk_Fair_count_115 := rfl
theorem bq_Fair_count_123 : ab_bl bt_Fair_count 123 = bk_Fair_count_123 := rfl
theorem bq_Fair_count_131 : ab_bl bt_Fair_count 131 = bk_Fair_count_131 := rfl
theorem bq_Fair_count_139 : ab_bl bt_Fair_count 139 = bk_Fair_count_139 := rfl
theorem bq_Fair_undo_0 : ab_bl bt_Fair_undo 0 = bk_Fair_undo_0 := rfl
theorem bq_Fair_undo_13 : ab_bl bt_Fair_undo 13 = bk_Fair_undo_13 := rfl
theorem bq_Fair_type_0 : ab_bl bt_Fair_type 0 = bk_Fair_type_0 := rfl
theorem bq_Fair_type_12 : ab_bl bt_Fair_type 12 = bk_Fair_type_12 := rfl
theorem bq_Fair_type_15 : ab_bl bt_Fair_type 15 = bk_Fair_type_15 := rfl
theorem bq_Fair_type_31 : ab_bl bt_Fair_type 31 = bk_Fair_type_31 := rfl
theorem bq_Fair_clearText_0 : ab_bl bt_Fair_clearText 0 = bk_Fair_clearText_0 := rfl
theorem bq_Fair_fault_0 : ab_bl bt_Fair_fault 0 = bk_Fair_fault_0 := rfl
theorem bq_Fair_fault_9 : ab_bl bt_Fair_fault 9 = bk_Fair_fault_9 := rfl
theorem bq_Fair_fault_12 : ab_bl bt_Fair_fault 12 = bk_Fair_fault_12 := rfl
theorem bq_Fair_fault_44 : ab_bl bt_Fair_fault 44 = bk_Fair_fault_44 := rfl
theorem bq_Fair_fault_72 : ab_bl bt_Fair_fault 72 = bk_Fair_fault_72 := rfl
theorem bq_Fair_fault_80 : ab_bl bt_Fair_fault 80 = bk_Fair_fault_80 := rfl
theorem bq_Fair_fault_88 : ab_bl bt_Fair_fault 88 = bk_Fair_fault_88 := rfl
theorem bq_Fair_play_0 : ab_bl bt_Fair_play 0 = bk_Fair_play_0 := rfl
theorem bq_Fair_play_32 : ab_bl bt_Fair_play 32 = bk_Fair_play_32 := rfl
theorem bq_Fair_isCollector_0 : ab_bl bt_Fair_isCollector 0 = bk_Fair_isCollector_0 := rfl
theorem bq_Fair_isCollector_13 : ab_bl bt_Fair_isCollector 13 = bk_Fair_isCollector_13 := rfl
theorem bq_Fair_isCollector_14 : ab_bl bt_Fair_isCollector 14 = bk_Fair_isCollector_14 := rfl
theorem bq_Fair_isTheme_0 : ab_bl bt_Fair_isTheme 0 = bk_Fair_isTheme_0 := rfl
theorem bq_Fair_isTheme_13 : ab_bl bt_Fair_isTheme 13 = bk_Fair_isTheme_13 := rfl
theorem bq_Fair_isTheme_14 : ab_bl bt_Fair_isTheme 14 = bk_Fair_isTheme_14 := rfl
theorem bq_Fair_isSide_0 : ab_bl bt_Fair_isSide 0 = bk_Fair_isSide_0 := rfl
theorem bq_Fair_isSide_9 : ab_bl bt_Fair_isSide 9 = bk_Fair_isSide_9 := rfl
theorem bq_Fair_isSide_13 : ab_bl bt_Fair_isSide 13 = bk_Fair_isSide_13 := rfl
theorem bq_Fair_isSide_14 : ab_bl bt_Fair_isSide 14 = bk_Fair_isSide_14 := rfl
theorem bq_Fair_arePaid_0 : ab_bl bt_Fair_arePaid 0 = bk_Fair_arePaid_0 := rfl
theorem bq_Fair_arePaid_18 : ab_bl bt_Fair_arePaid 18 = bk_Fair_arePaid_18 := rfl
theorem bq_Fair_arePaid_19 : ab_bl bt_Fair_arePaid 19 = bk_Fair_arePaid_19 := rfl
theorem bq_Fair_bitsOf_0 : ab_bl bt_Fair_bitsOf 0 = bk_Fair_bitsOf_0 := rfl
theorem bq_Fair_bitsOf_8 : ab_bl bt_Fair_bitsOf 8 = bk_Fair_bitsOf_8 := rfl
theorem bq_Fair_bitsOf_35 : ab_bl bt_Fair_bitsOf 35 = bk_Fair_bitsOf_35 := rfl
theorem bq_Law_part_0 : ab_bl bt_Law_part 0 = bk_Law_part_0 := rfl
theorem bq_Law_drawn_0 : ab_bl bt_Law_drawn 0 = bk_Law_drawn_0 := rfl
theorem bq_Law_drawn_15 : ab_bl bt_Law_drawn 15 = bk_Law_drawn_15 := rfl
theorem bq_Law_drawn_39 : ab_bl bt_Law_drawn 39 = bk_Law_drawn_39 := rfl
theorem bq_Law_seen_0 : ab_bl bt_Law_seen 0 = bk_Law_seen_0 := rfl
theorem bq_Law_seen_6 : ab_bl bt_Law_seen 6 = bk_Law_seen_6 := rfl
theorem bq_Law_seen_31 : ab_bl bt_Law_seen 31 = bk_Law_seen_31 := rfl
theorem bq_Law_seen_33 : ab_bl bt_Law_seen 33 = bk_Law_seen_33 := rfl
theorem bq_Law_seen_65 : ab_bl bt_Law_seen 65 = bk_Law_seen_65 := rfl
theorem bq_Law_seen_67 : ab_bl bt_Law_seen 67 = bk_Law_seen_67 := rfl
theorem bq_Law_seen_102 : ab_bl bt_Law_seen 102 = bk_Law_seen_102 := rfl
theorem bq_Law_seen_104 : ab_bl bt_Law_seen 104 = bk_Law_seen_104 := rfl
theorem bq_Law_seen_137 : ab_bl bt_Law_seen 137 = bk_Law_seen_137 := rfl
theorem bq_Law_seen_177 : ab_bl bt_Law_seen 177 = bk_Law_seen_177 := rfl
theorem bq_Law_seen_183 : ab_bl bt_Law_seen 183 = bk_Law_seen_183 := rfl
theorem bq_Law_refusesAny_0 : ab_bl bt_Law_refusesAny 0 = bk_Law_refusesAny_0 := rfl
theorem bq_Law_refusesAny_8 : ab_bl bt_Law_refusesAny 8 = bk_Law_refusesAny_8 := rfl
theorem bq_Law_refusesAny_9 : ab_bl bt_Law_refusesAny 9 = bk_Law_refusesAny_9 := rfl
theorem bq_Law_refusesAny_18 : ab_bl bt_Law_refusesAny 18 = bk_Law_refusesAny_18 := rfl
theorem bq_Law_refusesAny_23 : ab_bl bt_Law_refusesAny 23 = bk_Law_refusesAny_23 := rfl
theorem bq_Law_refusesAny_32 : ab_bl bt_Law_refusesAny 32 = bk_Law_refusesAny_32 := rfl
theorem bq_Law_refusesAny_37 : ab_bl bt_Law_refusesAny 37 = bk_Law_refusesAny_37 := rfl
theorem bq_Law_refusesAny_47 : ab_bl bt_Law_refusesAny 47 = bk_Law_refusesAny_47 := rfl
theorem bq_Law_refusesAny_48 : ab_bl bt_Law_refusesAny 48 = bk_Law_refusesAny_48 := rfl
theorem bq_Law_refusesAny_60 : ab_bl bt_Law_refusesAny 60 = bk_Law_refusesAny_60 := rfl
theorem bq_Law_refusesAny_63 : ab_bl bt_Law_refusesAny 63 = bk_Law_refusesAny_63 := rfl
theorem bq_Law_refusesAny_74 : ab_bl bt_Law_refusesAny 74 = bk_Law_refusesAny_74 := rfl
theorem bq_Law_refusesAny_76 : ab_bl bt_Law_refusesAny 76 = bk_Law_refusesAny_76 := rfl
theorem bq_Law_refusesAny_240 : ab_bl bt_Law_refusesAny 240 = bk_Law_refusesAny_240 := rfl
theorem bq_Law_refusesAny_242 : ab_bl bt_Law_refusesAny 242 = bk_Law_refusesAny_242 := rfl
theorem bq_Law_refusesAny_325 : ab_bl bt_Law_refusesAny 325 = bk_Law_refusesAny_325 := rfl
theorem bq_Law_refusesAny_328 : ab_bl bt_Law_refusesAny 328 = bk_Law_refusesAny_328 := rfl
theorem bq_Law_refusesAny_373 : ab_bl bt_Law_refusesAny 373 = bk_Law_refusesAny_373 := rfl
theorem bq_Law_refusesAny_374 : ab_bl bt_Law_refusesAny 374 = bk_Law_refusesAny_374 := rfl
theorem bq_Law_refusesAny_404 : ab_bl bt_Law_refusesAny 404 = bk_Law_refusesAny_404 := rfl
theorem bq_Law_refusesAny_405 : ab_bl bt_Law_refusesAny 405 = bk_Law_refusesAny_405 := rfl
theorem bq_Law_refusesAny_447 : ab_bl bt_Law_refusesAny 447 = bk_Law_refusesAny_447 := rfl
theorem bq_Law_refusesAny_449 : ab_bl bt_Law_refusesAny 449 = bk_Law_refusesAny_449 := rfl
theorem bq_Law_refusesAny_470 : ab_bl bt_Law_refusesAny 470 = bk_Law_refusesAny_470 := rfl
theorem bq_Law_refusesAny_472 : ab_bl bt_Law_refusesAny 472 = bk_Law_refusesAny_472 := rfl
theorem bq_Law_refusesAny_501 : ab_bl bt_Law_refusesAny 501 = bk_Law_refusesAny_501 := rfl
theorem bq_Law_refusesAny_502 : ab_bl bt_Law_refusesAny 502 = bk_Law_refusesAny_502 := rfl
theorem bq_Law_refusesAny_609 : ab_bl bt_Law_refusesAny 609 = bk_Law_refusesAny_609 := rfl
theorem bq_Law_refusesAny_610 : ab_bl bt_Law_refusesAny 610 = bk_Law_refusesAny_610 := rfl
theorem bq_Law_refusesAny_659 : ab_bl bt_Law_refusesAny 659 = bk_Law_refusesAny_659 := rfl
theorem bq_Law_refusesAny_661 : ab_bl bt_Law_refusesAny 661 = bk_Law_refusesAny_661 := rfl
theorem bq_Law_refusesAny_679 : ab_bl bt_Law_refusesAny 679 = bk_Law_refusesAny_679 := rfl
theorem bq_Law_refusesAny_681 : ab_bl bt_Law_refusesAny 681 = bk_Law_refusesAny_681 := rfl
theorem bq_Law_refusesAny_698 : ab_bl bt_Law_refusesAny 698 = bk_Law_refusesAny_698 := rfl
theorem bq_Law_refusesAny_699 : ab_bl bt_Law_refusesAny 699 = bk_Law_refusesAny_699 := rfl
theorem bq_Law_refusesAny_711 : ab_bl bt_Law_refusesAny 711 = bk_Law_refusesAny_711 := rfl
theorem bq_Law_refusesAny_712 : ab_bl bt_Law_refusesAny 712 = bk_Law_refusesAny_712 := rfl
theorem bq_Law_refused_0 : ab_bl bt_Law_refused 0 = bk_Law_refused_0 := rfl
theorem bq_Law_refused_51 : ab_bl bt_Law_refused 51 = bk_Law_refused_51 := rfl
theorem bq_Law_refused_52 : ab_bl bt_Law_refused 52 = bk_Law_refused_52 := rfl
theorem bq_Law_books_0 : ab_bl bt_Law_books 0 = bk_Law_books_0 := rfl
theorem bq_Law_books_285 : ab_bl bt_Law_books 285 = bk_Law_books_285 := rfl
theorem bq_Law_books_287 : ab_bl bt_Law_books 287 = bk_Law_books_287 := rfl
theorem bq_Law_books_575 : ab_bl bt_Law_books 575 = bk_Law_books_575 := rfl
theorem bq_Law_books_577 : ab_bl bt_Law_books 577 = bk_Law_books_577 := rfl
theorem bq_Law_books_891 : ab_bl bt_Law_books 891 = bk_Law_books_891 := rfl
theorem bq_Law_books_893 : ab_bl bt_Law_books 893 = bk_Law_books_893 := rfl
theorem bq_Law_books_997 : ab_bl bt_Law_books 997 = bk_Law_books_997 := rfl
theorem bq_Law_books_999 : ab_bl bt_Law_books 999 = bk_Law_books_999 := rfl
theorem bq_Law_books_1001 : ab_bl bt_Law_books 1001 = bk_Law_books_1001 := rfl
theorem bq_Law_books_1020 : ab_bl bt_Law_books 1020 = bk_Law_books_1020 := rfl
theorem bq_Law_books_1026 : ab_bl bt_Law_books 1026 = bk_Law_books_1026 := rfl
theorem bq_Law_books_1084 : ab_bl bt_Law_books 1084 = bk_Law_books_1084 := rfl
theorem bq_Law_books_1086 : ab_bl bt_Law_books 1086 = bk_Law_books_1086 := rfl
theorem bq_Law_books_1088 : ab_bl bt_Law_books 1088 = bk_Law_books_1088 := rfl
theorem bq_Law_books_1106 : ab_bl bt_Law_books 1106 = bk_Law_books_1106 := rfl
theorem bq_Law_books_1112 : ab_bl bt_Law_books 1112 = bk_Law_books_1112 := rfl
theorem bq_Law_books_1156 : ab_bl bt_Law_books 1156 = bk_Law_books_1156 := rfl
theorem bq_Law_books_1157 : ab_bl bt_Law_books 1157 = bk_Law_books_1157 := rfl
theorem bq_Law_types_0 : ab_bl bt_Law_types 0 = bk_Law_types_0 := rfl
theorem bq_Law_types_6 : ab_bl bt_Law_types 6 = bk_Law_types_6 := rfl
theorem bq_Law_types_40 : ab_bl bt_Law_types 40 = bk_Law_types_40 := rfl
theorem bq_Law_types_44 : ab_bl bt_Law_types 44 = bk_Law_types_44 := rfl
theorem bq_Law_types_45 : ab_bl bt_Law_types 45 = bk_Law_types_45 := rfl
theorem bq_Law_types_52 : ab_bl bt_Law_types 52 = bk_Law_types_52 := rfl
theorem bq_Law_isFault_0 : ab_bl bt_Law_isFault 0 = bk_Law_isFault_0 := rfl
theorem bq_Law_isFault_27 : ab_bl bt_Law_isFault 27 = bk_Law_isFault_27 := rfl
theorem bq_Law_isFault_29 : ab_bl bt_Law_isFault 29 = bk_Law_isFault_29 := rfl
theorem bq_Law_isFault_95 : ab_bl bt_Law_isFault 95 = bk_Law_isFault_95 := rfl
theorem bq_Law_isFault_96 : ab_bl bt_Law_isFault 96 = bk_Law_isFault_96 := rfl
theorem bq_Law_texts_93 : ab_bl bt_Law_texts 93 = bk_Law_texts_93 := rfl
theorem bq_Law_texts_194 : ab_bl bt_Law_texts 194 = bk_Law_texts_194 := rfl
theorem bq_Law_texts_196 : ab_bl bt_Law_texts 196 = bk_Law_texts_196 := rfl
theorem bq_Law_texts_422 : ab_bl bt_Law_texts 422 = bk_Law_texts_422 := rfl
theorem bq_Law_texts_424 : ab_bl bt_Law_texts 424 = bk_Law_texts_424 := rfl
theorem bq_Law_texts_426 : ab_bl bt_Law_texts 426 = bk_Law_texts_426 := rfl
theorem bq_Law_texts_446 : ab_bl bt_Law_texts 446 = bk_Law_texts_446 := rfl
theorem bq_Law_texts_452 : ab_bl bt_Law_texts 452 = bk_Law_texts_452 := rfl
theorem bq_Law_texts_493 : ab_bl bt_Law_texts 493 = bk_Law_texts_493 := rfl
theorem bq_Law_texts_494 : ab_bl bt_Law_texts 494 = bk_Law_texts_494 := rfl
end
