/-! ===== rows that unfold the weakest precondition (printed by wip/p28/mkeval.py) ===== -/
theorem ev_rn {d k : Nat} {bt : List (Nat × List ab_O)} {stop : List Nat} {Q : Option Value → ab_H → Prop} {f pc n bc bs : Nat} {ls : List (Option Value)} {st : List Value} {h : ab_H} : ab_rn d k bt stop Q (f + 1) pc n bc bs ls st h = if pc ∈ stop then ab_W d k pc n bc bs ls st h Q else ab_wp d (ab_rn d k bt stop Q f) Q (ab_bl bt pc) n bc bs ls st h := rfl
theorem ev_iadd {d : Nat} {J : Nat → ab_K} {Q : Option Value → ab_H → Prop} {os : List ab_O} {n bc bs : Nat} {st : List Value} {h : ab_H} {ls : List (Option Value)} {len : Nat} {dt : List Nat} {v : Int} {x y : Int32} : ab_wp d J Q ((.iadd, len, dt, v) :: os) n bc bs ls (.int y :: .int x :: st) h = (ab_wp d J Q os n bc bs ls (.int (x + y) :: st) h) := rfl
theorem ev_isub {d : Nat} {J : Nat → ab_K} {Q : Option Value → ab_H → Prop} {os : List ab_O} {n bc bs : Nat} {st : List Value} {h : ab_H} {ls : List (Option Value)} {len : Nat} {dt : List Nat} {v : Int} {x y : Int32} : ab_wp d J Q ((.isub, len, dt, v) :: os) n bc bs ls (.int y :: .int x :: st) h = (ab_wp d J Q os n bc bs ls (.int (x - y) :: st) h) := rfl
theorem ev_imul {d : Nat} {J : Nat → ab_K} {Q : Option Value → ab_H → Prop} {os : List ab_O} {n bc bs : Nat} {st : List Value} {h : ab_H} {ls : List (Option Value)} {len : Nat} {dt : List Nat} {v : Int} {x y : Int32} : ab_wp d J Q ((.imul, len, dt, v) :: os) n bc bs ls (.int y :: .int x :: st) h = (ab_wp d J Q os n bc bs ls (.int (x * y) :: st) h) := rfl
theorem ev_iand {d : Nat} {J : Nat → ab_K} {Q : Option Value → ab_H → Prop} {os : List ab_O} {n bc bs : Nat} {st : List Value} {h : ab_H} {ls : List (Option Value)} {len : Nat} {dt : List Nat} {v : Int} {x y : Int32} : ab_wp d J Q ((.iand, len, dt, v) :: os) n bc bs ls (.int y :: .int x :: st) h = (ab_wp d J Q os n bc bs ls (.int (x &&& y) :: st) h) := rfl
theorem ev_ior {d : Nat} {J : Nat → ab_K} {Q : Option Value → ab_H → Prop} {os : List ab_O} {n bc bs : Nat} {st : List Value} {h : ab_H} {ls : List (Option Value)} {len : Nat} {dt : List Nat} {v : Int} {x y : Int32} : ab_wp d J Q ((.ior, len, dt, v) :: os) n bc bs ls (.int y :: .int x :: st) h = (ab_wp d J Q os n bc bs ls (.int (x ||| y) :: st) h) := rfl
theorem ev_ixor {d : Nat} {J : Nat → ab_K} {Q : Option Value → ab_H → Prop} {os : List ab_O} {n bc bs : Nat} {st : List Value} {h : ab_H} {ls : List (Option Value)} {len : Nat} {dt : List Nat} {v : Int} {x y : Int32} : ab_wp d J Q ((.ixor, len, dt, v) :: os) n bc bs ls (.int y :: .int x :: st) h = (ab_wp d J Q os n bc bs ls (.int (x ^^^ y) :: st) h) := rfl
theorem ev_ishl {d : Nat} {J : Nat → ab_K} {Q : Option Value → ab_H → Prop} {os : List ab_O} {n bc bs : Nat} {st : List Value} {h : ab_H} {ls : List (Option Value)} {len : Nat} {dt : List Nat} {v : Int} {x y : Int32} : ab_wp d J Q ((.ishl, len, dt, v) :: os) n bc bs ls (.int y :: .int x :: st) h = (ab_wp d J Q os n bc bs ls (.int (x <<< (y &&& 31)) :: st) h) := rfl
theorem ev_ishr {d : Nat} {J : Nat → ab_K} {Q : Option Value → ab_H → Prop} {os : List ab_O} {n bc bs : Nat} {st : List Value} {h : ab_H} {ls : List (Option Value)} {len : Nat} {dt : List Nat} {v : Int} {x y : Int32} : ab_wp d J Q ((.ishr, len, dt, v) :: os) n bc bs ls (.int y :: .int x :: st) h = (ab_wp d J Q os n bc bs ls (.int (x >>> (y &&& 31)) :: st) h) := rfl
theorem ev_iushr {d : Nat} {J : Nat → ab_K} {Q : Option Value → ab_H → Prop} {os : List ab_O} {n bc bs : Nat} {st : List Value} {h : ab_H} {ls : List (Option Value)} {len : Nat} {dt : List Nat} {v : Int} {x y : Int32} : ab_wp d J Q ((.iushr, len, dt, v) :: os) n bc bs ls (.int y :: .int x :: st) h = (ab_wp d J Q os n bc bs ls (.int ((x.toUInt32 >>> (y.toUInt32 &&& Int32.toUInt32 31)).toInt32) :: st) h) := rfl
theorem ev_idiv {d : Nat} {J : Nat → ab_K} {Q : Option Value → ab_H → Prop} {os : List ab_O} {n bc bs : Nat} {st : List Value} {h : ab_H} {ls : List (Option Value)} {len : Nat} {dt : List Nat} {v : Int} {x y : Int32} : ab_wp d J Q ((.idiv, len, dt, v) :: os) n bc bs ls (.int y :: .int x :: st) h = (¬ y = 0 ∧ ab_wp d J Q os n bc bs ls (.int (x / y) :: st) h) := rfl
theorem ev_irem {d : Nat} {J : Nat → ab_K} {Q : Option Value → ab_H → Prop} {os : List ab_O} {n bc bs : Nat} {st : List Value} {h : ab_H} {ls : List (Option Value)} {len : Nat} {dt : List Nat} {v : Int} {x y : Int32} : ab_wp d J Q ((.irem, len, dt, v) :: os) n bc bs ls (.int y :: .int x :: st) h = (¬ y = 0 ∧ ab_wp d J Q os n bc bs ls (.int (x - x / y * y) :: st) h) := rfl
theorem ev_ineg {d : Nat} {J : Nat → ab_K} {Q : Option Value → ab_H → Prop} {os : List ab_O} {n bc bs : Nat} {st : List Value} {h : ab_H} {ls : List (Option Value)} {len : Nat} {dt : List Nat} {v : Int} {x : Int32} : ab_wp d J Q ((.ineg, len, dt, v) :: os) n bc bs ls (.int x :: st) h = (ab_wp d J Q os n bc bs ls (.int (-x) :: st) h) := rfl
theorem ev_i2f {d : Nat} {J : Nat → ab_K} {Q : Option Value → ab_H → Prop} {os : List ab_O} {n bc bs : Nat} {st : List Value} {h : ab_H} {ls : List (Option Value)} {len : Nat} {dt : List Nat} {v : Int} {x : Int32} : ab_wp d J Q ((.i2f, len, dt, v) :: os) n bc bs ls (.int x :: st) h = (ab_wp d J Q os n bc bs ls (.float (FP.i2f x) :: st) h) := rfl
theorem ev_fdiv {d : Nat} {J : Nat → ab_K} {Q : Option Value → ab_H → Prop} {os : List ab_O} {n bc bs : Nat} {st : List Value} {h : ab_H} {ls : List (Option Value)} {len : Nat} {dt : List Nat} {v : Int} {x y : UInt32} : ab_wp d J Q ((.fdiv, len, dt, v) :: os) n bc bs ls (.float y :: .float x :: st) h = (vf_n32 (FP.fdiv x y) ∧ ab_wp d J Q os n bc bs ls (.float (FP.fdiv x y) :: st) h) := rfl
theorem ev_fmul {d : Nat} {J : Nat → ab_K} {Q : Option Value → ab_H → Prop} {os : List ab_O} {n bc bs : Nat} {st : List Value} {h : ab_H} {ls : List (Option Value)} {len : Nat} {dt : List Nat} {v : Int} {x y : UInt32} : ab_wp d J Q ((.fmul, len, dt, v) :: os) n bc bs ls (.float y :: .float x :: st) h = (vf_n32 (FP.fmul x y) ∧ ab_wp d J Q os n bc bs ls (.float (FP.fmul x y) :: st) h) := rfl
theorem ev_f2i {d : Nat} {J : Nat → ab_K} {Q : Option Value → ab_H → Prop} {os : List ab_O} {n bc bs : Nat} {st : List Value} {h : ab_H} {ls : List (Option Value)} {len : Nat} {dt : List Nat} {v : Int} {x : UInt32} : ab_wp d J Q ((.f2i, len, dt, v) :: os) n bc bs ls (.float x :: st) h = (ab_wp d J Q os n bc bs ls (.int (FP.f2i x) :: st) h) := rfl
theorem ev_fcmp {d : Nat} {J : Nat → ab_K} {Q : Option Value → ab_H → Prop} {os : List ab_O} {n bc bs : Nat} {st : List Value} {h : ab_H} {ls : List (Option Value)} {len : Nat} {dt : List Nat} {v : Int} {x y : UInt32} {op : CmpOp} : ab_wp d J Q (((.fcmp op), len, dt, v) :: os) n bc bs ls (.float y :: .float x :: st) h = (ab_wp d J Q os n bc bs ls (.int (Op.cmpValue (FP.fcmp x y) op) :: st) h) := rfl
theorem ev_fconst {d : Nat} {J : Nat → ab_K} {Q : Option Value → ab_H → Prop} {os : List ab_O} {n bc bs : Nat} {st : List Value} {h : ab_H} {ls : List (Option Value)} {len : Nat} {dt : List Nat} {v : Int} {f : Fin 3} : ab_wp d J Q (((.fconst f), len, dt, v) :: os) n bc bs ls st h = (ab_wp d J Q os n bc bs ls (.float FP.fconst2 :: st) h) := rfl
theorem ev_lconst {d : Nat} {J : Nat → ab_K} {Q : Option Value → ab_H → Prop} {os : List ab_O} {n bc bs : Nat} {st : List Value} {h : ab_H} {ls : List (Option Value)} {len : Nat} {dt : List Nat} {v : Int} {i : Fin 2} : ab_wp d J Q (((.lconst i), len, dt, v) :: os) n bc bs ls st h = (ab_wp d J Q os n bc bs ls (.long (Int64.ofInt v) :: st) h) := rfl
theorem ev_ldc2_w {d : Nat} {J : Nat → ab_K} {Q : Option Value → ab_H → Prop} {os : List ab_O} {n bc bs : Nat} {st : List Value} {h : ab_H} {ls : List (Option Value)} {len : Nat} {dt : List Nat} {v : Int} {i : Nat} : ab_wp d J Q (((.ldc2_w i), len, dt, v) :: os) n bc bs ls st h = (ab_wp d J Q os n bc bs ls (.long (Int64.ofInt v) :: st) h) := rfl
theorem ev_ladd {d : Nat} {J : Nat → ab_K} {Q : Option Value → ab_H → Prop} {os : List ab_O} {n bc bs : Nat} {st : List Value} {h : ab_H} {ls : List (Option Value)} {len : Nat} {dt : List Nat} {v : Int} {x y : Int64} : ab_wp d J Q ((.ladd, len, dt, v) :: os) n bc bs ls (.long y :: .long x :: st) h = (ab_wp d J Q os n bc bs ls (.long (x + y) :: st) h) := rfl
theorem ev_lmul {d : Nat} {J : Nat → ab_K} {Q : Option Value → ab_H → Prop} {os : List ab_O} {n bc bs : Nat} {st : List Value} {h : ab_H} {ls : List (Option Value)} {len : Nat} {dt : List Nat} {v : Int} {x y : Int64} : ab_wp d J Q ((.lmul, len, dt, v) :: os) n bc bs ls (.long y :: .long x :: st) h = (ab_wp d J Q os n bc bs ls (.long (x * y) :: st) h) := rfl
theorem ev_land {d : Nat} {J : Nat → ab_K} {Q : Option Value → ab_H → Prop} {os : List ab_O} {n bc bs : Nat} {st : List Value} {h : ab_H} {ls : List (Option Value)} {len : Nat} {dt : List Nat} {v : Int} {x y : Int64} : ab_wp d J Q ((.land, len, dt, v) :: os) n bc bs ls (.long y :: .long x :: st) h = (ab_wp d J Q os n bc bs ls (.long (x &&& y) :: st) h) := rfl
theorem ev_lcmp {d : Nat} {J : Nat → ab_K} {Q : Option Value → ab_H → Prop} {os : List ab_O} {n bc bs : Nat} {st : List Value} {h : ab_H} {ls : List (Option Value)} {len : Nat} {dt : List Nat} {v : Int} {x y : Int64} : ab_wp d J Q ((.lcmp, len, dt, v) :: os) n bc bs ls (.long y :: .long x :: st) h = (ab_wp d J Q os n bc bs ls (.int (lg_cmp x y) :: st) h) := rfl
theorem ev_lshr {d : Nat} {J : Nat → ab_K} {Q : Option Value → ab_H → Prop} {os : List ab_O} {n bc bs : Nat} {st : List Value} {h : ab_H} {ls : List (Option Value)} {len : Nat} {dt : List Nat} {v : Int} {x : Int64} {y : Int32} : ab_wp d J Q ((.lshr, len, dt, v) :: os) n bc bs ls (.int y :: .long x :: st) h = (ab_wp d J Q os n bc bs ls (.long (x >>> (y.toInt64 &&& 63)) :: st) h) := rfl
theorem ev_i2l {d : Nat} {J : Nat → ab_K} {Q : Option Value → ab_H → Prop} {os : List ab_O} {n bc bs : Nat} {st : List Value} {h : ab_H} {ls : List (Option Value)} {len : Nat} {dt : List Nat} {v : Int} {x : Int32} : ab_wp d J Q ((.i2l, len, dt, v) :: os) n bc bs ls (.int x :: st) h = (ab_wp d J Q os n bc bs ls (.long x.toInt64 :: st) h) := rfl
theorem ev_l2i {d : Nat} {J : Nat → ab_K} {Q : Option Value → ab_H → Prop} {os : List ab_O} {n bc bs : Nat} {st : List Value} {h : ab_H} {ls : List (Option Value)} {len : Nat} {dt : List Nat} {v : Int} {x : Int64} : ab_wp d J Q ((.l2i, len, dt, v) :: os) n bc bs ls (.long x :: st) h = (ab_wp d J Q os n bc bs ls (.int x.toInt32 :: st) h) := rfl
theorem ev_lreturn {d : Nat} {J : Nat → ab_K} {Q : Option Value → ab_H → Prop} {os : List ab_O} {n bc bs : Nat} {h : ab_H} {ls : List (Option Value)} {len : Nat} {dt : List Nat} {v : Int} {x : Int64} : ab_wp d J Q ((.lreturn, len, dt, v) :: os) n bc bs ls [.long x] h = (bc = 0 ∧ Q (some (.long x)) h) := rfl
theorem ev_lload_0 {d : Nat} {J : Nat → ab_K} {Q : Option Value → ab_H → Prop} {os : List ab_O} {n bc bs : Nat} {st : List Value} {h : ab_H} {ls : List (Option Value)} {len : Nat} {v : Int} {x : Int64} {j : Fin 4} : ab_wp d J Q (((.lload_n j), len, [0], v) :: os) n bc bs (some (.long x) :: ls) st h = (ab_wp d J Q os n bc bs (some (.long x) :: ls) (.long x :: st) h) := rfl
theorem ev_lstore_0 {d : Nat} {J : Nat → ab_K} {Q : Option Value → ab_H → Prop} {os : List ab_O} {n bc bs : Nat} {st : List Value} {h : ab_H} {ls : List (Option Value)} {a b : Option Value} {len : Nat} {v : Int} {x : Int64} {j : Fin 4} : ab_wp d J Q (((.lstore_n j), len, [0], v) :: os) n bc bs (a :: b :: ls) (.long x :: st) h = (ab_wp d J Q os n bc bs (some (.long x) :: none :: ls) st h) := rfl
theorem ev_lload_1 {d : Nat} {J : Nat → ab_K} {Q : Option Value → ab_H → Prop} {os : List ab_O} {n bc bs : Nat} {st : List Value} {h : ab_H} {ls : List (Option Value)} {a0 : Option Value} {len : Nat} {v : Int} {x : Int64} {j : Fin 4} : ab_wp d J Q (((.lload_n j), len, [1], v) :: os) n bc bs (a0 :: some (.long x) :: ls) st h = (ab_wp d J Q os n bc bs (a0 :: some (.long x) :: ls) (.long x :: st) h) := rfl
theorem ev_lstore_1 {d : Nat} {J : Nat → ab_K} {Q : Option Value → ab_H → Prop} {os : List ab_O} {n bc bs : Nat} {st : List Value} {h : ab_H} {ls : List (Option Value)} {a0 : Option Value} {a b : Option Value} {len : Nat} {v : Int} {x : Int64} {j : Fin 4} : ab_wp d J Q (((.lstore_n j), len, [1], v) :: os) n bc bs (a0 :: a :: b :: ls) (.long x :: st) h = (ab_wp d J Q os n bc bs (a0 :: some (.long x) :: none :: ls) st h) := rfl
theorem ev_lload_2 {d : Nat} {J : Nat → ab_K} {Q : Option Value → ab_H → Prop} {os : List ab_O} {n bc bs : Nat} {st : List Value} {h : ab_H} {ls : List (Option Value)} {a0 a1 : Option Value} {len : Nat} {v : Int} {x : Int64} {j : Fin 4} : ab_wp d J Q (((.lload_n j), len, [2], v) :: os) n bc bs (a0 :: a1 :: some (.long x) :: ls) st h = (ab_wp d J Q os n bc bs (a0 :: a1 :: some (.long x) :: ls) (.long x :: st) h) := rfl
theorem ev_lstore_2 {d : Nat} {J : Nat → ab_K} {Q : Option Value → ab_H → Prop} {os : List ab_O} {n bc bs : Nat} {st : List Value} {h : ab_H} {ls : List (Option Value)} {a0 a1 : Option Value} {a b : Option Value} {len : Nat} {v : Int} {x : Int64} {j : Fin 4} : ab_wp d J Q (((.lstore_n j), len, [2], v) :: os) n bc bs (a0 :: a1 :: a :: b :: ls) (.long x :: st) h = (ab_wp d J Q os n bc bs (a0 :: a1 :: some (.long x) :: none :: ls) st h) := rfl
theorem ev_lload_3 {d : Nat} {J : Nat → ab_K} {Q : Option Value → ab_H → Prop} {os : List ab_O} {n bc bs : Nat} {st : List Value} {h : ab_H} {ls : List (Option Value)} {a0 a1 a2 : Option Value} {len : Nat} {v : Int} {x : Int64} {j : Fin 4} : ab_wp d J Q (((.lload_n j), len, [3], v) :: os) n bc bs (a0 :: a1 :: a2 :: some (.long x) :: ls) st h = (ab_wp d J Q os n bc bs (a0 :: a1 :: a2 :: some (.long x) :: ls) (.long x :: st) h) := rfl
theorem ev_lstore_3 {d : Nat} {J : Nat → ab_K} {Q : Option Value → ab_H → Prop} {os : List ab_O} {n bc bs : Nat} {st : List Value} {h : ab_H} {ls : List (Option Value)} {a0 a1 a2 : Option Value} {a b : Option Value} {len : Nat} {v : Int} {x : Int64} {j : Fin 4} : ab_wp d J Q (((.lstore_n j), len, [3], v) :: os) n bc bs (a0 :: a1 :: a2 :: a :: b :: ls) (.long x :: st) h = (ab_wp d J Q os n bc bs (a0 :: a1 :: a2 :: some (.long x) :: none :: ls) st h) := rfl
theorem ev_aconst_null {d : Nat} {J : Nat → ab_K} {Q : Option Value → ab_H → Prop} {os : List ab_O} {n bc bs : Nat} {st : List Value} {h : ab_H} {ls : List (Option Value)} {len : Nat} {dt : List Nat} {v : Int} : ab_wp d J Q ((.aconst_null, len, dt, v) :: os) n bc bs ls st h = (ab_wp d J Q os n bc bs ls (.null :: st) h) := rfl
theorem ev_iconst {d : Nat} {J : Nat → ab_K} {Q : Option Value → ab_H → Prop} {os : List ab_O} {n bc bs : Nat} {st : List Value} {h : ab_H} {ls : List (Option Value)} {len : Nat} {dt : List Nat} {v : Int} {i : Int} : ab_wp d J Q (((.iconst i), len, dt, v) :: os) n bc bs ls st h = (ab_wp d J Q os n bc bs ls (.int (Int32.ofInt v) :: st) h) := rfl
theorem ev_bipush {d : Nat} {J : Nat → ab_K} {Q : Option Value → ab_H → Prop} {os : List ab_O} {n bc bs : Nat} {st : List Value} {h : ab_H} {ls : List (Option Value)} {len : Nat} {dt : List Nat} {v : Int} {i : Int} : ab_wp d J Q (((.bipush i), len, dt, v) :: os) n bc bs ls st h = (ab_wp d J Q os n bc bs ls (.int (Int32.ofInt v) :: st) h) := rfl
theorem ev_sipush {d : Nat} {J : Nat → ab_K} {Q : Option Value → ab_H → Prop} {os : List ab_O} {n bc bs : Nat} {st : List Value} {h : ab_H} {ls : List (Option Value)} {len : Nat} {dt : List Nat} {v : Int} {i : Int} : ab_wp d J Q (((.sipush i), len, dt, v) :: os) n bc bs ls st h = (ab_wp d J Q os n bc bs ls (.int (Int32.ofInt v) :: st) h) := rfl
theorem ev_ldc {d : Nat} {J : Nat → ab_K} {Q : Option Value → ab_H → Prop} {os : List ab_O} {n bc bs : Nat} {st : List Value} {h : ab_H} {ls : List (Option Value)} {len p i : Nat} {v : Int} : ab_wp d J Q (((.ldc i), len, [p], v) :: os) n bc bs ls st h = (ab_wp d J Q os n bc bs ls (.int (Int32.ofInt v) :: st) h) := rfl
theorem ev_ldc_f {d : Nat} {J : Nat → ab_K} {Q : Option Value → ab_H → Prop} {os : List ab_O} {n bc bs : Nat} {st : List Value} {h : ab_H} {ls : List (Option Value)} {len p i : Nat} {v : Int} : ab_wp d J Q (((.ldc i), len, [p, 1], v) :: os) n bc bs ls st h = (ab_wp d J Q os n bc bs ls (.float (UInt32.ofNat v.toNat) :: st) h) := rfl
theorem ev_ldc_w {d : Nat} {J : Nat → ab_K} {Q : Option Value → ab_H → Prop} {os : List ab_O} {n bc bs : Nat} {st : List Value} {h : ab_H} {ls : List (Option Value)} {len p i : Nat} {v : Int} : ab_wp d J Q (((.ldc_w i), len, [p], v) :: os) n bc bs ls st h = (ab_wp d J Q os n bc bs ls (.int (Int32.ofInt v) :: st) h) := rfl
theorem ev_ldc_w_f {d : Nat} {J : Nat → ab_K} {Q : Option Value → ab_H → Prop} {os : List ab_O} {n bc bs : Nat} {st : List Value} {h : ab_H} {ls : List (Option Value)} {len p i : Nat} {v : Int} : ab_wp d J Q (((.ldc_w i), len, [p, 1], v) :: os) n bc bs ls st h = (ab_wp d J Q os n bc bs ls (.float (UInt32.ofNat v.toNat) :: st) h) := rfl
theorem ev_iload_0 {d : Nat} {J : Nat → ab_K} {Q : Option Value → ab_H → Prop} {os : List ab_O} {n bc bs : Nat} {st : List Value} {h : ab_H} {ls : List (Option Value)} {len : Nat} {v : Int} {x : Int32} {j : Fin 4} : ab_wp d J Q (((.iload_n j), len, [0], v) :: os) n bc bs (some (.int x) :: ls) st h = (ab_wp d J Q os n bc bs (some (.int x) :: ls) (.int x :: st) h) := rfl
theorem ev_fload_0 {d : Nat} {J : Nat → ab_K} {Q : Option Value → ab_H → Prop} {os : List ab_O} {n bc bs : Nat} {st : List Value} {h : ab_H} {ls : List (Option Value)} {len : Nat} {v : Int} {x : UInt32} {j : Fin 4} : ab_wp d J Q (((.fload_n j), len, [0], v) :: os) n bc bs (some (.float x) :: ls) st h = (ab_wp d J Q os n bc bs (some (.float x) :: ls) (.float x :: st) h) := rfl
theorem ev_aload_0 {d : Nat} {J : Nat → ab_K} {Q : Option Value → ab_H → Prop} {os : List ab_O} {n bc bs : Nat} {st : List Value} {h : ab_H} {ls : List (Option Value)} {len : Nat} {v : Int} {x : Nat} {j : Fin 4} : ab_wp d J Q (((.aload_n j), len, [0], v) :: os) n bc bs (some (.ref x) :: ls) st h = (ab_wp d J Q os n bc bs (some (.ref x) :: ls) (.ref x :: st) h) := rfl
theorem ev_aload_0N {d : Nat} {J : Nat → ab_K} {Q : Option Value → ab_H → Prop} {os : List ab_O} {n bc bs : Nat} {st : List Value} {h : ab_H} {ls : List (Option Value)} {len : Nat} {v : Int} {j : Fin 4} : ab_wp d J Q (((.aload_n j), len, [0], v) :: os) n bc bs (some (.null) :: ls) st h = (ab_wp d J Q os n bc bs (some (.null) :: ls) (.null :: st) h) := rfl
theorem ev_istore_0 {d : Nat} {J : Nat → ab_K} {Q : Option Value → ab_H → Prop} {os : List ab_O} {n bc bs : Nat} {st : List Value} {h : ab_H} {ls : List (Option Value)} {a : Option Value} {len : Nat} {v : Int} {x : Int32} {j : Fin 4} : ab_wp d J Q (((.istore_n j), len, [0], v) :: os) n bc bs (a :: ls) (.int x :: st) h = (ab_wp d J Q os n bc bs (some (.int x) :: ls) st h) := rfl
theorem ev_fstore_0 {d : Nat} {J : Nat → ab_K} {Q : Option Value → ab_H → Prop} {os : List ab_O} {n bc bs : Nat} {st : List Value} {h : ab_H} {ls : List (Option Value)} {a : Option Value} {len : Nat} {v : Int} {x : UInt32} {j : Fin 4} : ab_wp d J Q (((.fstore_n j), len, [0], v) :: os) n bc bs (a :: ls) (.float x :: st) h = (ab_wp d J Q os n bc bs (some (.float x) :: ls) st h) := rfl
theorem ev_astore_0 {d : Nat} {J : Nat → ab_K} {Q : Option Value → ab_H → Prop} {os : List ab_O} {n bc bs : Nat} {st : List Value} {h : ab_H} {ls : List (Option Value)} {a : Option Value} {len : Nat} {v : Int} {x : Nat} {j : Fin 4} : ab_wp d J Q (((.astore_n j), len, [0], v) :: os) n bc bs (a :: ls) (.ref x :: st) h = (ab_wp d J Q os n bc bs (some (.ref x) :: ls) st h) := rfl
theorem ev_astore_0N {d : Nat} {J : Nat → ab_K} {Q : Option Value → ab_H → Prop} {os : List ab_O} {n bc bs : Nat} {st : List Value} {h : ab_H} {ls : List (Option Value)} {a : Option Value} {len : Nat} {v : Int} {j : Fin 4} : ab_wp d J Q (((.astore_n j), len, [0], v) :: os) n bc bs (a :: ls) (.null :: st) h = (ab_wp d J Q os n bc bs (some (.null) :: ls) st h) := rfl
theorem ev_iinc_0 {d : Nat} {J : Nat → ab_K} {Q : Option Value → ab_H → Prop} {os : List ab_O} {n bc bs : Nat} {st : List Value} {h : ab_H} {ls : List (Option Value)} {len j : Nat} {c v : Int} {x : Int32} : ab_wp d J Q (((.iinc j c), len, [0], v) :: os) n bc bs (some (.int x) :: ls) st h = (ab_wp d J Q os n bc bs (some (.int (x + Int32.ofInt v)) :: ls) st h) := rfl
theorem ev_iload_1 {d : Nat} {J : Nat → ab_K} {Q : Option Value → ab_H → Prop} {os : List ab_O} {n bc bs : Nat} {st : List Value} {h : ab_H} {ls : List (Option Value)} {a0 : Option Value} {len : Nat} {v : Int} {x : Int32} {j : Fin 4} : ab_wp d J Q (((.iload_n j), len, [1], v) :: os) n bc bs (a0 :: some (.int x) :: ls) st h = (ab_wp d J Q os n bc bs (a0 :: some (.int x) :: ls) (.int x :: st) h) := rfl
theorem ev_fload_1 {d : Nat} {J : Nat → ab_K} {Q : Option Value → ab_H → Prop} {os : List ab_O} {n bc bs : Nat} {st : List Value} {h : ab_H} {ls : List (Option Value)} {a0 : Option Value} {len : Nat} {v : Int} {x : UInt32} {j : Fin 4} : ab_wp d J Q (((.fload_n j), len, [1], v) :: os) n bc bs (a0 :: some (.float x) :: ls) st h = (ab_wp d J Q os n bc bs (a0 :: some (.float x) :: ls) (.float x :: st) h) := rfl
theorem ev_aload_1 {d : Nat} {J : Nat → ab_K} {Q : Option Value → ab_H → Prop} {os : List ab_O} {n bc bs : Nat} {st : List Value} {h : ab_H} {ls : List (Option Value)} {a0 : Option Value} {len : Nat} {v : Int} {x : Nat} {j : Fin 4} : ab_wp d J Q (((.aload_n j), len, [1], v) :: os) n bc bs (a0 :: some (.ref x) :: ls) st h = (ab_wp d J Q os n bc bs (a0 :: some (.ref x) :: ls) (.ref x :: st) h) := rfl
theorem ev_aload_1N {d : Nat} {J : Nat → ab_K} {Q : Option Value → ab_H → Prop} {os : List ab_O} {n bc bs : Nat} {st : List Value} {h : ab_H} {ls : List (Option Value)} {a0 : Option Value} {len : Nat} {v : Int} {j : Fin 4} : ab_wp d J Q (((.aload_n j), len, [1], v) :: os) n bc bs (a0 :: some (.null) :: ls) st h = (ab_wp d J Q os n bc bs (a0 :: some (.null) :: ls) (.null :: st) h) := rfl
theorem ev_istore_1 {d : Nat} {J : Nat → ab_K} {Q : Option Value → ab_H → Prop} {os : List ab_O} {n bc bs : Nat} {st : List Value} {h : ab_H} {ls : List (Option Value)} {a0 : Option Value} {a : Option Value} {len : Nat} {v : Int} {x : Int32} {j : Fin 4} : ab_wp d J Q (((.istore_n j), len, [1], v) :: os) n bc bs (a0 :: a :: ls) (.int x :: st) h = (ab_wp d J Q os n bc bs (a0 :: some (.int x) :: ls) st h) := rfl
theorem ev_fstore_1 {d : Nat} {J : Nat → ab_K} {Q : Option Value → ab_H → Prop} {os : List ab_O} {n bc bs : Nat} {st : List Value} {h : ab_H} {ls : List (Option Value)} {a0 : Option Value} {a : Option Value} {len : Nat} {v : Int} {x : UInt32} {j : Fin 4} : ab_wp d J Q (((.fstore_n j), len, [1], v) :: os) n bc bs (a0 :: a :: ls) (.float x :: st) h = (ab_wp d J Q os n bc bs (a0 :: some (.float x) :: ls) st h) := rfl
theorem ev_astore_1 {d : Nat} {J : Nat → ab_K} {Q : Option Value → ab_H → Prop} {os : List ab_O} {n bc bs : Nat} {st : List Value} {h : ab_H} {ls : List (Option Value)} {a0 : Option Value} {a : Option Value} {len : Nat} {v : Int} {x : Nat} {j : Fin 4} : ab_wp d J Q (((.astore_n j), len, [1], v) :: os) n bc bs (a0 :: a :: ls) (.ref x :: st) h = (ab_wp d J Q os n bc bs (a0 :: some (.ref x) :: ls) st h) := rfl
theorem ev_astore_1N {d : Nat} {J : Nat → ab_K} {Q : Option Value → ab_H → Prop} {os : List ab_O} {n bc bs : Nat} {st : List Value} {h : ab_H} {ls : List (Option Value)} {a0 : Option Value} {a : Option Value} {len : Nat} {v : Int} {j : Fin 4} : ab_wp d J Q (((.astore_n j), len, [1], v) :: os) n bc bs (a0 :: a :: ls) (.null :: st) h = (ab_wp d J Q os n bc bs (a0 :: some (.null) :: ls) st h) := rfl
theorem ev_iinc_1 {d : Nat} {J : Nat → ab_K} {Q : Option Value → ab_H → Prop} {os : List ab_O} {n bc bs : Nat} {st : List Value} {h : ab_H} {ls : List (Option Value)} {a0 : Option Value} {len j : Nat} {c v : Int} {x : Int32} : ab_wp d J Q (((.iinc j c), len, [1], v) :: os) n bc bs (a0 :: some (.int x) :: ls) st h = (ab_wp d J Q os n bc bs (a0 :: some (.int (x + Int32.ofInt v)) :: ls) st h) := rfl
theorem ev_iload_2 {d : Nat} {J : Nat → ab_K} {Q : Option Value → ab_H → Prop} {os : List ab_O} {n bc bs : Nat} {st : List Value} {h : ab_H} {ls : List (Option Value)} {a0 a1 : Option Value} {len : Nat} {v : Int} {x : Int32} {j : Fin 4} : ab_wp d J Q (((.iload_n j), len, [2], v) :: os) n bc bs (a0 :: a1 :: some (.int x) :: ls) st h = (ab_wp d J Q os n bc bs (a0 :: a1 :: some (.int x) :: ls) (.int x :: st) h) := rfl
theorem ev_fload_2 {d : Nat} {J : Nat → ab_K} {Q : Option Value → ab_H → Prop} {os : List ab_O} {n bc bs : Nat} {st : List Value} {h : ab_H} {ls : List (Option Value)} {a0 a1 : Option Value} {len : Nat} {v : Int} {x : UInt32} {j : Fin 4} : ab_wp d J Q (((.fload_n j), len, [2], v) :: os) n bc bs (a0 :: a1 :: some (.float x) :: ls) st h = (ab_wp d J Q os n bc bs (a0 :: a1 :: some (.float x) :: ls) (.float x :: st) h) := rfl
theorem ev_aload_2 {d : Nat} {J : Nat → ab_K} {Q : Option Value → ab_H → Prop} {os : List ab_O} {n bc bs : Nat} {st : List Value} {h : ab_H} {ls : List (Option Value)} {a0 a1 : Option Value} {len : Nat} {v : Int} {x : Nat} {j : Fin 4} : ab_wp d J Q (((.aload_n j), len, [2], v) :: os) n bc bs (a0 :: a1 :: some (.ref x) :: ls) st h = (ab_wp d J Q os n bc bs (a0 :: a1 :: some (.ref x) :: ls) (.ref x :: st) h) := rfl
theorem ev_aload_2N {d : Nat} {J : Nat → ab_K} {Q : Option Value → ab_H → Prop} {os : List ab_O} {n bc bs : Nat} {st : List Value} {h : ab_H} {ls : List (Option Value)} {a0 a1 : Option Value} {len : Nat} {v : Int} {j : Fin 4} : ab_wp d J Q (((.aload_n j), len, [2], v) :: os) n bc bs (a0 :: a1 :: some (.null) :: ls) st h = (ab_wp d J Q os n bc bs (a0 :: a1 :: some (.null) :: ls) (.null :: st) h) := rfl
theorem ev_istore_2 {d : Nat} {J : Nat → ab_K} {Q : Option Value → ab_H → Prop} {os : List ab_O} {n bc bs : Nat} {st : List Value} {h : ab_H} {ls : List (Option Value)} {a0 a1 : Option Value} {a : Option Value} {len : Nat} {v : Int} {x : Int32} {j : Fin 4} : ab_wp d J Q (((.istore_n j), len, [2], v) :: os) n bc bs (a0 :: a1 :: a :: ls) (.int x :: st) h = (ab_wp d J Q os n bc bs (a0 :: a1 :: some (.int x) :: ls) st h) := rfl
theorem ev_fstore_2 {d : Nat} {J : Nat → ab_K} {Q : Option Value → ab_H → Prop} {os : List ab_O} {n bc bs : Nat} {st : List Value} {h : ab_H} {ls : List (Option Value)} {a0 a1 : Option Value} {a : Option Value} {len : Nat} {v : Int} {x : UInt32} {j : Fin 4} : ab_wp d J Q (((.fstore_n j), len, [2], v) :: os) n bc bs (a0 :: a1 :: a :: ls) (.float x :: st) h = (ab_wp d J Q os n bc bs (a0 :: a1 :: some (.float x) :: ls) st h) := rfl
theorem ev_astore_2 {d : Nat} {J : Nat → ab_K} {Q : Option Value → ab_H → Prop} {os : List ab_O} {n bc bs : Nat} {st : List Value} {h : ab_H} {ls : List (Option Value)} {a0 a1 : Option Value} {a : Option Value} {len : Nat} {v : Int} {x : Nat} {j : Fin 4} : ab_wp d J Q (((.astore_n j), len, [2], v) :: os) n bc bs (a0 :: a1 :: a :: ls) (.ref x :: st) h = (ab_wp d J Q os n bc bs (a0 :: a1 :: some (.ref x) :: ls) st h) := rfl
theorem ev_astore_2N {d : Nat} {J : Nat → ab_K} {Q : Option Value → ab_H → Prop} {os : List ab_O} {n bc bs : Nat} {st : List Value} {h : ab_H} {ls : List (Option Value)} {a0 a1 : Option Value} {a : Option Value} {len : Nat} {v : Int} {j : Fin 4} : ab_wp d J Q (((.astore_n j), len, [2], v) :: os) n bc bs (a0 :: a1 :: a :: ls) (.null :: st) h = (ab_wp d J Q os n bc bs (a0 :: a1 :: some (.null) :: ls) st h) := rfl
theorem ev_iinc_2 {d : Nat} {J : Nat → ab_K} {Q : Option Value → ab_H → Prop} {os : List ab_O} {n bc bs : Nat} {st : List Value} {h : ab_H} {ls : List (Option Value)} {a0 a1 : Option Value} {len j : Nat} {c v : Int} {x : Int32} : ab_wp d J Q (((.iinc j c), len, [2], v) :: os) n bc bs (a0 :: a1 :: some (.int x) :: ls) st h = (ab_wp d J Q os n bc bs (a0 :: a1 :: some (.int (x + Int32.ofInt v)) :: ls) st h) := rfl
theorem ev_iload_3 {d : Nat} {J : Nat → ab_K} {Q : Option Value → ab_H → Prop} {os : List ab_O} {n bc bs : Nat} {st : List Value} {h : ab_H} {ls : List (Option Value)} {a0 a1 a2 : Option Value} {len : Nat} {v : Int} {x : Int32} {j : Fin 4} : ab_wp d J Q (((.iload_n j), len, [3], v) :: os) n bc bs (a0 :: a1 :: a2 :: some (.int x) :: ls) st h = (ab_wp d J Q os n bc bs (a0 :: a1 :: a2 :: some (.int x) :: ls) (.int x :: st) h) := rfl
theorem ev_fload_3 {d : Nat} {J : Nat → ab_K} {Q : Option Value → ab_H → Prop} {os : List ab_O} {n bc bs : Nat} {st : List Value} {h : ab_H} {ls : List (Option Value)} {a0 a1 a2 : Option Value} {len : Nat} {v : Int} {x : UInt32} {j : Fin 4} : ab_wp d J Q (((.fload_n j), len, [3], v) :: os) n bc bs (a0 :: a1 :: a2 :: some (.float x) :: ls) st h = (ab_wp d J Q os n bc bs (a0 :: a1 :: a2 :: some (.float x) :: ls) (.float x :: st) h) := rfl
theorem ev_aload_3 {d : Nat} {J : Nat → ab_K} {Q : Option Value → ab_H → Prop} {os : List ab_O} {n bc bs : Nat} {st : List Value} {h : ab_H} {ls : List (Option Value)} {a0 a1 a2 : Option Value} {len : Nat} {v : Int} {x : Nat} {j : Fin 4} : ab_wp d J Q (((.aload_n j), len, [3], v) :: os) n bc bs (a0 :: a1 :: a2 :: some (.ref x) :: ls) st h = (ab_wp d J Q os n bc bs (a0 :: a1 :: a2 :: some (.ref x) :: ls) (.ref x :: st) h) := rfl
theorem ev_aload_3N {d : Nat} {J : Nat → ab_K} {Q : Option Value → ab_H → Prop} {os : List ab_O} {n bc bs : Nat} {st : List Value} {h : ab_H} {ls : List (Option Value)} {a0 a1 a2 : Option Value} {len : Nat} {v : Int} {j : Fin 4} : ab_wp d J Q (((.aload_n j), len, [3], v) :: os) n bc bs (a0 :: a1 :: a2 :: some (.null) :: ls) st h = (ab_wp d J Q os n bc bs (a0 :: a1 :: a2 :: some (.null) :: ls) (.null :: st) h) := rfl
theorem ev_istore_3 {d : Nat} {J : Nat → ab_K} {Q : Option Value → ab_H → Prop} {os : List ab_O} {n bc bs : Nat} {st : List Value} {h : ab_H} {ls : List (Option Value)} {a0 a1 a2 : Option Value} {a : Option Value} {len : Nat} {v : Int} {x : Int32} {j : Fin 4} : ab_wp d J Q (((.istore_n j), len, [3], v) :: os) n bc bs (a0 :: a1 :: a2 :: a :: ls) (.int x :: st) h = (ab_wp d J Q os n bc bs (a0 :: a1 :: a2 :: some (.int x) :: ls) st h) := rfl
theorem ev_fstore_3 {d : Nat} {J : Nat → ab_K} {Q : Option Value → ab_H → Prop} {os : List ab_O} {n bc bs : Nat} {st : List Value} {h : ab_H} {ls : List (Option Value)} {a0 a1 a2 : Option Value} {a : Option Value} {len : Nat} {v : Int} {x : UInt32} {j : Fin 4} : ab_wp d J Q (((.fstore_n j), len, [3], v) :: os) n bc bs (a0 :: a1 :: a2 :: a :: ls) (.float x :: st) h = (ab_wp d J Q os n bc bs (a0 :: a1 :: a2 :: some (.float x) :: ls) st h) := rfl
theorem ev_astore_3 {d : Nat} {J : Nat → ab_K} {Q : Option Value → ab_H → Prop} {os : List ab_O} {n bc bs : Nat} {st : List Value} {h : ab_H} {ls : List (Option Value)} {a0 a1 a2 : Option Value} {a : Option Value} {len : Nat} {v : Int} {x : Nat} {j : Fin 4} : ab_wp d J Q (((.astore_n j), len, [3], v) :: os) n bc bs (a0 :: a1 :: a2 :: a :: ls) (.ref x :: st) h = (ab_wp d J Q os n bc bs (a0 :: a1 :: a2 :: some (.ref x) :: ls) st h) := rfl
theorem ev_astore_3N {d : Nat} {J : Nat → ab_K} {Q : Option Value → ab_H → Prop} {os : List ab_O} {n bc bs : Nat} {st : List Value} {h : ab_H} {ls : List (Option Value)} {a0 a1 a2 : Option Value} {a : Option Value} {len : Nat} {v : Int} {j : Fin 4} : ab_wp d J Q (((.astore_n j), len, [3], v) :: os) n bc bs (a0 :: a1 :: a2 :: a :: ls) (.null :: st) h = (ab_wp d J Q os n bc bs (a0 :: a1 :: a2 :: some (.null) :: ls) st h) := rfl
theorem ev_iinc_3 {d : Nat} {J : Nat → ab_K} {Q : Option Value → ab_H → Prop} {os : List ab_O} {n bc bs : Nat} {st : List Value} {h : ab_H} {ls : List (Option Value)} {a0 a1 a2 : Option Value} {len j : Nat} {c v : Int} {x : Int32} : ab_wp d J Q (((.iinc j c), len, [3], v) :: os) n bc bs (a0 :: a1 :: a2 :: some (.int x) :: ls) st h = (ab_wp d J Q os n bc bs (a0 :: a1 :: a2 :: some (.int (x + Int32.ofInt v)) :: ls) st h) := rfl
theorem ev_iload_4 {d : Nat} {J : Nat → ab_K} {Q : Option Value → ab_H → Prop} {os : List ab_O} {n bc bs : Nat} {st : List Value} {h : ab_H} {ls : List (Option Value)} {a0 a1 a2 a3 : Option Value} {len : Nat} {v : Int} {x : Int32} {j : Nat} : ab_wp d J Q (((.iload j), len, [4], v) :: os) n bc bs (a0 :: a1 :: a2 :: a3 :: some (.int x) :: ls) st h = (ab_wp d J Q os n bc bs (a0 :: a1 :: a2 :: a3 :: some (.int x) :: ls) (.int x :: st) h) := rfl
theorem ev_aload_4 {d : Nat} {J : Nat → ab_K} {Q : Option Value → ab_H → Prop} {os : List ab_O} {n bc bs : Nat} {st : List Value} {h : ab_H} {ls : List (Option Value)} {a0 a1 a2 a3 : Option Value} {len : Nat} {v : Int} {x : Nat} {j : Nat} : ab_wp d J Q (((.aload j), len, [4], v) :: os) n bc bs (a0 :: a1 :: a2 :: a3 :: some (.ref x) :: ls) st h = (ab_wp d J Q os n bc bs (a0 :: a1 :: a2 :: a3 :: some (.ref x) :: ls) (.ref x :: st) h) := rfl
theorem ev_aload_4N {d : Nat} {J : Nat → ab_K} {Q : Option Value → ab_H → Prop} {os : List ab_O} {n bc bs : Nat} {st : List Value} {h : ab_H} {ls : List (Option Value)} {a0 a1 a2 a3 : Option Value} {len : Nat} {v : Int} {j : Nat} : ab_wp d J Q (((.aload j), len, [4], v) :: os) n bc bs (a0 :: a1 :: a2 :: a3 :: some (.null) :: ls) st h = (ab_wp d J Q os n bc bs (a0 :: a1 :: a2 :: a3 :: some (.null) :: ls) (.null :: st) h) := rfl
theorem ev_istore_4 {d : Nat} {J : Nat → ab_K} {Q : Option Value → ab_H → Prop} {os : List ab_O} {n bc bs : Nat} {st : List Value} {h : ab_H} {ls : List (Option Value)} {a0 a1 a2 a3 : Option Value} {a : Option Value} {len : Nat} {v : Int} {x : Int32} {j : Nat} : ab_wp d J Q (((.istore j), len, [4], v) :: os) n bc bs (a0 :: a1 :: a2 :: a3 :: a :: ls) (.int x :: st) h = (ab_wp d J Q os n bc bs (a0 :: a1 :: a2 :: a3 :: some (.int x) :: ls) st h) := rfl
theorem ev_astore_4 {d : Nat} {J : Nat → ab_K} {Q : Option Value → ab_H → Prop} {os : List ab_O} {n bc bs : Nat} {st : List Value} {h : ab_H} {ls : List (Option Value)} {a0 a1 a2 a3 : Option Value} {a : Option Value} {len : Nat} {v : Int} {x : Nat} {j : Nat} : ab_wp d J Q (((.astore j), len, [4], v) :: os) n bc bs (a0 :: a1 :: a2 :: a3 :: a :: ls) (.ref x :: st) h = (ab_wp d J Q os n bc bs (a0 :: a1 :: a2 :: a3 :: some (.ref x) :: ls) st h) := rfl
theorem ev_astore_4N {d : Nat} {J : Nat → ab_K} {Q : Option Value → ab_H → Prop} {os : List ab_O} {n bc bs : Nat} {st : List Value} {h : ab_H} {ls : List (Option Value)} {a0 a1 a2 a3 : Option Value} {a : Option Value} {len : Nat} {v : Int} {j : Nat} : ab_wp d J Q (((.astore j), len, [4], v) :: os) n bc bs (a0 :: a1 :: a2 :: a3 :: a :: ls) (.null :: st) h = (ab_wp d J Q os n bc bs (a0 :: a1 :: a2 :: a3 :: some (.null) :: ls) st h) := rfl
theorem ev_iinc_4 {d : Nat} {J : Nat → ab_K} {Q : Option Value → ab_H → Prop} {os : List ab_O} {n bc bs : Nat} {st : List Value} {h : ab_H} {ls : List (Option Value)} {a0 a1 a2 a3 : Option Value} {len j : Nat} {c v : Int} {x : Int32} : ab_wp d J Q (((.iinc j c), len, [4], v) :: os) n bc bs (a0 :: a1 :: a2 :: a3 :: some (.int x) :: ls) st h = (ab_wp d J Q os n bc bs (a0 :: a1 :: a2 :: a3 :: some (.int (x + Int32.ofInt v)) :: ls) st h) := rfl
theorem ev_iload_5 {d : Nat} {J : Nat → ab_K} {Q : Option Value → ab_H → Prop} {os : List ab_O} {n bc bs : Nat} {st : List Value} {h : ab_H} {ls : List (Option Value)} {a0 a1 a2 a3 a4 : Option Value} {len : Nat} {v : Int} {x : Int32} {j : Nat} : ab_wp d J Q (((.iload j), len, [5], v) :: os) n bc bs (a0 :: a1 :: a2 :: a3 :: a4 :: some (.int x) :: ls) st h = (ab_wp d J Q os n bc bs (a0 :: a1 :: a2 :: a3 :: a4 :: some (.int x) :: ls) (.int x :: st) h) := rfl
theorem ev_aload_5 {d : Nat} {J : Nat → ab_K} {Q : Option Value → ab_H → Prop} {os : List ab_O} {n bc bs : Nat} {st : List Value} {h : ab_H} {ls : List (Option Value)} {a0 a1 a2 a3 a4 : Option Value} {len : Nat} {v : Int} {x : Nat} {j : Nat} : ab_wp d J Q (((.aload j), len, [5], v) :: os) n bc bs (a0 :: a1 :: a2 :: a3 :: a4 :: some (.ref x) :: ls) st h = (ab_wp d J Q os n bc bs (a0 :: a1 :: a2 :: a3 :: a4 :: some (.ref x) :: ls) (.ref x :: st) h) := rfl
theorem ev_aload_5N {d : Nat} {J : Nat → ab_K} {Q : Option Value → ab_H → Prop} {os : List ab_O} {n bc bs : Nat} {st : List Value} {h : ab_H} {ls : List (Option Value)} {a0 a1 a2 a3 a4 : Option Value} {len : Nat} {v : Int} {j : Nat} : ab_wp d J Q (((.aload j), len, [5], v) :: os) n bc bs (a0 :: a1 :: a2 :: a3 :: a4 :: some (.null) :: ls) st h = (ab_wp d J Q os n bc bs (a0 :: a1 :: a2 :: a3 :: a4 :: some (.null) :: ls) (.null :: st) h) := rfl
theorem ev_istore_5 {d : Nat} {J : Nat → ab_K} {Q : Option Value → ab_H → Prop} {os : List ab_O} {n bc bs : Nat} {st : List Value} {h : ab_H} {ls : List (Option Value)} {a0 a1 a2 a3 a4 : Option Value} {a : Option Value} {len : Nat} {v : Int} {x : Int32} {j : Nat} : ab_wp d J Q (((.istore j), len, [5], v) :: os) n bc bs (a0 :: a1 :: a2 :: a3 :: a4 :: a :: ls) (.int x :: st) h = (ab_wp d J Q os n bc bs (a0 :: a1 :: a2 :: a3 :: a4 :: some (.int x) :: ls) st h) := rfl
theorem ev_astore_5 {d : Nat} {J : Nat → ab_K} {Q : Option Value → ab_H → Prop} {os : List ab_O} {n bc bs : Nat} {st : List Value} {h : ab_H} {ls : List (Option Value)} {a0 a1 a2 a3 a4 : Option Value} {a : Option Value} {len : Nat} {v : Int} {x : Nat} {j : Nat} : ab_wp d J Q (((.astore j), len, [5], v) :: os) n bc bs (a0 :: a1 :: a2 :: a3 :: a4 :: a :: ls) (.ref x :: st) h = (ab_wp d J Q os n bc bs (a0 :: a1 :: a2 :: a3 :: a4 :: some (.ref x) :: ls) st h) := rfl
theorem ev_astore_5N {d : Nat} {J : Nat → ab_K} {Q : Option Value → ab_H → Prop} {os : List ab_O} {n bc bs : Nat} {st : List Value} {h : ab_H} {ls : List (Option Value)} {a0 a1 a2 a3 a4 : Option Value} {a : Option Value} {len : Nat} {v : Int} {j : Nat} : ab_wp d J Q (((.astore j), len, [5], v) :: os) n bc bs (a0 :: a1 :: a2 :: a3 :: a4 :: a :: ls) (.null :: st) h = (ab_wp d J Q os n bc bs (a0 :: a1 :: a2 :: a3 :: a4 :: some (.null) :: ls) st h) := rfl
theorem ev_iinc_5 {d : Nat} {J : Nat → ab_K} {Q : Option Value → ab_H → Prop} {os : List ab_O} {n bc bs : Nat} {st : List Value} {h : ab_H} {ls : List (Option Value)} {a0 a1 a2 a3 a4 : Option Value} {len j : Nat} {c v : Int} {x : Int32} : ab_wp d J Q (((.iinc j c), len, [5], v) :: os) n bc bs (a0 :: a1 :: a2 :: a3 :: a4 :: some (.int x) :: ls) st h = (ab_wp d J Q os n bc bs (a0 :: a1 :: a2 :: a3 :: a4 :: some (.int (x + Int32.ofInt v)) :: ls) st h) := rfl
theorem ev_iload_6 {d : Nat} {J : Nat → ab_K} {Q : Option Value → ab_H → Prop} {os : List ab_O} {n bc bs : Nat} {st : List Value} {h : ab_H} {ls : List (Option Value)} {a0 a1 a2 a3 a4 a5 : Option Value} {len : Nat} {v : Int} {x : Int32} {j : Nat} : ab_wp d J Q (((.iload j), len, [6], v) :: os) n bc bs (a0 :: a1 :: a2 :: a3 :: a4 :: a5 :: some (.int x) :: ls) st h = (ab_wp d J Q os n bc bs (a0 :: a1 :: a2 :: a3 :: a4 :: a5 :: some (.int x) :: ls) (.int x :: st) h) := rfl
theorem ev_aload_6 {d : Nat} {J : Nat → ab_K} {Q : Option Value → ab_H → Prop} {os : List ab_O} {n bc bs : Nat} {st : List Value} {h : ab_H} {ls : List (Option Value)} {a0 a1 a2 a3 a4 a5 : Option Value} {len : Nat} {v : Int} {x : Nat} {j : Nat} : ab_wp d J Q (((.aload j), len, [6], v) :: os) n bc bs (a0 :: a1 :: a2 :: a3 :: a4 :: a5 :: some (.ref x) :: ls) st h = (ab_wp d J Q os n bc bs (a0 :: a1 :: a2 :: a3 :: a4 :: a5 :: some (.ref x) :: ls) (.ref x :: st) h) := rfl
theorem ev_aload_6N {d : Nat} {J : Nat → ab_K} {Q : Option Value → ab_H → Prop} {os : List ab_O} {n bc bs : Nat} {st : List Value} {h : ab_H} {ls : List (Option Value)} {a0 a1 a2 a3 a4 a5 : Option Value} {len : Nat} {v : Int} {j : Nat} : ab_wp d J Q (((.aload j), len, [6], v) :: os) n bc bs (a0 :: a1 :: a2 :: a3 :: a4 :: a5 :: some (.null) :: ls) st h = (ab_wp d J Q os n bc bs (a0 :: a1 :: a2 :: a3 :: a4 :: a5 :: some (.null) :: ls) (.null :: st) h) := rfl
theorem ev_istore_6 {d : Nat} {J : Nat → ab_K} {Q : Option Value → ab_H → Prop} {os : List ab_O} {n bc bs : Nat} {st : List Value} {h : ab_H} {ls : List (Option Value)} {a0 a1 a2 a3 a4 a5 : Option Value} {a : Option Value} {len : Nat} {v : Int} {x : Int32} {j : Nat} : ab_wp d J Q (((.istore j), len, [6], v) :: os) n bc bs (a0 :: a1 :: a2 :: a3 :: a4 :: a5 :: a :: ls) (.int x :: st) h = (ab_wp d J Q os n bc bs (a0 :: a1 :: a2 :: a3 :: a4 :: a5 :: some (.int x) :: ls) st h) := rfl
theorem ev_astore_6 {d : Nat} {J : Nat → ab_K} {Q : Option Value → ab_H → Prop} {os : List ab_O} {n bc bs : Nat} {st : List Value} {h : ab_H} {ls : List (Option Value)} {a0 a1 a2 a3 a4 a5 : Option Value} {a : Option Value} {len : Nat} {v : Int} {x : Nat} {j : Nat} : ab_wp d J Q (((.astore j), len, [6], v) :: os) n bc bs (a0 :: a1 :: a2 :: a3 :: a4 :: a5 :: a :: ls) (.ref x :: st) h = (ab_wp d J Q os n bc bs (a0 :: a1 :: a2 :: a3 :: a4 :: a5 :: some (.ref x) :: ls) st h) := rfl
theorem ev_astore_6N {d : Nat} {J : Nat → ab_K} {Q : Option Value → ab_H → Prop} {os : List ab_O} {n bc bs : Nat} {st : List Value} {h : ab_H} {ls : List (Option Value)} {a0 a1 a2 a3 a4 a5 : Option Value} {a : Option Value} {len : Nat} {v : Int} {j : Nat} : ab_wp d J Q (((.astore j), len, [6], v) :: os) n bc bs (a0 :: a1 :: a2 :: a3 :: a4 :: a5 :: a :: ls) (.null :: st) h = (ab_wp d J Q os n bc bs (a0 :: a1 :: a2 :: a3 :: a4 :: a5 :: some (.null) :: ls) st h) := rfl
theorem ev_iinc_6 {d : Nat} {J : Nat → ab_K} {Q : Option Value → ab_H → Prop} {os : List ab_O} {n bc bs : Nat} {st : List Value} {h : ab_H} {ls : List (Option Value)} {a0 a1 a2 a3 a4 a5 : Option Value} {len j : Nat} {c v : Int} {x : Int32} : ab_wp d J Q (((.iinc j c), len, [6], v) :: os) n bc bs (a0 :: a1 :: a2 :: a3 :: a4 :: a5 :: some (.int x) :: ls) st h = (ab_wp d J Q os n bc bs (a0 :: a1 :: a2 :: a3 :: a4 :: a5 :: some (.int (x + Int32.ofInt v)) :: ls) st h) := rfl
theorem ev_iload_7 {d : Nat} {J : Nat → ab_K} {Q : Option Value → ab_H → Prop} {os : List ab_O} {n bc bs : Nat} {st : List Value} {h : ab_H} {ls : List (Option Value)} {a0 a1 a2 a3 a4 a5 a6 : Option Value} {len : Nat} {v : Int} {x : Int32} {j : Nat} : ab_wp d J Q (((.iload j), len, [7], v) :: os) n bc bs (a0 :: a1 :: a2 :: a3 :: a4 :: a5 :: a6 :: some (.int x) :: ls) st h = (ab_wp d J Q os n bc bs (a0 :: a1 :: a2 :: a3 :: a4 :: a5 :: a6 :: some (.int x) :: ls) (.int x :: st) h) := rfl
theorem ev_aload_7 {d : Nat} {J : Nat → ab_K} {Q : Option Value → ab_H → Prop} {os : List ab_O} {n bc bs : Nat} {st : List Value} {h : ab_H} {ls : List (Option Value)} {a0 a1 a2 a3 a4 a5 a6 : Option Value} {len : Nat} {v : Int} {x : Nat} {j : Nat} : ab_wp d J Q (((.aload j), len, [7], v) :: os) n bc bs (a0 :: a1 :: a2 :: a3 :: a4 :: a5 :: a6 :: some (.ref x) :: ls) st h = (ab_wp d J Q os n bc bs (a0 :: a1 :: a2 :: a3 :: a4 :: a5 :: a6 :: some (.ref x) :: ls) (.ref x :: st) h) := rfl
theorem ev_aload_7N {d : Nat} {J : Nat → ab_K} {Q : Option Value → ab_H → Prop} {os : List ab_O} {n bc bs : Nat} {st : List Value} {h : ab_H} {ls : List (Option Value)} {a0 a1 a2 a3 a4 a5 a6 : Option Value} {len : Nat} {v : Int} {j : Nat} : ab_wp d J Q (((.aload j), len, [7], v) :: os) n bc bs (a0 :: a1 :: a2 :: a3 :: a4 :: a5 :: a6 :: some (.null) :: ls) st h = (ab_wp d J Q os n bc bs (a0 :: a1 :: a2 :: a3 :: a4 :: a5 :: a6 :: some (.null) :: ls) (.null :: st) h) := rfl
theorem ev_istore_7 {d : Nat} {J : Nat → ab_K} {Q : Option Value → ab_H → Prop} {os : List ab_O} {n bc bs : Nat} {st : List Value} {h : ab_H} {ls : List (Option Value)} {a0 a1 a2 a3 a4 a5 a6 : Option Value} {a : Option Value} {len : Nat} {v : Int} {x : Int32} {j : Nat} : ab_wp d J Q (((.istore j), len, [7], v) :: os) n bc bs (a0 :: a1 :: a2 :: a3 :: a4 :: a5 :: a6 :: a :: ls) (.int x :: st) h = (ab_wp d J Q os n bc bs (a0 :: a1 :: a2 :: a3 :: a4 :: a5 :: a6 :: some (.int x) :: ls) st h) := rfl
theorem ev_astore_7 {d : Nat} {J : Nat → ab_K} {Q : Option Value → ab_H → Prop} {os : List ab_O} {n bc bs : Nat} {st : List Value} {h : ab_H} {ls : List (Option Value)} {a0 a1 a2 a3 a4 a5 a6 : Option Value} {a : Option Value} {len : Nat} {v : Int} {x : Nat} {j : Nat} : ab_wp d J Q (((.astore j), len, [7], v) :: os) n bc bs (a0 :: a1 :: a2 :: a3 :: a4 :: a5 :: a6 :: a :: ls) (.ref x :: st) h = (ab_wp d J Q os n bc bs (a0 :: a1 :: a2 :: a3 :: a4 :: a5 :: a6 :: some (.ref x) :: ls) st h) := rfl
theorem ev_astore_7N {d : Nat} {J : Nat → ab_K} {Q : Option Value → ab_H → Prop} {os : List ab_O} {n bc bs : Nat} {st : List Value} {h : ab_H} {ls : List (Option Value)} {a0 a1 a2 a3 a4 a5 a6 : Option Value} {a : Option Value} {len : Nat} {v : Int} {j : Nat} : ab_wp d J Q (((.astore j), len, [7], v) :: os) n bc bs (a0 :: a1 :: a2 :: a3 :: a4 :: a5 :: a6 :: a :: ls) (.null :: st) h = (ab_wp d J Q os n bc bs (a0 :: a1 :: a2 :: a3 :: a4 :: a5 :: a6 :: some (.null) :: ls) st h) := rfl
theorem ev_iinc_7 {d : Nat} {J : Nat → ab_K} {Q : Option Value → ab_H → Prop} {os : List ab_O} {n bc bs : Nat} {st : List Value} {h : ab_H} {ls : List (Option Value)} {a0 a1 a2 a3 a4 a5 a6 : Option Value} {len j : Nat} {c v : Int} {x : Int32} : ab_wp d J Q (((.iinc j c), len, [7], v) :: os) n bc bs (a0 :: a1 :: a2 :: a3 :: a4 :: a5 :: a6 :: some (.int x) :: ls) st h = (ab_wp d J Q os n bc bs (a0 :: a1 :: a2 :: a3 :: a4 :: a5 :: a6 :: some (.int (x + Int32.ofInt v)) :: ls) st h) := rfl
theorem ev_iload_8 {d : Nat} {J : Nat → ab_K} {Q : Option Value → ab_H → Prop} {os : List ab_O} {n bc bs : Nat} {st : List Value} {h : ab_H} {ls : List (Option Value)} {a0 a1 a2 a3 a4 a5 a6 a7 : Option Value} {len : Nat} {v : Int} {x : Int32} {j : Nat} : ab_wp d J Q (((.iload j), len, [8], v) :: os) n bc bs (a0 :: a1 :: a2 :: a3 :: a4 :: a5 :: a6 :: a7 :: some (.int x) :: ls) st h = (ab_wp d J Q os n bc bs (a0 :: a1 :: a2 :: a3 :: a4 :: a5 :: a6 :: a7 :: some (.int x) :: ls) (.int x :: st) h) := rfl
theorem ev_aload_8 {d : Nat} {J : Nat → ab_K} {Q : Option Value → ab_H → Prop} {os : List ab_O} {n bc bs : Nat} {st : List Value} {h : ab_H} {ls : List (Option Value)} {a0 a1 a2 a3 a4 a5 a6 a7 : Option Value} {len : Nat} {v : Int} {x : Nat} {j : Nat} : ab_wp d J Q (((.aload j), len, [8], v) :: os) n bc bs (a0 :: a1 :: a2 :: a3 :: a4 :: a5 :: a6 :: a7 :: some (.ref x) :: ls) st h = (ab_wp d J Q os n bc bs (a0 :: a1 :: a2 :: a3 :: a4 :: a5 :: a6 :: a7 :: some (.ref x) :: ls) (.ref x :: st) h) := rfl
theorem ev_aload_8N {d : Nat} {J : Nat → ab_K} {Q : Option Value → ab_H → Prop} {os : List ab_O} {n bc bs : Nat} {st : List Value} {h : ab_H} {ls : List (Option Value)} {a0 a1 a2 a3 a4 a5 a6 a7 : Option Value} {len : Nat} {v : Int} {j : Nat} : ab_wp d J Q (((.aload j), len, [8], v) :: os) n bc bs (a0 :: a1 :: a2 :: a3 :: a4 :: a5 :: a6 :: a7 :: some (.null) :: ls) st h = (ab_wp d J Q os n bc bs (a0 :: a1 :: a2 :: a3 :: a4 :: a5 :: a6 :: a7 :: some (.null) :: ls) (.null :: st) h) := rfl
theorem ev_istore_8 {d : Nat} {J : Nat → ab_K} {Q : Option Value → ab_H → Prop} {os : List ab_O} {n bc bs : Nat} {st : List Value} {h : ab_H} {ls : List (Option Value)} {a0 a1 a2 a3 a4 a5 a6 a7 : Option Value} {a : Option Value} {len : Nat} {v : Int} {x : Int32} {j : Nat} : ab_wp d J Q (((.istore j), len, [8], v) :: os) n bc bs (a0 :: a1 :: a2 :: a3 :: a4 :: a5 :: a6 :: a7 :: a :: ls) (.int x :: st) h = (ab_wp d J Q os n bc bs (a0 :: a1 :: a2 :: a3 :: a4 :: a5 :: a6 :: a7 :: some (.int x) :: ls) st h) := rfl
theorem ev_astore_8 {d : Nat} {J : Nat → ab_K} {Q : Option Value → ab_H → Prop} {os : List ab_O} {n bc bs : Nat} {st : List Value} {h : ab_H} {ls : List (Option Value)} {a0 a1 a2 a3 a4 a5 a6 a7 : Option Value} {a : Option Value} {len : Nat} {v : Int} {x : Nat} {j : Nat} : ab_wp d J Q (((.astore j), len, [8], v) :: os) n bc bs (a0 :: a1 :: a2 :: a3 :: a4 :: a5 :: a6 :: a7 :: a :: ls) (.ref x :: st) h = (ab_wp d J Q os n bc bs (a0 :: a1 :: a2 :: a3 :: a4 :: a5 :: a6 :: a7 :: some (.ref x) :: ls) st h) := rfl
theorem ev_astore_8N {d : Nat} {J : Nat → ab_K} {Q : Option Value → ab_H → Prop} {os : List ab_O} {n bc bs : Nat} {st : List Value} {h : ab_H} {ls : List (Option Value)} {a0 a1 a2 a3 a4 a5 a6 a7 : Option Value} {a : Option Value} {len : Nat} {v : Int} {j : Nat} : ab_wp d J Q (((.astore j), len, [8], v) :: os) n bc bs (a0 :: a1 :: a2 :: a3 :: a4 :: a5 :: a6 :: a7 :: a :: ls) (.null :: st) h = (ab_wp d J Q os n bc bs (a0 :: a1 :: a2 :: a3 :: a4 :: a5 :: a6 :: a7 :: some (.null) :: ls) st h) := rfl
theorem ev_iinc_8 {d : Nat} {J : Nat → ab_K} {Q : Option Value → ab_H → Prop} {os : List ab_O} {n bc bs : Nat} {st : List Value} {h : ab_H} {ls : List (Option Value)} {a0 a1 a2 a3 a4 a5 a6 a7 : Option Value} {len j : Nat} {c v : Int} {x : Int32} : ab_wp d J Q (((.iinc j c), len, [8], v) :: os) n bc bs (a0 :: a1 :: a2 :: a3 :: a4 :: a5 :: a6 :: a7 :: some (.int x) :: ls) st h = (ab_wp d J Q os n bc bs (a0 :: a1 :: a2 :: a3 :: a4 :: a5 :: a6 :: a7 :: some (.int (x + Int32.ofInt v)) :: ls) st h) := rfl
theorem ev_iload_9 {d : Nat} {J : Nat → ab_K} {Q : Option Value → ab_H → Prop} {os : List ab_O} {n bc bs : Nat} {st : List Value} {h : ab_H} {ls : List (Option Value)} {a0 a1 a2 a3 a4 a5 a6 a7 a8 : Option Value} {len : Nat} {v : Int} {x : Int32} {j : Nat} : ab_wp d J Q (((.iload j), len, [9], v) :: os) n bc bs (a0 :: a1 :: a2 :: a3 :: a4 :: a5 :: a6 :: a7 :: a8 :: some (.int x) :: ls) st h = (ab_wp d J Q os n bc bs (a0 :: a1 :: a2 :: a3 :: a4 :: a5 :: a6 :: a7 :: a8 :: some (.int x) :: ls) (.int x :: st) h) := rfl
theorem ev_aload_9 {d : Nat} {J : Nat → ab_K} {Q : Option Value → ab_H → Prop} {os : List ab_O} {n bc bs : Nat} {st : List Value} {h : ab_H} {ls : List (Option Value)} {a0 a1 a2 a3 a4 a5 a6 a7 a8 : Option Value} {len : Nat} {v : Int} {x : Nat} {j : Nat} : ab_wp d J Q (((.aload j), len, [9], v) :: os) n bc bs (a0 :: a1 :: a2 :: a3 :: a4 :: a5 :: a6 :: a7 :: a8 :: some (.ref x) :: ls) st h = (ab_wp d J Q os n bc bs (a0 :: a1 :: a2 :: a3 :: a4 :: a5 :: a6 :: a7 :: a8 :: some (.ref x) :: ls) (.ref x :: st) h) := rfl
theorem ev_aload_9N {d : Nat} {J : Nat → ab_K} {Q : Option Value → ab_H → Prop} {os : List ab_O} {n bc bs : Nat} {st : List Value} {h : ab_H} {ls : List (Option Value)} {a0 a1 a2 a3 a4 a5 a6 a7 a8 : Option Value} {len : Nat} {v : Int} {j : Nat} : ab_wp d J Q (((.aload j), len, [9], v) :: os) n bc bs (a0 :: a1 :: a2 :: a3 :: a4 :: a5 :: a6 :: a7 :: a8 :: some (.null) :: ls) st h = (ab_wp d J Q os n bc bs (a0 :: a1 :: a2 :: a3 :: a4 :: a5 :: a6 :: a7 :: a8 :: some (.null) :: ls) (.null :: st) h) := rfl
theorem ev_istore_9 {d : Nat} {J : Nat → ab_K} {Q : Option Value → ab_H → Prop} {os : List ab_O} {n bc bs : Nat} {st : List Value} {h : ab_H} {ls : List (Option Value)} {a0 a1 a2 a3 a4 a5 a6 a7 a8 : Option Value} {a : Option Value} {len : Nat} {v : Int} {x : Int32} {j : Nat} : ab_wp d J Q (((.istore j), len, [9], v) :: os) n bc bs (a0 :: a1 :: a2 :: a3 :: a4 :: a5 :: a6 :: a7 :: a8 :: a :: ls) (.int x :: st) h = (ab_wp d J Q os n bc bs (a0 :: a1 :: a2 :: a3 :: a4 :: a5 :: a6 :: a7 :: a8 :: some (.int x) :: ls) st h) := rfl
theorem ev_astore_9 {d : Nat} {J : Nat → ab_K} {Q : Option Value → ab_H → Prop} {os : List ab_O} {n bc bs : Nat} {st : List Value} {h : ab_H} {ls : List (Option Value)} {a0 a1 a2 a3 a4 a5 a6 a7 a8 : Option Value} {a : Option Value} {len : Nat} {v : Int} {x : Nat} {j : Nat} : ab_wp d J Q (((.astore j), len, [9], v) :: os) n bc bs (a0 :: a1 :: a2 :: a3 :: a4 :: a5 :: a6 :: a7 :: a8 :: a :: ls) (.ref x :: st) h = (ab_wp d J Q os n bc bs (a0 :: a1 :: a2 :: a3 :: a4 :: a5 :: a6 :: a7 :: a8 :: some (.ref x) :: ls) st h) := rfl
theorem ev_astore_9N {d : Nat} {J : Nat → ab_K} {Q : Option Value → ab_H → Prop} {os : List ab_O} {n bc bs : Nat} {st : List Value} {h : ab_H} {ls : List (Option Value)} {a0 a1 a2 a3 a4 a5 a6 a7 a8 : Option Value} {a : Option Value} {len : Nat} {v : Int} {j : Nat} : ab_wp d J Q (((.astore j), len, [9], v) :: os) n bc bs (a0 :: a1 :: a2 :: a3 :: a4 :: a5 :: a6 :: a7 :: a8 :: a :: ls) (.null :: st) h = (ab_wp d J Q os n bc bs (a0 :: a1 :: a2 :: a3 :: a4 :: a5 :: a6 :: a7 :: a8 :: some (.null) :: ls) st h) := rfl
theorem ev_iinc_9 {d : Nat} {J : Nat → ab_K} {Q : Option Value → ab_H → Prop} {os : List ab_O} {n bc bs : Nat} {st : List Value} {h : ab_H} {ls : List (Option Value)} {a0 a1 a2 a3 a4 a5 a6 a7 a8 : Option Value} {len j : Nat} {c v : Int} {x : Int32} : ab_wp d J Q (((.iinc j c), len, [9], v) :: os) n bc bs (a0 :: a1 :: a2 :: a3 :: a4 :: a5 :: a6 :: a7 :: a8 :: some (.int x) :: ls) st h = (ab_wp d J Q os n bc bs (a0 :: a1 :: a2 :: a3 :: a4 :: a5 :: a6 :: a7 :: a8 :: some (.int (x + Int32.ofInt v)) :: ls) st h) := rfl
theorem ev_dup_i {d : Nat} {J : Nat → ab_K} {Q : Option Value → ab_H → Prop} {os : List ab_O} {n bc bs : Nat} {st : List Value} {h : ab_H} {ls : List (Option Value)} {len : Nat} {dt : List Nat} {v : Int} {x : Int32} : ab_wp d J Q ((.dup, len, dt, v) :: os) n bc bs ls (.int x :: st) h = (ab_wp d J Q os n bc bs ls (.int x :: .int x :: st) h) := rfl
theorem ev_dup_r {d : Nat} {J : Nat → ab_K} {Q : Option Value → ab_H → Prop} {os : List ab_O} {n bc bs : Nat} {st : List Value} {h : ab_H} {ls : List (Option Value)} {len : Nat} {dt : List Nat} {v : Int} {x : Nat} : ab_wp d J Q ((.dup, len, dt, v) :: os) n bc bs ls (.ref x :: st) h = (ab_wp d J Q os n bc bs ls (.ref x :: .ref x :: st) h) := rfl
theorem ev_dup2 {d : Nat} {J : Nat → ab_K} {Q : Option Value → ab_H → Prop} {os : List ab_O} {n bc bs : Nat} {st : List Value} {h : ab_H} {ls : List (Option Value)} {len : Nat} {dt : List Nat} {v : Int} {x : Int32} {b : Nat} : ab_wp d J Q ((.dup2, len, dt, v) :: os) n bc bs ls (.int x :: .ref b :: st) h = (ab_wp d J Q os n bc bs ls (.int x :: .ref b :: .int x :: .ref b :: st) h) := rfl
theorem ev_icmp_eq {d : Nat} {J : Nat → ab_K} {Q : Option Value → ab_H → Prop} {os : List ab_O} {n bc bs : Nat} {st : List Value} {h : ab_H} {ls : List (Option Value)} {len t : Nat} {off v : Int} {x y : Int32} : ab_wp d J Q (((.if_icmp .eq off), len, [t], v) :: os) n bc bs ls (.int y :: .int x :: st) h = ((x = y → J t n bc bs ls st h) ∧ (¬ x = y → ab_wp d J Q os n bc bs ls st h)) := rfl
theorem ev_if_eq {d : Nat} {J : Nat → ab_K} {Q : Option Value → ab_H → Prop} {os : List ab_O} {n bc bs : Nat} {st : List Value} {h : ab_H} {ls : List (Option Value)} {len t : Nat} {off v : Int} {x : Int32} : ab_wp d J Q (((.ifCond .eq off), len, [t], v) :: os) n bc bs ls (.int x :: st) h = ((x = 0 → J t n bc bs ls st h) ∧ (¬ x = 0 → ab_wp d J Q os n bc bs ls st h)) := rfl
theorem ev_icmp_ne {d : Nat} {J : Nat → ab_K} {Q : Option Value → ab_H → Prop} {os : List ab_O} {n bc bs : Nat} {st : List Value} {h : ab_H} {ls : List (Option Value)} {len t : Nat} {off v : Int} {x y : Int32} : ab_wp d J Q (((.if_icmp .ne off), len, [t], v) :: os) n bc bs ls (.int y :: .int x :: st) h = ((¬ x = y → J t n bc bs ls st h) ∧ (x = y → ab_wp d J Q os n bc bs ls st h)) := rfl
theorem ev_if_ne {d : Nat} {J : Nat → ab_K} {Q : Option Value → ab_H → Prop} {os : List ab_O} {n bc bs : Nat} {st : List Value} {h : ab_H} {ls : List (Option Value)} {len t : Nat} {off v : Int} {x : Int32} : ab_wp d J Q (((.ifCond .ne off), len, [t], v) :: os) n bc bs ls (.int x :: st) h = ((¬ x = 0 → J t n bc bs ls st h) ∧ (x = 0 → ab_wp d J Q os n bc bs ls st h)) := rfl
theorem ev_icmp_lt {d : Nat} {J : Nat → ab_K} {Q : Option Value → ab_H → Prop} {os : List ab_O} {n bc bs : Nat} {st : List Value} {h : ab_H} {ls : List (Option Value)} {len t : Nat} {off v : Int} {x y : Int32} : ab_wp d J Q (((.if_icmp .lt off), len, [t], v) :: os) n bc bs ls (.int y :: .int x :: st) h = ((x < y → J t n bc bs ls st h) ∧ (¬ x < y → ab_wp d J Q os n bc bs ls st h)) := rfl
theorem ev_if_lt {d : Nat} {J : Nat → ab_K} {Q : Option Value → ab_H → Prop} {os : List ab_O} {n bc bs : Nat} {st : List Value} {h : ab_H} {ls : List (Option Value)} {len t : Nat} {off v : Int} {x : Int32} : ab_wp d J Q (((.ifCond .lt off), len, [t], v) :: os) n bc bs ls (.int x :: st) h = ((x < 0 → J t n bc bs ls st h) ∧ (¬ x < 0 → ab_wp d J Q os n bc bs ls st h)) := rfl
theorem ev_icmp_ge {d : Nat} {J : Nat → ab_K} {Q : Option Value → ab_H → Prop} {os : List ab_O} {n bc bs : Nat} {st : List Value} {h : ab_H} {ls : List (Option Value)} {len t : Nat} {off v : Int} {x y : Int32} : ab_wp d J Q (((.if_icmp .ge off), len, [t], v) :: os) n bc bs ls (.int y :: .int x :: st) h = ((y ≤ x → J t n bc bs ls st h) ∧ (¬ y ≤ x → ab_wp d J Q os n bc bs ls st h)) := rfl
theorem ev_if_ge {d : Nat} {J : Nat → ab_K} {Q : Option Value → ab_H → Prop} {os : List ab_O} {n bc bs : Nat} {st : List Value} {h : ab_H} {ls : List (Option Value)} {len t : Nat} {off v : Int} {x : Int32} : ab_wp d J Q (((.ifCond .ge off), len, [t], v) :: os) n bc bs ls (.int x :: st) h = ((0 ≤ x → J t n bc bs ls st h) ∧ (¬ 0 ≤ x → ab_wp d J Q os n bc bs ls st h)) := rfl
theorem ev_icmp_gt {d : Nat} {J : Nat → ab_K} {Q : Option Value → ab_H → Prop} {os : List ab_O} {n bc bs : Nat} {st : List Value} {h : ab_H} {ls : List (Option Value)} {len t : Nat} {off v : Int} {x y : Int32} : ab_wp d J Q (((.if_icmp .gt off), len, [t], v) :: os) n bc bs ls (.int y :: .int x :: st) h = ((y < x → J t n bc bs ls st h) ∧ (¬ y < x → ab_wp d J Q os n bc bs ls st h)) := rfl
theorem ev_if_gt {d : Nat} {J : Nat → ab_K} {Q : Option Value → ab_H → Prop} {os : List ab_O} {n bc bs : Nat} {st : List Value} {h : ab_H} {ls : List (Option Value)} {len t : Nat} {off v : Int} {x : Int32} : ab_wp d J Q (((.ifCond .gt off), len, [t], v) :: os) n bc bs ls (.int x :: st) h = ((0 < x → J t n bc bs ls st h) ∧ (¬ 0 < x → ab_wp d J Q os n bc bs ls st h)) := rfl
theorem ev_icmp_le {d : Nat} {J : Nat → ab_K} {Q : Option Value → ab_H → Prop} {os : List ab_O} {n bc bs : Nat} {st : List Value} {h : ab_H} {ls : List (Option Value)} {len t : Nat} {off v : Int} {x y : Int32} : ab_wp d J Q (((.if_icmp .le off), len, [t], v) :: os) n bc bs ls (.int y :: .int x :: st) h = ((x ≤ y → J t n bc bs ls st h) ∧ (¬ x ≤ y → ab_wp d J Q os n bc bs ls st h)) := rfl
theorem ev_if_le {d : Nat} {J : Nat → ab_K} {Q : Option Value → ab_H → Prop} {os : List ab_O} {n bc bs : Nat} {st : List Value} {h : ab_H} {ls : List (Option Value)} {len t : Nat} {off v : Int} {x : Int32} : ab_wp d J Q (((.ifCond .le off), len, [t], v) :: os) n bc bs ls (.int x :: st) h = ((x ≤ 0 → J t n bc bs ls st h) ∧ (¬ x ≤ 0 → ab_wp d J Q os n bc bs ls st h)) := rfl
theorem ev_goto {d : Nat} {J : Nat → ab_K} {Q : Option Value → ab_H → Prop} {os : List ab_O} {n bc bs : Nat} {st : List Value} {h : ab_H} {ls : List (Option Value)} {len t : Nat} {off v : Int} : ab_wp d J Q (((.goto off), len, [t], v) :: os) n bc bs ls st h = (J t n bc bs ls st h) := rfl
theorem ev_nop {d : Nat} {J : Nat → ab_K} {Q : Option Value → ab_H → Prop} {os : List ab_O} {n bc bs : Nat} {st : List Value} {h : ab_H} {ls : List (Option Value)} {len t : Nat} {v : Int} : ab_wp d J Q ((.nop, len, [t], v) :: os) n bc bs ls st h = (J t n bc bs ls st h) := rfl
theorem ev_ifnull {d : Nat} {J : Nat → ab_K} {Q : Option Value → ab_H → Prop} {os : List ab_O} {n bc bs : Nat} {st : List Value} {h : ab_H} {ls : List (Option Value)} {len t x : Nat} {off v : Int} : ab_wp d J Q (((.ifnull off), len, [t], v) :: os) n bc bs ls (.ref x :: st) h = (ab_wp d J Q os n bc bs ls st h) := rfl
theorem ev_ifnullN {d : Nat} {J : Nat → ab_K} {Q : Option Value → ab_H → Prop} {os : List ab_O} {n bc bs : Nat} {st : List Value} {h : ab_H} {ls : List (Option Value)} {len t : Nat} {off v : Int} : ab_wp d J Q (((.ifnull off), len, [t], v) :: os) n bc bs ls (.null :: st) h = (J t n bc bs ls st h) := rfl
theorem ev_ifnonnull {d : Nat} {J : Nat → ab_K} {Q : Option Value → ab_H → Prop} {os : List ab_O} {n bc bs : Nat} {st : List Value} {h : ab_H} {ls : List (Option Value)} {len t x : Nat} {off v : Int} : ab_wp d J Q (((.ifnonnull off), len, [t], v) :: os) n bc bs ls (.ref x :: st) h = (J t n bc bs ls st h) := rfl
theorem ev_ifnonnullN {d : Nat} {J : Nat → ab_K} {Q : Option Value → ab_H → Prop} {os : List ab_O} {n bc bs : Nat} {st : List Value} {h : ab_H} {ls : List (Option Value)} {len t : Nat} {off v : Int} : ab_wp d J Q (((.ifnonnull off), len, [t], v) :: os) n bc bs ls (.null :: st) h = (ab_wp d J Q os n bc bs ls st h) := rfl
theorem ev_tableswitch {d : Nat} {J : Nat → ab_K} {Q : Option Value → ab_H → Prop} {os : List ab_O} {n bc bs : Nat} {st : List Value} {h : ab_H} {ls : List (Option Value)} {len t : Nat} {ts : List Nat} {df lo hi v : Int} {offs : Array Int} {x : Int32} : ab_wp d J Q (((.tableswitch df lo hi offs), len, (t :: ts), v) :: os) n bc bs ls (.int x :: st) h = ((x.toInt < lo ∨ hi < x.toInt → J t n bc bs ls st h) ∧ ab_sw x (fun t => J t n bc bs ls st h) lo ts) := rfl
theorem ev_lookupswitch {d : Nat} {J : Nat → ab_K} {Q : Option Value → ab_H → Prop} {os : List ab_O} {n bc bs : Nat} {st : List Value} {h : ab_H} {ls : List (Option Value)} {len t : Nat} {ts : List Nat} {df v : Int} {ps : Array (Int × Int)} {x : Int32} : ab_wp d J Q (((.lookupswitch df ps), len, (t :: ts), v) :: os) n bc bs ls (.int x :: st) h = (ab_lk2 x (fun t => J t n bc bs ls st h) t ps.toList ts) := rfl
theorem ev_getfield_0 {d : Nat} {J : Nat → ab_K} {Q : Option Value → ab_H → Prop} {os : List ab_O} {n bc bs : Nat} {st : List Value} {h : ab_H} {ls : List (Option Value)} {len i ci f p ne b : Nat} {v : Int} : ab_wp d J Q (((.getfield i), len, [ci, f, 0, p, ne], v) :: os) n bc bs ls (.ref b :: st) h = (ab_ac n b ci ∧ ab_wp d J Q os n bc bs ls (.int (h.1 b f) :: st) h) := rfl
theorem ev_getfield_2 {d : Nat} {J : Nat → ab_K} {Q : Option Value → ab_H → Prop} {os : List ab_O} {n bc bs : Nat} {st : List Value} {h : ab_H} {ls : List (Option Value)} {len i ci f p ne b : Nat} {v : Int} : ab_wp d J Q (((.getfield i), len, [ci, f, 2, p, ne], v) :: os) n bc bs ls (.ref b :: st) h = (ab_ac n b ci ∧ ab_wp d J Q os n bc bs ls (.int (h.1 b f) :: st) h) := rfl
theorem ev_getfield_1 {d : Nat} {J : Nat → ab_K} {Q : Option Value → ab_H → Prop} {os : List ab_O} {n bc bs : Nat} {st : List Value} {h : ab_H} {ls : List (Option Value)} {len i ci f p ne b : Nat} {v : Int} : ab_wp d J Q (((.getfield i), len, [ci, f, 1, p, ne], v) :: os) n bc bs ls (.ref b :: st) h = (ab_ac n b ci ∧ h.2 b f < 1000 ∧ ab_wp d J Q os n bc bs ls (.ref (h.2 b f) :: st) h) := rfl
theorem ev_putfield_0 {d : Nat} {J : Nat → ab_K} {Q : Option Value → ab_H → Prop} {os : List ab_O} {n bc bs : Nat} {st : List Value} {h : ab_H} {ls : List (Option Value)} {len i ci f p ne fi b : Nat} {v : Int} {x : Int32} : ab_wp d J Q (((.putfield i), len, [ci, f, 0, p, ne, fi], v) :: os) n bc bs ls (.int x :: .ref b :: st) h = (ab_ac n b ci ∧ ab_wp d J Q os n bc bs ls st (ab_hi h b f x)) := rfl
theorem ev_putfield_2 {d : Nat} {J : Nat → ab_K} {Q : Option Value → ab_H → Prop} {os : List ab_O} {n bc bs : Nat} {st : List Value} {h : ab_H} {ls : List (Option Value)} {len i ci f p ne fi b : Nat} {v : Int} {x : Int32} : ab_wp d J Q (((.putfield i), len, [ci, f, 2, p, ne, fi], v) :: os) n bc bs ls (.int x :: .ref b :: st) h = (ab_ac n b ci ∧ (x = 0 ∨ x = 1) ∧ ab_wp d J Q os n bc bs ls st (ab_hi h b f x)) := rfl
theorem ev_putfield_1 {d : Nat} {J : Nat → ab_K} {Q : Option Value → ab_H → Prop} {os : List ab_O} {n bc bs : Nat} {st : List Value} {h : ab_H} {ls : List (Option Value)} {len i ci f p ne fi a b : Nat} {v : Int} : ab_wp d J Q (((.putfield i), len, [ci, f, 1, p, ne, fi], v) :: os) n bc bs ls (.ref a :: .ref b :: st) h = (ab_ac n b ci ∧ a < 1000 ∧ ab_wp d J Q os n bc bs ls st (ab_hr h b f a)) := rfl
theorem ev_arraylength {d : Nat} {J : Nat → ab_K} {Q : Option Value → ab_H → Prop} {os : List ab_O} {n bc bs : Nat} {st : List Value} {h : ab_H} {ls : List (Option Value)} {len : Nat} {dt : List Nat} {v : Int} {b : Nat} : ab_wp d J Q ((.arraylength, len, dt, v) :: os) n bc bs ls (.ref b :: st) h = (ab_ar n b ∧ ab_wp d J Q os n bc bs ls (.int (Int32.ofInt ((ab_sh b - 100 : Nat) : Int)) :: st) h) := rfl
theorem ev_iaload {d : Nat} {J : Nat → ab_K} {Q : Option Value → ab_H → Prop} {os : List ab_O} {n bc bs : Nat} {st : List Value} {h : ab_H} {ls : List (Option Value)} {len : Nat} {dt : List Nat} {v : Int} {b : Nat} {i : Int32} : ab_wp d J Q ((.iaload, len, dt, v) :: os) n bc bs ls (.int i :: .ref b :: st) h = (ab_ar n b ∧ vp_in i (ab_sh b - 100) ∧ ab_wp d J Q os n bc bs ls (.int (h.1 b i.toNatClampNeg) :: st) h) := rfl
theorem ev_iastore {d : Nat} {J : Nat → ab_K} {Q : Option Value → ab_H → Prop} {os : List ab_O} {n bc bs : Nat} {st : List Value} {h : ab_H} {ls : List (Option Value)} {len : Nat} {dt : List Nat} {v : Int} {b : Nat} {i x : Int32} : ab_wp d J Q ((.iastore, len, dt, v) :: os) n bc bs ls (.int x :: .int i :: .ref b :: st) h = (ab_ar n b ∧ vp_in i (ab_sh b - 100) ∧ ab_wp d J Q os n bc bs ls st (ab_hi h b i.toNatClampNeg x)) := rfl
theorem ev_new {d : Nat} {J : Nat → ab_K} {Q : Option Value → ab_H → Prop} {os : List ab_O} {n bc bs : Nat} {st : List Value} {h : ab_H} {ls : List (Option Value)} {len : Nat} {dt : List Nat} {v : Int} {i ci : Nat} : ab_wp d J Q (((.new i), len, (ci :: dt), v) :: os) n bc bs ls st h = (ab_sh n = ci ∧ 1 ≤ bc ∧ ab_nf ci ≤ bs ∧ ab_wp d J Q os (n + 1) (bc - 1) (bs - ab_nf ci) ls (.ref n :: st) (ab_hn h n)) := rfl
theorem ev_newarray {d : Nat} {J : Nat → ab_K} {Q : Option Value → ab_H → Prop} {os : List ab_O} {n bc bs : Nat} {st : List Value} {h : ab_H} {ls : List (Option Value)} {len : Nat} {dt : List Nat} {v : Int} {t : ArrayType} {x : Int32} : ab_wp d J Q (((.newarray t), len, dt, v) :: os) n bc bs ls (.int x :: st) h = (¬ x < 0 ∧ x.toNatClampNeg ≤ 1000 ∧ ab_sh n = 100 + x.toNatClampNeg ∧ 1 ≤ bc ∧ x.toNatClampNeg ≤ bs ∧ ab_wp d J Q os (n + 1) (bc - 1) (bs - x.toNatClampNeg) ls (.ref n :: st) (ab_hn h n)) := rfl
theorem ev_callv_1 {d : Nat} {J : Nat → ab_K} {Q : Option Value → ab_H → Prop} {os : List ab_O} {n bc bs : Nat} {st : List Value} {h : ab_H} {ls : List (Option Value)} {len i y ne p1 p2 p3 p4 ci b : Nat} {v : Int} : ab_wp d J Q (((.invokevirtual i), len, [y, 1, 0, ne, p1, p2, p3, p4, ci], v) :: os) n bc bs ls (.ref b :: st) h = (1 ≤ d ∧ ab_st1 st = true ∧ ab_ac n b ci ∧ ab_C (d - 1) y n [.ref b] h (fun rv h' => ab_wp d J Q os n bc bs ls (rv.toList ++ st) h')) := rfl
theorem ev_calls_0 {d : Nat} {J : Nat → ab_K} {Q : Option Value → ab_H → Prop} {os : List ab_O} {n bc bs : Nat} {st : List Value} {h : ab_H} {ls : List (Option Value)} {len i y ne p1 p2 p3 p4 : Nat} {v : Int} : ab_wp d J Q (((.invokestatic i), len, [y, 0, 1, ne, p1, p2, p3, p4], v) :: os) n bc bs ls (st) h = (1 ≤ d ∧ ab_st1 st = true ∧ ab_C (d - 1) y n [] h (fun rv h' => ab_wp d J Q os n bc bs ls (rv.toList ++ st) h')) := rfl
theorem ev_calli_1 {d : Nat} {J : Nat → ab_K} {Q : Option Value → ab_H → Prop} {os : List ab_O} {n bc bs : Nat} {st : List Value} {h : ab_H} {ls : List (Option Value)} {len i y ne p1 p2 p3 p4 b : Nat} {v : Int} : ab_wp d J Q (((.invokespecial i), len, [y, 1, 2, ne, p1, p2, p3, p4], v) :: os) n bc bs ls (.ref b :: st) h = (1 ≤ d ∧ ab_st1 st = true ∧ True ∧ ab_mc y ≤ bc ∧ ab_ms y ≤ bs ∧ ab_C (d - 1) y n [.ref b] h (fun rv h' => ab_wp d J Q os (n + ab_mc y) (bc - ab_mc y) (bs - ab_ms y) ls (rv.toList ++ st) h')) := rfl
theorem ev_callv_2 {d : Nat} {J : Nat → ab_K} {Q : Option Value → ab_H → Prop} {os : List ab_O} {n bc bs : Nat} {st : List Value} {h : ab_H} {ls : List (Option Value)} {w0 : Value} {len i y ne p1 p2 p3 p4 ci b : Nat} {v : Int} : ab_wp d J Q (((.invokevirtual i), len, [y, 2, 0, ne, p1, p2, p3, p4, ci], v) :: os) n bc bs ls (w0 :: .ref b :: st) h = (1 ≤ d ∧ ab_st1 st = true ∧ ab_ac n b ci ∧ ab_C (d - 1) y n [.ref b, w0] h (fun rv h' => ab_wp d J Q os n bc bs ls (rv.toList ++ st) h')) := rfl
theorem ev_calls_1 {d : Nat} {J : Nat → ab_K} {Q : Option Value → ab_H → Prop} {os : List ab_O} {n bc bs : Nat} {st : List Value} {h : ab_H} {ls : List (Option Value)} {w0 : Value} {len i y ne p1 p2 p3 p4 : Nat} {v : Int} : ab_wp d J Q (((.invokestatic i), len, [y, 1, 1, ne, p1, p2, p3, p4], v) :: os) n bc bs ls (w0 :: st) h = (1 ≤ d ∧ ab_st1 st = true ∧ ab_C (d - 1) y n [w0] h (fun rv h' => ab_wp d J Q os n bc bs ls (rv.toList ++ st) h')) := rfl
theorem ev_calli_2 {d : Nat} {J : Nat → ab_K} {Q : Option Value → ab_H → Prop} {os : List ab_O} {n bc bs : Nat} {st : List Value} {h : ab_H} {ls : List (Option Value)} {w0 : Value} {len i y ne p1 p2 p3 p4 b : Nat} {v : Int} : ab_wp d J Q (((.invokespecial i), len, [y, 2, 2, ne, p1, p2, p3, p4], v) :: os) n bc bs ls (w0 :: .ref b :: st) h = (1 ≤ d ∧ ab_st1 st = true ∧ True ∧ ab_mc y ≤ bc ∧ ab_ms y ≤ bs ∧ ab_C (d - 1) y n [.ref b, w0] h (fun rv h' => ab_wp d J Q os (n + ab_mc y) (bc - ab_mc y) (bs - ab_ms y) ls (rv.toList ++ st) h')) := rfl
theorem ev_callv_3 {d : Nat} {J : Nat → ab_K} {Q : Option Value → ab_H → Prop} {os : List ab_O} {n bc bs : Nat} {st : List Value} {h : ab_H} {ls : List (Option Value)} {w0 w1 : Value} {len i y ne p1 p2 p3 p4 ci b : Nat} {v : Int} : ab_wp d J Q (((.invokevirtual i), len, [y, 3, 0, ne, p1, p2, p3, p4, ci], v) :: os) n bc bs ls (w1 :: w0 :: .ref b :: st) h = (1 ≤ d ∧ ab_st1 st = true ∧ ab_ac n b ci ∧ ab_C (d - 1) y n [.ref b, w0, w1] h (fun rv h' => ab_wp d J Q os n bc bs ls (rv.toList ++ st) h')) := rfl
theorem ev_calls_2 {d : Nat} {J : Nat → ab_K} {Q : Option Value → ab_H → Prop} {os : List ab_O} {n bc bs : Nat} {st : List Value} {h : ab_H} {ls : List (Option Value)} {w0 w1 : Value} {len i y ne p1 p2 p3 p4 : Nat} {v : Int} : ab_wp d J Q (((.invokestatic i), len, [y, 2, 1, ne, p1, p2, p3, p4], v) :: os) n bc bs ls (w1 :: w0 :: st) h = (1 ≤ d ∧ ab_st1 st = true ∧ ab_C (d - 1) y n [w0, w1] h (fun rv h' => ab_wp d J Q os n bc bs ls (rv.toList ++ st) h')) := rfl
theorem ev_calli_3 {d : Nat} {J : Nat → ab_K} {Q : Option Value → ab_H → Prop} {os : List ab_O} {n bc bs : Nat} {st : List Value} {h : ab_H} {ls : List (Option Value)} {w0 w1 : Value} {len i y ne p1 p2 p3 p4 b : Nat} {v : Int} : ab_wp d J Q (((.invokespecial i), len, [y, 3, 2, ne, p1, p2, p3, p4], v) :: os) n bc bs ls (w1 :: w0 :: .ref b :: st) h = (1 ≤ d ∧ ab_st1 st = true ∧ True ∧ ab_mc y ≤ bc ∧ ab_ms y ≤ bs ∧ ab_C (d - 1) y n [.ref b, w0, w1] h (fun rv h' => ab_wp d J Q os (n + ab_mc y) (bc - ab_mc y) (bs - ab_ms y) ls (rv.toList ++ st) h')) := rfl
theorem ev_callv_4 {d : Nat} {J : Nat → ab_K} {Q : Option Value → ab_H → Prop} {os : List ab_O} {n bc bs : Nat} {st : List Value} {h : ab_H} {ls : List (Option Value)} {w0 w1 w2 : Value} {len i y ne p1 p2 p3 p4 ci b : Nat} {v : Int} : ab_wp d J Q (((.invokevirtual i), len, [y, 4, 0, ne, p1, p2, p3, p4, ci], v) :: os) n bc bs ls (w2 :: w1 :: w0 :: .ref b :: st) h = (1 ≤ d ∧ ab_st1 st = true ∧ ab_ac n b ci ∧ ab_C (d - 1) y n [.ref b, w0, w1, w2] h (fun rv h' => ab_wp d J Q os n bc bs ls (rv.toList ++ st) h')) := rfl
theorem ev_calls_3 {d : Nat} {J : Nat → ab_K} {Q : Option Value → ab_H → Prop} {os : List ab_O} {n bc bs : Nat} {st : List Value} {h : ab_H} {ls : List (Option Value)} {w0 w1 w2 : Value} {len i y ne p1 p2 p3 p4 : Nat} {v : Int} : ab_wp d J Q (((.invokestatic i), len, [y, 3, 1, ne, p1, p2, p3, p4], v) :: os) n bc bs ls (w2 :: w1 :: w0 :: st) h = (1 ≤ d ∧ ab_st1 st = true ∧ ab_C (d - 1) y n [w0, w1, w2] h (fun rv h' => ab_wp d J Q os n bc bs ls (rv.toList ++ st) h')) := rfl
theorem ev_calli_4 {d : Nat} {J : Nat → ab_K} {Q : Option Value → ab_H → Prop} {os : List ab_O} {n bc bs : Nat} {st : List Value} {h : ab_H} {ls : List (Option Value)} {w0 w1 w2 : Value} {len i y ne p1 p2 p3 p4 b : Nat} {v : Int} : ab_wp d J Q (((.invokespecial i), len, [y, 4, 2, ne, p1, p2, p3, p4], v) :: os) n bc bs ls (w2 :: w1 :: w0 :: .ref b :: st) h = (1 ≤ d ∧ ab_st1 st = true ∧ True ∧ ab_mc y ≤ bc ∧ ab_ms y ≤ bs ∧ ab_C (d - 1) y n [.ref b, w0, w1, w2] h (fun rv h' => ab_wp d J Q os (n + ab_mc y) (bc - ab_mc y) (bs - ab_ms y) ls (rv.toList ++ st) h')) := rfl
theorem ev_callv_5 {d : Nat} {J : Nat → ab_K} {Q : Option Value → ab_H → Prop} {os : List ab_O} {n bc bs : Nat} {st : List Value} {h : ab_H} {ls : List (Option Value)} {w0 w1 w2 w3 : Value} {len i y ne p1 p2 p3 p4 ci b : Nat} {v : Int} : ab_wp d J Q (((.invokevirtual i), len, [y, 5, 0, ne, p1, p2, p3, p4, ci], v) :: os) n bc bs ls (w3 :: w2 :: w1 :: w0 :: .ref b :: st) h = (1 ≤ d ∧ ab_st1 st = true ∧ ab_ac n b ci ∧ ab_C (d - 1) y n [.ref b, w0, w1, w2, w3] h (fun rv h' => ab_wp d J Q os n bc bs ls (rv.toList ++ st) h')) := rfl
theorem ev_calls_4 {d : Nat} {J : Nat → ab_K} {Q : Option Value → ab_H → Prop} {os : List ab_O} {n bc bs : Nat} {st : List Value} {h : ab_H} {ls : List (Option Value)} {w0 w1 w2 w3 : Value} {len i y ne p1 p2 p3 p4 : Nat} {v : Int} : ab_wp d J Q (((.invokestatic i), len, [y, 4, 1, ne, p1, p2, p3, p4], v) :: os) n bc bs ls (w3 :: w2 :: w1 :: w0 :: st) h = (1 ≤ d ∧ ab_st1 st = true ∧ ab_C (d - 1) y n [w0, w1, w2, w3] h (fun rv h' => ab_wp d J Q os n bc bs ls (rv.toList ++ st) h')) := rfl
theorem ev_calli_5 {d : Nat} {J : Nat → ab_K} {Q : Option Value → ab_H → Prop} {os : List ab_O} {n bc bs : Nat} {st : List Value} {h : ab_H} {ls : List (Option Value)} {w0 w1 w2 w3 : Value} {len i y ne p1 p2 p3 p4 b : Nat} {v : Int} : ab_wp d J Q (((.invokespecial i), len, [y, 5, 2, ne, p1, p2, p3, p4], v) :: os) n bc bs ls (w3 :: w2 :: w1 :: w0 :: .ref b :: st) h = (1 ≤ d ∧ ab_st1 st = true ∧ True ∧ ab_mc y ≤ bc ∧ ab_ms y ≤ bs ∧ ab_C (d - 1) y n [.ref b, w0, w1, w2, w3] h (fun rv h' => ab_wp d J Q os (n + ab_mc y) (bc - ab_mc y) (bs - ab_ms y) ls (rv.toList ++ st) h')) := rfl
theorem ev_callv_6 {d : Nat} {J : Nat → ab_K} {Q : Option Value → ab_H → Prop} {os : List ab_O} {n bc bs : Nat} {st : List Value} {h : ab_H} {ls : List (Option Value)} {w0 w1 w2 w3 w4 : Value} {len i y ne p1 p2 p3 p4 ci b : Nat} {v : Int} : ab_wp d J Q (((.invokevirtual i), len, [y, 6, 0, ne, p1, p2, p3, p4, ci], v) :: os) n bc bs ls (w4 :: w3 :: w2 :: w1 :: w0 :: .ref b :: st) h = (1 ≤ d ∧ ab_st1 st = true ∧ ab_ac n b ci ∧ ab_C (d - 1) y n [.ref b, w0, w1, w2, w3, w4] h (fun rv h' => ab_wp d J Q os n bc bs ls (rv.toList ++ st) h')) := rfl
theorem ev_calls_5 {d : Nat} {J : Nat → ab_K} {Q : Option Value → ab_H → Prop} {os : List ab_O} {n bc bs : Nat} {st : List Value} {h : ab_H} {ls : List (Option Value)} {w0 w1 w2 w3 w4 : Value} {len i y ne p1 p2 p3 p4 : Nat} {v : Int} : ab_wp d J Q (((.invokestatic i), len, [y, 5, 1, ne, p1, p2, p3, p4], v) :: os) n bc bs ls (w4 :: w3 :: w2 :: w1 :: w0 :: st) h = (1 ≤ d ∧ ab_st1 st = true ∧ ab_C (d - 1) y n [w0, w1, w2, w3, w4] h (fun rv h' => ab_wp d J Q os n bc bs ls (rv.toList ++ st) h')) := rfl
theorem ev_calli_6 {d : Nat} {J : Nat → ab_K} {Q : Option Value → ab_H → Prop} {os : List ab_O} {n bc bs : Nat} {st : List Value} {h : ab_H} {ls : List (Option Value)} {w0 w1 w2 w3 w4 : Value} {len i y ne p1 p2 p3 p4 b : Nat} {v : Int} : ab_wp d J Q (((.invokespecial i), len, [y, 6, 2, ne, p1, p2, p3, p4], v) :: os) n bc bs ls (w4 :: w3 :: w2 :: w1 :: w0 :: .ref b :: st) h = (1 ≤ d ∧ ab_st1 st = true ∧ True ∧ ab_mc y ≤ bc ∧ ab_ms y ≤ bs ∧ ab_C (d - 1) y n [.ref b, w0, w1, w2, w3, w4] h (fun rv h' => ab_wp d J Q os (n + ab_mc y) (bc - ab_mc y) (bs - ab_ms y) ls (rv.toList ++ st) h')) := rfl
theorem ev_callv_7 {d : Nat} {J : Nat → ab_K} {Q : Option Value → ab_H → Prop} {os : List ab_O} {n bc bs : Nat} {st : List Value} {h : ab_H} {ls : List (Option Value)} {w0 w1 w2 w3 w4 w5 : Value} {len i y ne p1 p2 p3 p4 ci b : Nat} {v : Int} : ab_wp d J Q (((.invokevirtual i), len, [y, 7, 0, ne, p1, p2, p3, p4, ci], v) :: os) n bc bs ls (w5 :: w4 :: w3 :: w2 :: w1 :: w0 :: .ref b :: st) h = (1 ≤ d ∧ ab_st1 st = true ∧ ab_ac n b ci ∧ ab_C (d - 1) y n [.ref b, w0, w1, w2, w3, w4, w5] h (fun rv h' => ab_wp d J Q os n bc bs ls (rv.toList ++ st) h')) := rfl
theorem ev_calls_6 {d : Nat} {J : Nat → ab_K} {Q : Option Value → ab_H → Prop} {os : List ab_O} {n bc bs : Nat} {st : List Value} {h : ab_H} {ls : List (Option Value)} {w0 w1 w2 w3 w4 w5 : Value} {len i y ne p1 p2 p3 p4 : Nat} {v : Int} : ab_wp d J Q (((.invokestatic i), len, [y, 6, 1, ne, p1, p2, p3, p4], v) :: os) n bc bs ls (w5 :: w4 :: w3 :: w2 :: w1 :: w0 :: st) h = (1 ≤ d ∧ ab_st1 st = true ∧ ab_C (d - 1) y n [w0, w1, w2, w3, w4, w5] h (fun rv h' => ab_wp d J Q os n bc bs ls (rv.toList ++ st) h')) := rfl
theorem ev_calli_7 {d : Nat} {J : Nat → ab_K} {Q : Option Value → ab_H → Prop} {os : List ab_O} {n bc bs : Nat} {st : List Value} {h : ab_H} {ls : List (Option Value)} {w0 w1 w2 w3 w4 w5 : Value} {len i y ne p1 p2 p3 p4 b : Nat} {v : Int} : ab_wp d J Q (((.invokespecial i), len, [y, 7, 2, ne, p1, p2, p3, p4], v) :: os) n bc bs ls (w5 :: w4 :: w3 :: w2 :: w1 :: w0 :: .ref b :: st) h = (1 ≤ d ∧ ab_st1 st = true ∧ True ∧ ab_mc y ≤ bc ∧ ab_ms y ≤ bs ∧ ab_C (d - 1) y n [.ref b, w0, w1, w2, w3, w4, w5] h (fun rv h' => ab_wp d J Q os (n + ab_mc y) (bc - ab_mc y) (bs - ab_ms y) ls (rv.toList ++ st) h')) := rfl
theorem ev_callv_8 {d : Nat} {J : Nat → ab_K} {Q : Option Value → ab_H → Prop} {os : List ab_O} {n bc bs : Nat} {st : List Value} {h : ab_H} {ls : List (Option Value)} {w0 w1 w2 w3 w4 w5 w6 : Value} {len i y ne p1 p2 p3 p4 ci b : Nat} {v : Int} : ab_wp d J Q (((.invokevirtual i), len, [y, 8, 0, ne, p1, p2, p3, p4, ci], v) :: os) n bc bs ls (w6 :: w5 :: w4 :: w3 :: w2 :: w1 :: w0 :: .ref b :: st) h = (1 ≤ d ∧ ab_st1 st = true ∧ ab_ac n b ci ∧ ab_C (d - 1) y n [.ref b, w0, w1, w2, w3, w4, w5, w6] h (fun rv h' => ab_wp d J Q os n bc bs ls (rv.toList ++ st) h')) := rfl
theorem ev_calls_7 {d : Nat} {J : Nat → ab_K} {Q : Option Value → ab_H → Prop} {os : List ab_O} {n bc bs : Nat} {st : List Value} {h : ab_H} {ls : List (Option Value)} {w0 w1 w2 w3 w4 w5 w6 : Value} {len i y ne p1 p2 p3 p4 : Nat} {v : Int} : ab_wp d J Q (((.invokestatic i), len, [y, 7, 1, ne, p1, p2, p3, p4], v) :: os) n bc bs ls (w6 :: w5 :: w4 :: w3 :: w2 :: w1 :: w0 :: st) h = (1 ≤ d ∧ ab_st1 st = true ∧ ab_C (d - 1) y n [w0, w1, w2, w3, w4, w5, w6] h (fun rv h' => ab_wp d J Q os n bc bs ls (rv.toList ++ st) h')) := rfl
theorem ev_calli_8 {d : Nat} {J : Nat → ab_K} {Q : Option Value → ab_H → Prop} {os : List ab_O} {n bc bs : Nat} {st : List Value} {h : ab_H} {ls : List (Option Value)} {w0 w1 w2 w3 w4 w5 w6 : Value} {len i y ne p1 p2 p3 p4 b : Nat} {v : Int} : ab_wp d J Q (((.invokespecial i), len, [y, 8, 2, ne, p1, p2, p3, p4], v) :: os) n bc bs ls (w6 :: w5 :: w4 :: w3 :: w2 :: w1 :: w0 :: .ref b :: st) h = (1 ≤ d ∧ ab_st1 st = true ∧ True ∧ ab_mc y ≤ bc ∧ ab_ms y ≤ bs ∧ ab_C (d - 1) y n [.ref b, w0, w1, w2, w3, w4, w5, w6] h (fun rv h' => ab_wp d J Q os (n + ab_mc y) (bc - ab_mc y) (bs - ab_ms y) ls (rv.toList ++ st) h')) := rfl
theorem ev_objinit {d : Nat} {J : Nat → ab_K} {Q : Option Value → ab_H → Prop} {os : List ab_O} {n bc bs : Nat} {st : List Value} {h : ab_H} {ls : List (Option Value)} {len : Nat} {dt : List Nat} {v : Int} {i b : Nat} : ab_wp d J Q (((.invokespecial i), len, (999 :: 1 :: 3 :: dt), v) :: os) n bc bs ls (.ref b :: st) h = (1 ≤ d ∧ ab_st1 st = true ∧ ab_wp d J Q os n bc bs ls st h) := rfl
theorem ev_raw {d : Nat} {J : Nat → ab_K} {Q : Option Value → ab_H → Prop} {os : List ab_O} {n bc bs : Nat} {st : List Value} {h : ab_H} {ls : List (Option Value)} {len : Nat} {dt : List Nat} {v : Int} {i : Nat} {x : UInt32} : ab_wp d J Q (((.invokestatic i), len, (998 :: 1 :: 4 :: dt), v) :: os) n bc bs ls (.float x :: st) h = (1 ≤ d ∧ ab_st1 st = true ∧ ab_wp d J Q os n bc bs ls (.int x.toInt32 :: st) h) := rfl
theorem ev_mmax {d : Nat} {J : Nat → ab_K} {Q : Option Value → ab_H → Prop} {os : List ab_O} {n bc bs : Nat} {st : List Value} {h : ab_H} {ls : List (Option Value)} {len : Nat} {dt : List Nat} {v : Int} {i : Nat} {x y : Int32} : ab_wp d J Q (((.invokestatic i), len, (997 :: 2 :: 5 :: dt), v) :: os) n bc bs ls (.int y :: .int x :: st) h = (1 ≤ d ∧ ab_st1 st = true ∧ ab_wp d J Q os n bc bs ls (.int (if x < y then y else x) :: st) h) := rfl
theorem ev_mmin {d : Nat} {J : Nat → ab_K} {Q : Option Value → ab_H → Prop} {os : List ab_O} {n bc bs : Nat} {st : List Value} {h : ab_H} {ls : List (Option Value)} {len : Nat} {dt : List Nat} {v : Int} {i : Nat} {x y : Int32} : ab_wp d J Q (((.invokestatic i), len, (997 :: 2 :: 6 :: dt), v) :: os) n bc bs ls (.int y :: .int x :: st) h = (1 ≤ d ∧ ab_st1 st = true ∧ ab_wp d J Q os n bc bs ls (.int (if y < x then y else x) :: st) h) := rfl
theorem ev_ireturn_0 {d : Nat} {J : Nat → ab_K} {Q : Option Value → ab_H → Prop} {os : List ab_O} {n bc bs : Nat} {h : ab_H} {ls : List (Option Value)} {len : Nat} {v : Int} {x : Int32} : ab_wp d J Q ((.ireturn, len, [0], v) :: os) n bc bs ls [.int x] h = (bc = 0 ∧ Q (some (.int x)) h) := rfl
theorem ev_ireturn_1 {d : Nat} {J : Nat → ab_K} {Q : Option Value → ab_H → Prop} {os : List ab_O} {n bc bs : Nat} {h : ab_H} {ls : List (Option Value)} {len : Nat} {v : Int} {x : Int32} : ab_wp d J Q ((.ireturn, len, [1], v) :: os) n bc bs ls [.int x] h = (bc = 0 ∧ (x = 0 ∨ x = 1) ∧ Q (some (.int x)) h) := rfl
theorem ev_areturn {d : Nat} {J : Nat → ab_K} {Q : Option Value → ab_H → Prop} {os : List ab_O} {n bc bs : Nat} {h : ab_H} {ls : List (Option Value)} {len : Nat} {dt : List Nat} {v : Int} {x : Nat} : ab_wp d J Q ((.areturn, len, dt, v) :: os) n bc bs ls [.ref x] h = (bc = 0 ∧ Q (some (.ref x)) h) := rfl
theorem ev_areturnN {d : Nat} {J : Nat → ab_K} {Q : Option Value → ab_H → Prop} {os : List ab_O} {n bc bs : Nat} {h : ab_H} {ls : List (Option Value)} {len : Nat} {dt : List Nat} {v : Int} : ab_wp d J Q ((.areturn, len, dt, v) :: os) n bc bs ls [.null] h = (bc = 0 ∧ Q (some .null) h) := rfl
theorem ev_return_ {d : Nat} {J : Nat → ab_K} {Q : Option Value → ab_H → Prop} {os : List ab_O} {n bc bs : Nat} {h : ab_H} {ls : List (Option Value)} {len : Nat} {dt : List Nat} {v : Int} : ab_wp d J Q ((.return_, len, dt, v) :: os) n bc bs ls [] h = (bc = 0 ∧ Q none h) := rfl
theorem bq_Integer_bitCount_0 : ab_bl bt_Integer_bitCount 0 = bk_Integer_bitCount_0 := rfl
theorem bq_Names_init_0 : ab_bl bt_Names_init 0 = bk_Names_init_0 := rfl
theorem bq_Names_has_0 : ab_bl bt_Names_has 0 = bk_Names_has_0 := rfl
theorem bq_Names_has_16 : ab_bl bt_Names_has 16 = bk_Names_has_16 := rfl
theorem bq_Names_has_17 : ab_bl bt_Names_has 17 = bk_Names_has_17 := rfl
theorem bq_Names_fameOf_0 : ab_bl bt_Names_fameOf 0 = bk_Names_fameOf_0 := rfl
theorem bq_Names_fameOf_22 : ab_bl bt_Names_fameOf 22 = bk_Names_fameOf_22 := rfl
theorem bq_Names_fameOf_23 : ab_bl bt_Names_fameOf 23 = bk_Names_fameOf_23 := rfl
theorem bq_Names_themeOf_0 : ab_bl bt_Names_themeOf 0 = bk_Names_themeOf_0 := rfl
theorem bq_Names_themeOf_22 : ab_bl bt_Names_themeOf 22 = bk_Names_themeOf_22 := rfl
theorem bq_Names_themeOf_23 : ab_bl bt_Names_themeOf 23 = bk_Names_themeOf_23 := rfl
theorem bq_Names_setOf_0 : ab_bl bt_Names_setOf 0 = bk_Names_setOf_0 := rfl
theorem bq_Names_setOf_4 : ab_bl bt_Names_setOf 4 = bk_Names_setOf_4 := rfl
theorem bq_Names_setOf_37 : ab_bl bt_Names_setOf 37 = bk_Names_setOf_37 := rfl
theorem bq_Names_setOf_43 : ab_bl bt_Names_setOf 43 = bk_Names_setOf_43 := rfl
theorem bq_Names_add_0 : ab_bl bt_Names_add 0 = bk_Names_add_0 := rfl
theorem bq_Names_add_61 : ab_bl bt_Names_add 61 = bk_Names_add_61 := rfl
theorem bq_Names_copyFrom_0 : ab_bl bt_Names_copyFrom 0 = bk_Names_copyFrom_0 := rfl
theorem bq_Names_copyFrom_7 : ab_bl bt_Names_copyFrom 7 = bk_Names_copyFrom_7 := rfl
theorem bq_Names_copyFrom_35 : ab_bl bt_Names_copyFrom 35 = bk_Names_copyFrom_35 := rfl
theorem bq_Book_init_0 : ab_bl bt_Book_init 0 = bk_Book_init_0 := rfl
theorem bq_Book_numberAt_0 : ab_bl bt_Book_numberAt 0 = bk_Book_numberAt_0 := rfl
theorem bq_Book_numberAt_22 : ab_bl bt_Book_numberAt 22 = bk_Book_numberAt_22 := rfl
theorem bq_Book_numberAt_23 : ab_bl bt_Book_numberAt 23 = bk_Book_numberAt_23 := rfl
theorem bq_Book_kindOf_0 : ab_bl bt_Book_kindOf 0 = bk_Book_kindOf_0 := rfl
theorem bq_Book_kindOf_22 : ab_bl bt_Book_kindOf 22 = bk_Book_kindOf_22 := rfl
theorem bq_Book_kindOf_23 : ab_bl bt_Book_kindOf 23 = bk_Book_kindOf_23 := rfl
theorem bq_Book_nameOn_0 : ab_bl bt_Book_nameOn 0 = bk_Book_nameOn_0 := rfl
theorem bq_Book_nameOn_22 : ab_bl bt_Book_nameOn 22 = bk_Book_nameOn_22 := rfl
theorem bq_Book_nameOn_23 : ab_bl bt_Book_nameOn 23 = bk_Book_nameOn_23 := rfl
theorem bq_Book_friendOn_0 : ab_bl bt_Book_friendOn 0 = bk_Book_friendOn_0 := rfl
theorem bq_Book_friendOn_22 : ab_bl bt_Book_friendOn 22 = bk_Book_friendOn_22 := rfl
theorem bq_Book_friendOn_23 : ab_bl bt_Book_friendOn 23 = bk_Book_friendOn_23 := rfl
theorem bq_Book_find_0 : ab_bl bt_Book_find 0 = bk_Book_find_0 := rfl
theorem bq_Book_find_2 : ab_bl bt_Book_find 2 = bk_Book_find_2 := rfl
theorem bq_Book_find_31 : ab_bl bt_Book_find 31 = bk_Book_find_31 := rfl
theorem bq_Book_find_37 : ab_bl bt_Book_find 37 = bk_Book_find_37 := rfl
theorem bq_Book_startsEntry_0 : ab_bl bt_Book_startsEntry 0 = bk_Book_startsEntry_0 := rfl
theorem bq_Book_startsEntry_18 : ab_bl bt_Book_startsEntry 18 = bk_Book_startsEntry_18 := rfl
theorem bq_Book_startsEntry_22 : ab_bl bt_Book_startsEntry 22 = bk_Book_startsEntry_22 := rfl
theorem bq_Book_startsEntry_23 : ab_bl bt_Book_startsEntry 23 = bk_Book_startsEntry_23 := rfl
theorem bq_Book_countEntries_0 : ab_bl bt_Book_countEntries 0 = bk_Book_countEntries_0 := rfl
theorem bq_Book_countEntries_4 : ab_bl bt_Book_countEntries 4 = bk_Book_countEntries_4 := rfl
theorem bq_Book_countEntries_25 : ab_bl bt_Book_countEntries 25 = bk_Book_countEntries_25 := rfl
theorem bq_Book_countEntries_31 : ab_bl bt_Book_countEntries 31 = bk_Book_countEntries_31 := rfl
theorem bq_Book_countEntriesOf_0 : ab_bl bt_Book_countEntriesOf 0 = bk_Book_countEntriesOf_0 := rfl
theorem bq_Book_countEntriesOf_4 : ab_bl bt_Book_countEntriesOf 4 = bk_Book_countEntriesOf_4 := rfl
theorem bq_Book_countEntriesOf_34 : ab_bl bt_Book_countEntriesOf 34 = bk_Book_countEntriesOf_34 := rfl
theorem bq_Book_countEntriesOf_40 : ab_bl bt_Book_countEntriesOf 40 = bk_Book_countEntriesOf_40 := rfl
theorem bq_Book_countDedicatedTo_0 : ab_bl bt_Book_countDedicatedTo 0 = bk_Book_countDedicatedTo_0 := rfl
theorem bq_Book_countDedicatedTo_4 : ab_bl bt_Book_countDedicatedTo 4 = bk_Book_countDedicatedTo_4 := rfl
theorem bq_Book_countDedicatedTo_34 : ab_bl bt_Book_countDedicatedTo 34 = bk_Book_countDedicatedTo_34 := rfl
theorem bq_Book_countDedicatedTo_40 : ab_bl bt_Book_countDedicatedTo 40 = bk_Book_countDedicatedTo_40 := rfl
theorem bq_Book_countDedicated_0 : ab_bl bt_Book_countDedicated 0 = bk_Book_countDedicated_0 := rfl
theorem bq_Book_nameSet_0 : ab_bl bt_Book_nameSet 0 = bk_Book_nameSet_0 := rfl
theorem bq_Book_namesAhead_0 : ab_bl bt_Book_namesAhead 0 = bk_Book_namesAhead_0 := rfl
theorem bq_Book_namesAhead_4 : ab_bl bt_Book_namesAhead 4 = bk_Book_namesAhead_4 := rfl
theorem bq_Book_namesAhead_27 : ab_bl bt_Book_namesAhead 27 = bk_Book_namesAhead_27 := rfl
theorem bq_Book_namesAhead_33 : ab_bl bt_Book_namesAhead 33 = bk_Book_namesAhead_33 := rfl
theorem bq_Book_valueOn_0 : ab_bl bt_Book_valueOn 0 = bk_Book_valueOn_0 := rfl
theorem bq_Book_valueOn_15 : ab_bl bt_Book_valueOn 15 = bk_Book_valueOn_15 := rfl
theorem bq_Book_valueOn_16 : ab_bl bt_Book_valueOn 16 = bk_Book_valueOn_16 := rfl
theorem bq_Book_valueBehind_0 : ab_bl bt_Book_valueBehind 0 = bk_Book_valueBehind_0 := rfl
theorem bq_Book_valueBehind_14 : ab_bl bt_Book_valueBehind 14 = bk_Book_valueBehind_14 := rfl
theorem bq_Book_valueBehind_16 : ab_bl bt_Book_valueBehind 16 = bk_Book_valueBehind_16 := rfl
theorem bq_Book_valueBehind_57 : ab_bl bt_Book_valueBehind 57 = bk_Book_valueBehind_57 := rfl
theorem bq_Book_valueBehind_61 : ab_bl bt_Book_valueBehind 61 = bk_Book_valueBehind_61 := rfl
theorem bq_Book_valueBehind_63 : ab_bl bt_Book_valueBehind 63 = bk_Book_valueBehind_63 := rfl
theorem bq_Book_valueBehind_79 : ab_bl bt_Book_valueBehind 79 = bk_Book_valueBehind_79 := rfl
theorem bq_Book_valueBehind_80 : ab_bl bt_Book_valueBehind 80 = bk_Book_valueBehind_80 := rfl
theorem bq_Book_valueBehind_94 : ab_bl bt_Book_valueBehind 94 = bk_Book_valueBehind_94 := rfl
theorem bq_Book_valueBehind_96 : ab_bl bt_Book_valueBehind 96 = bk_Book_valueBehind_96 := rfl
theorem bq_Book_sumOfValues_0 : ab_bl bt_Book_sumOfValues 0 = bk_Book_sumOfValues_0 := rfl
theorem bq_Book_sumOfValues_7 : ab_bl bt_Book_sumOfValues 7 = bk_Book_sumOfValues_7 := rfl
theorem bq_Book_sumOfValues_49 : ab_bl bt_Book_sumOfValues 49 = bk_Book_sumOfValues_49 := rfl
theorem bq_Book_sumOfValues_55 : ab_bl bt_Book_sumOfValues 55 = bk_Book_sumOfValues_55 := rfl
theorem bq_Book_wholeThemes_0 : ab_bl bt_Book_wholeThemes 0 = bk_Book_wholeThemes_0 := rfl
theorem bq_Book_wholeThemes_16 : ab_bl bt_Book_wholeThemes 16 = bk_Book_wholeThemes_16 := rfl
theorem bq_Book_wholeThemes_51 : ab_bl bt_Book_wholeThemes 51 = bk_Book_wholeThemes_51 := rfl
theorem bq_Book_wholeThemes_57 : ab_bl bt_Book_wholeThemes 57 = bk_Book_wholeThemes_57 := rfl
theorem bq_Book_worth_0 : ab_bl bt_Book_worth 0 = bk_Book_worth_0 := rfl
theorem bq_Book_worth_15 : ab_bl bt_Book_worth 15 = bk_Book_worth_15 := rfl
theorem bq_Book_worth_45 : ab_bl bt_Book_worth 45 = bk_Book_worth_45 := rfl
theorem bq_Book_worth_51 : ab_bl bt_Book_worth 51 = bk_Book_worth_51 := rfl
theorem bq_Book_isJoined_0 : ab_bl bt_Book_isJoined 0 = bk_Book_isJoined_0 := rfl
theorem bq_Book_isJoined_33 : ab_bl bt_Book_isJoined 33 = bk_Book_isJoined_33 := rfl
theorem bq_Book_isJoined_34 : ab_bl bt_Book_isJoined 34 = bk_Book_isJoined_34 := rfl
theorem bq_Book_startsBundle_0 : ab_bl bt_Book_startsBundle 0 = bk_Book_startsBundle_0 := rfl
theorem bq_Book_startsBundle_14 : ab_bl bt_Book_startsBundle 14 = bk_Book_startsBundle_14 := rfl
theorem bq_Book_startsBundle_15 : ab_bl bt_Book_startsBundle 15 = bk_Book_startsBundle_15 := rfl
theorem bq_Book_bundleFirst_0 : ab_bl bt_Book_bundleFirst 0 = bk_Book_bundleFirst_0 := rfl
theorem bq_Book_bundleFirst_2 : ab_bl bt_Book_bundleFirst 2 = bk_Book_bundleFirst_2 := rfl
theorem bq_Book_bundleFirst_22 : ab_bl bt_Book_bundleFirst 22 = bk_Book_bundleFirst_22 := rfl
theorem bq_Book_bundleEnd_0 : ab_bl bt_Book_bundleEnd 0 = bk_Book_bundleEnd_0 := rfl
theorem bq_Book_bundleEnd_4 : ab_bl bt_Book_bundleEnd 4 = bk_Book_bundleEnd_4 := rfl
theorem bq_Book_bundleEnd_28 : ab_bl bt_Book_bundleEnd 28 = bk_Book_bundleEnd_28 := rfl
theorem bq_Book_bundleSize_0 : ab_bl bt_Book_bundleSize 0 = bk_Book_bundleSize_0 := rfl
theorem bq_Book_countBundles_0 : ab_bl bt_Book_countBundles 0 = bk_Book_countBundles_0 := rfl
theorem bq_Book_countBundles_4 : ab_bl bt_Book_countBundles 4 = bk_Book_countBundles_4 := rfl
theorem bq_Book_countBundles_23 : ab_bl bt_Book_countBundles 23 = bk_Book_countBundles_23 := rfl
theorem bq_Book_countBundles_29 : ab_bl bt_Book_countBundles 29 = bk_Book_countBundles_29 := rfl
theorem bq_Book_canShift_0 : ab_bl bt_Book_canShift 0 = bk_Book_canShift_0 := rfl
theorem bq_Book_canShift_18 : ab_bl bt_Book_canShift 18 = bk_Book_canShift_18 := rfl
theorem bq_Book_canShift_39 : ab_bl bt_Book_canShift 39 = bk_Book_canShift_39 := rfl
theorem bq_Book_canShift_43 : ab_bl bt_Book_canShift 43 = bk_Book_canShift_43 := rfl
theorem bq_Book_canShift_53 : ab_bl bt_Book_canShift 53 = bk_Book_canShift_53 := rfl
theorem bq_Book_canShift_54 : ab_bl bt_Book_canShift 54 = bk_Book_canShift_54 := rfl
theorem bq_Book_setEntry_0 : ab_bl bt_Book_setEntry 0 = bk_Book_setEntry_0 := rfl
theorem bq_Book_setEntry_53 : ab_bl bt_Book_setEntry 53 = bk_Book_setEntry_53 := rfl
theorem bq_Book_setFriend_0 : ab_bl bt_Book_setFriend 0 = bk_Book_setFriend_0 := rfl
theorem bq_Book_addLeaf_0 : ab_bl bt_Book_addLeaf 0 = bk_Book_addLeaf_0 := rfl
theorem bq_Book_addLeaf_67 : ab_bl bt_Book_addLeaf 67 = bk_Book_addLeaf_67 := rfl
theorem bq_Book_addLeaves_0 : ab_bl bt_Book_addLeaves 0 = bk_Book_addLeaves_0 := rfl
theorem bq_Book_addLeaves_3 : ab_bl bt_Book_addLeaves 3 = bk_Book_addLeaves_3 := rfl
theorem bq_Book_addLeaves_129 : ab_bl bt_Book_addLeaves 129 = bk_Book_addLeaves_129 := rfl
theorem bq_Book_clearFor_0 : ab_bl bt_Book_clearFor 0 = bk_Book_clearFor_0 := rfl
theorem bq_Book_copyFrom_0 : ab_bl bt_Book_copyFrom 0 = bk_Book_copyFrom_0 := rfl
theorem bq_Bench_init_0 : ab_bl bt_Bench_init 0 = bk_Bench_init_0 := rfl
theorem bq_Bench_takeOut_0 : ab_bl bt_Bench_takeOut 0 = bk_Bench_takeOut_0 := rfl
theorem bq_Bench_shift_0 : ab_bl bt_Bench_shift 0 = bk_Bench_shift_0 := rfl
theorem bq_Bench_layOut_0 : ab_bl bt_Bench_layOut 0 = bk_Bench_layOut_0 := rfl
theorem bq_Bench_layOutFor_0 : ab_bl bt_Bench_layOutFor 0 = bk_Bench_layOutFor_0 := rfl
theorem bq_Bench_fits_0 : ab_bl bt_Bench_fits 0 = bk_Bench_fits_0 := rfl
theorem bq_Bench_fits_28 : ab_bl bt_Bench_fits 28 = bk_Bench_fits_28 := rfl
theorem bq_Bench_fits_29 : ab_bl bt_Bench_fits 29 = bk_Bench_fits_29 := rfl
theorem bq_Bench_gainOfOne_0 : ab_bl bt_Bench_gainOfOne 0 = bk_Bench_gainOfOne_0 := rfl
theorem bq_Bench_gainOfOther_0 : ab_bl bt_Bench_gainOfOther 0 = bk_Bench_gainOfOther_0 := rfl
theorem bq_Bench_settle_0 : ab_bl bt_Bench_settle 0 = bk_Bench_settle_0 := rfl
theorem bq_State_init_0 : ab_bl bt_State_init 0 = bk_State_init_0 := rfl
theorem bq_State_copyFrom_0 : ab_bl bt_State_copyFrom 0 = bk_State_copyFrom_0 := rfl
theorem bq_State_copyFrom_13 : ab_bl bt_State_copyFrom 13 = bk_State_copyFrom_13 := rfl
theorem bq_State_copyFrom_47 : ab_bl bt_State_copyFrom 47 = bk_State_copyFrom_47 := rfl
theorem bq_State_bookOf_0 : ab_bl bt_State_bookOf 0 = bk_State_bookOf_0 := rfl
theorem bq_State_bookOf_28 : ab_bl bt_State_bookOf 28 = bk_State_bookOf_28 := rfl
theorem bq_State_bookOf_33 : ab_bl bt_State_bookOf 33 = bk_State_bookOf_33 := rfl
theorem bq_State_bookOf_38 : ab_bl bt_State_bookOf 38 = bk_State_bookOf_38 := rfl
theorem bq_State_bookOf_43 : ab_bl bt_State_bookOf 43 = bk_State_bookOf_43 := rfl
theorem bq_State_bookWith_0 : ab_bl bt_State_bookWith 0 = bk_State_bookWith_0 := rfl
theorem bq_State_bookWith_2 : ab_bl bt_State_bookWith 2 = bk_State_bookWith_2 := rfl
theorem bq_State_bookWith_26 : ab_bl bt_State_bookWith 26 = bk_State_bookWith_26 := rfl
theorem bq_State_bookWith_32 : ab_bl bt_State_bookWith 32 = bk_State_bookWith_32 := rfl
theorem bq_State_purseOf_0 : ab_bl bt_State_purseOf 0 = bk_State_purseOf_0 := rfl
theorem bq_State_purseOf_22 : ab_bl bt_State_purseOf 22 = bk_State_purseOf_22 := rfl
theorem bq_State_purseOf_23 : ab_bl bt_State_purseOf 23 = bk_State_purseOf_23 := rfl
theorem bq_State_setPurse_0 : ab_bl bt_State_setPurse 0 = bk_State_setPurse_0 := rfl
theorem bq_State_setPurse_20 : ab_bl bt_State_setPurse 20 = bk_State_setPurse_20 := rfl
theorem bq_State_addName_0 : ab_bl bt_State_addName 0 = bk_State_addName_0 := rfl
theorem bq_State_addName_18 : ab_bl bt_State_addName 18 = bk_State_addName_18 := rfl
theorem bq_State_addName_21 : ab_bl bt_State_addName 21 = bk_State_addName_21 := rfl
theorem bq_State_addName_36 : ab_bl bt_State_addName 36 = bk_State_addName_36 := rfl
theorem bq_State_addLeaf_0 : ab_bl bt_State_addLeaf 0 = bk_State_addLeaf_0 := rfl
theorem bq_State_addLeaf_10 : ab_bl bt_State_addLeaf 10 = bk_State_addLeaf_10 := rfl
theorem bq_State_addLeaf_28 : ab_bl bt_State_addLeaf 28 = bk_State_addLeaf_28 := rfl
theorem bq_State_addEntry_0 : ab_bl bt_State_addEntry 0 = bk_State_addEntry_0 := rfl
theorem bq_State_addEntry_30 : ab_bl bt_State_addEntry 30 = bk_State_addEntry_30 := rfl
theorem bq_State_addEntry_33 : ab_bl bt_State_addEntry 33 = bk_State_addEntry_33 := rfl
theorem bq_State_addEntry_58 : ab_bl bt_State_addEntry 58 = bk_State_addEntry_58 := rfl
theorem bq_State_addWideEntry_0 : ab_bl bt_State_addWideEntry 0 = bk_State_addWideEntry_0 := rfl
theorem bq_State_addWideEntry_21 : ab_bl bt_State_addWideEntry 21 = bk_State_addWideEntry_21 := rfl
theorem bq_State_addWideEntry_24 : ab_bl bt_State_addWideEntry 24 = bk_State_addWideEntry_24 := rfl
theorem bq_State_addWideEntry_70 : ab_bl bt_State_addWideEntry 70 = bk_State_addWideEntry_70 := rfl
theorem bq_State_addWideEntry_73 : ab_bl bt_State_addWideEntry 73 = bk_State_addWideEntry_73 := rfl
theorem bq_State_setFriend_0 : ab_bl bt_State_setFriend 0 = bk_State_setFriend_0 := rfl
theorem bq_State_setFriend_26 : ab_bl bt_State_setFriend 26 = bk_State_setFriend_26 := rfl
theorem bq_State_setFriend_29 : ab_bl bt_State_setFriend 29 = bk_State_setFriend_29 := rfl
theorem bq_State_setFriend_66 : ab_bl bt_State_setFriend 66 = bk_State_setFriend_66 := rfl
theorem bq_State_setFriend_69 : ab_bl bt_State_setFriend 69 = bk_State_setFriend_69 := rfl
theorem bq_State_setFriend_96 : ab_bl bt_State_setFriend 96 = bk_State_setFriend_96 := rfl
theorem bq_State_setFriend_112 : ab_bl bt_State_setFriend 112 = bk_State_setFriend_112 := rfl
theorem bq_State_shiftBundle_0 : ab_bl bt_State_shiftBundle 0 = bk_State_shiftBundle_0 := rfl
theorem bq_State_shiftBundle_16 : ab_bl bt_State_shiftBundle 16 = bk_State_shiftBundle_16 := rfl
theorem bq_State_shiftBundle_19 : ab_bl bt_State_shiftBundle 19 = bk_State_shiftBundle_19 := rfl
theorem bq_State_shiftBundle_41 : ab_bl bt_State_shiftBundle 41 = bk_State_shiftBundle_41 := rfl
theorem bq_State_exchange_0 : ab_bl bt_State_exchange 0 = bk_State_exchange_0 := rfl
theorem bq_State_exchange_31 : ab_bl bt_State_exchange 31 = bk_State_exchange_31 := rfl
theorem bq_State_exchange_34 : ab_bl bt_State_exchange 34 = bk_State_exchange_34 := rfl
theorem bq_State_exchange_83 : ab_bl bt_State_exchange 83 = bk_State_exchange_83 := rfl
theorem bq_State_exchange_86 : ab_bl bt_State_exchange 86 = bk_State_exchange_86 := rfl
theorem bq_State_exchange_131 : ab_bl bt_State_exchange 131 = bk_State_exchange_131 := rfl
theorem bq_State_exchange_134 : ab_bl bt_State_exchange 134 = bk_State_exchange_134 := rfl
theorem bq_State_takeOut_0 : ab_bl bt_State_takeOut 0 = bk_State_takeOut_0 := rfl
theorem bq_State_takeOut_13 : ab_bl bt_State_takeOut 13 = bk_State_takeOut_13 := rfl
theorem bq_State_fillPurse_0 : ab_bl bt_State_fillPurse 0 = bk_State_fillPurse_0 := rfl
theorem bq_State_fillPurse_18 : ab_bl bt_State_fillPurse 18 = bk_State_fillPurse_18 := rfl
theorem bq_State_fillPurse_21 : ab_bl bt_State_fillPurse 21 = bk_State_fillPurse_21 := rfl
theorem bq_State_wealth_0 : ab_bl bt_State_wealth 0 = bk_State_wealth_0 := rfl
theorem bq_State_richest_0 : ab_bl bt_State_richest 0 = bk_State_richest_0 := rfl
theorem bq_State_richest_4 : ab_bl bt_State_richest 4 = bk_State_richest_4 := rfl
theorem bq_State_richest_24 : ab_bl bt_State_richest 24 = bk_State_richest_24 := rfl
theorem bq_State_richest_30 : ab_bl bt_State_richest 30 = bk_State_richest_30 := rfl
theorem bq_State_sumOfWorths_0 : ab_bl bt_State_sumOfWorths 0 = bk_State_sumOfWorths_0 := rfl
theorem bq_State_sumOfWorths_4 : ab_bl bt_State_sumOfWorths 4 = bk_State_sumOfWorths_4 := rfl
theorem bq_State_sumOfWorths_30 : ab_bl bt_State_sumOfWorths 30 = bk_State_sumOfWorths_30 := rfl
theorem bq_State_countLeaves_0 : ab_bl bt_State_countLeaves 0 = bk_State_countLeaves_0 := rfl
theorem bq_State_countEntries_0 : ab_bl bt_State_countEntries 0 = bk_State_countEntries_0 := rfl
theorem bq_State_countEntries_4 : ab_bl bt_State_countEntries 4 = bk_State_countEntries_4 := rfl
theorem bq_State_countEntries_26 : ab_bl bt_State_countEntries 26 = bk_State_countEntries_26 := rfl
theorem bq_State_countDedicated_0 : ab_bl bt_State_countDedicated 0 = bk_State_countDedicated_0 := rfl
theorem bq_State_countDedicated_4 : ab_bl bt_State_countDedicated 4 = bk_State_countDedicated_4 := rfl
theorem bq_State_countDedicated_26 : ab_bl bt_State_countDedicated 26 = bk_State_countDedicated_26 := rfl
theorem bq_State_countEntriesOf_0 : ab_bl bt_State_countEntriesOf 0 = bk_State_countEntriesOf_0 := rfl
theorem bq_State_countEntriesOf_4 : ab_bl bt_State_countEntriesOf 4 = bk_State_countEntriesOf_4 := rfl
theorem bq_State_countEntriesOf_27 : ab_bl bt_State_countEntriesOf 27 = bk_State_countEntriesOf_27 := rfl
theorem bq_State_ownersOf_0 : ab_bl bt_State_ownersOf 0 = bk_State_ownersOf_0 := rfl
theorem bq_State_ownersOf_4 : ab_bl bt_State_ownersOf 4 = bk_State_ownersOf_4 := rfl
theorem bq_State_ownersOf_27 : ab_bl bt_State_ownersOf 27 = bk_State_ownersOf_27 := rfl
theorem bq_State_ownersOf_33 : ab_bl bt_State_ownersOf 33 = bk_State_ownersOf_33 := rfl
theorem bq_BestTrade_init_0 : ab_bl bt_BestTrade_init 0 = bk_BestTrade_init_0 := rfl
theorem bq_BestTrade_search_0 : ab_bl bt_BestTrade_search 0 = bk_BestTrade_search_0 := rfl
theorem bq_BestTrade_search_15 : ab_bl bt_BestTrade_search 15 = bk_BestTrade_search_15 := rfl
theorem bq_BestTrade_search_28 : ab_bl bt_BestTrade_search 28 = bk_BestTrade_search_28 := rfl
theorem bq_BestTrade_search_69 : ab_bl bt_BestTrade_search 69 = bk_BestTrade_search_69 := rfl
theorem bq_BestTrade_search_75 : ab_bl bt_BestTrade_search 75 = bk_BestTrade_search_75 := rfl
theorem bq_BestTrade_search_81 : ab_bl bt_BestTrade_search 81 = bk_BestTrade_search_81 := rfl
theorem bq_BestTrade_searchBook_0 : ab_bl bt_BestTrade_searchBook 0 = bk_BestTrade_searchBook_0 := rfl
theorem bq_BestTrade_searchBook_3 : ab_bl bt_BestTrade_searchBook 3 = bk_BestTrade_searchBook_3 := rfl
theorem bq_BestTrade_searchBook_94 : ab_bl bt_BestTrade_searchBook 94 = bk_BestTrade_searchBook_94 := rfl
theorem bq_BestTrade_searchBook_100 : ab_bl bt_BestTrade_searchBook 100 = bk_BestTrade_searchBook_100 := rfl
theorem bq_History_init_0 : ab_bl bt_History_init 0 = bk_History_init_0 := rfl
theorem bq_History_prepare_0 : ab_bl bt_History_prepare 0 = bk_History_prepare_0 := rfl
theorem bq_History_keep_0 : ab_bl bt_History_keep 0 = bk_History_keep_0 := rfl
theorem bq_History_keep_60 : ab_bl bt_History_keep 60 = bk_History_keep_60 := rfl
theorem bq_History_restore_0 : ab_bl bt_History_restore 0 = bk_History_restore_0 := rfl
theorem bq_Orders_init_0 : ab_bl bt_Orders_init 0 = bk_Orders_init_0 := rfl
theorem bq_Orders_append_0 : ab_bl bt_Orders_append 0 = bk_Orders_append_0 := rfl
theorem bq_Orders_append_39 : ab_bl bt_Orders_append 39 = bk_Orders_append_39 := rfl
theorem bq_Orders_run_0 : ab_bl bt_Orders_run 0 = bk_Orders_run_0 := rfl
theorem bq_Orders_run_23 : ab_bl bt_Orders_run 23 = bk_Orders_run_23 := rfl
theorem bq_Orders_run_75 : ab_bl bt_Orders_run 75 = bk_Orders_run_75 := rfl
theorem bq_Orders_run_100 : ab_bl bt_Orders_run 100 = bk_Orders_run_100 := rfl
theorem bq_Orders_run_116 : ab_bl bt_Orders_run 116 = bk_Orders_run_116 := rfl
theorem bq_Orders_characterAt_0 : ab_bl bt_Orders_characterAt 0 = bk_Orders_characterAt_0 := rfl
theorem bq_Orders_characterAt_30 : ab_bl bt_Orders_characterAt 30 = bk_Orders_characterAt_30 := rfl
theorem bq_Orders_characterAt_31 : ab_bl bt_Orders_characterAt 31 = bk_Orders_characterAt_31 := rfl
theorem bq_Orders_readOrder_0 : ab_bl bt_Orders_readOrder 0 = bk_Orders_readOrder_0 := rfl
theorem bq_Orders_readOrder_18 : ab_bl bt_Orders_readOrder 18 = bk_Orders_readOrder_18 := rfl
theorem bq_Orders_readOrder_30 : ab_bl bt_Orders_readOrder 30 = bk_Orders_readOrder_30 := rfl
theorem bq_Orders_readOrder_50 : ab_bl bt_Orders_readOrder 50 = bk_Orders_readOrder_50 := rfl
theorem bq_Orders_readOrder_66 : ab_bl bt_Orders_readOrder 66 = bk_Orders_readOrder_66 := rfl
theorem bq_Orders_readOrder_77 : ab_bl bt_Orders_readOrder 77 = bk_Orders_readOrder_77 := rfl
theorem bq_Orders_skip_0 : ab_bl bt_Orders_skip 0 = bk_Orders_skip_0 := rfl
theorem bq_Orders_skip_14 : ab_bl bt_Orders_skip 14 = bk_Orders_skip_14 := rfl
theorem bq_Orders_readNumber_0 : ab_bl bt_Orders_readNumber 0 = bk_Orders_readNumber_0 := rfl
theorem bq_Orders_readNumber_63 : ab_bl bt_Orders_readNumber 63 = bk_Orders_readNumber_63 := rfl
theorem bq_Orders_readNumber_83 : ab_bl bt_Orders_readNumber 83 = bk_Orders_readNumber_83 := rfl
theorem bq_Orders_number_0 : ab_bl bt_Orders_number 0 = bk_Orders_number_0 := rfl
theorem bq_Orders_number_22 : ab_bl bt_Orders_number 22 = bk_Orders_number_22 := rfl
theorem bq_Orders_number_23 : ab_bl bt_Orders_number 23 = bk_Orders_number_23 := rfl
theorem bq_Orders_doOrder_0 : ab_bl bt_Orders_doOrder 0 = bk_Orders_doOrder_0 := rfl
theorem bq_Orders_doOrder_52 : ab_bl bt_Orders_doOrder 52 = bk_Orders_doOrder_52 := rfl
theorem bq_Orders_doOrder_62 : ab_bl bt_Orders_doOrder 62 = bk_Orders_doOrder_62 := rfl
theorem bq_Orders_doOrder_83 : ab_bl bt_Orders_doOrder 83 = bk_Orders_doOrder_83 := rfl
theorem bq_Orders_doOrder_121 : ab_bl bt_Orders_doOrder 121 = bk_Orders_doOrder_121 := rfl
theorem bq_Orders_doOrder_123 : ab_bl bt_Orders_doOrder 123 = bk_Orders_doOrder_123 := rfl
theorem bq_Orders_doOrder_124 : ab_bl bt_Orders_doOrder 124 = bk_Orders_doOrder_124 := rfl
theorem bq_Orders_doOrder_139 : ab_bl bt_Orders_doOrder 139 = bk_Orders_doOrder_139 := rfl
theorem bq_Orders_howManyNumbers_0 : ab_bl bt_Orders_howManyNumbers 0 = bk_Orders_howManyNumbers_0 := rfl
theorem bq_Orders_howManyNumbers_52 : ab_bl bt_Orders_howManyNumbers 52 = bk_Orders_howManyNumbers_52 := rfl
theorem bq_Orders_howManyNumbers_54 : ab_bl bt_Orders_howManyNumbers 54 = bk_Orders_howManyNumbers_54 := rfl
theorem bq_Orders_howManyNumbers_56 : ab_bl bt_Orders_howManyNumbers 56 = bk_Orders_howManyNumbers_56 := rfl
theorem bq_Orders_howManyNumbers_58 : ab_bl bt_Orders_howManyNumbers 58 = bk_Orders_howManyNumbers_58 := rfl
theorem bq_Orders_howManyNumbers_60 : ab_bl bt_Orders_howManyNumbers 60 = bk_Orders_howManyNumbers_60 := rfl
theorem bq_Orders_isDigit_0 : ab_bl bt_Orders_isDigit 0 = bk_Orders_isDigit_0 := rfl
theorem bq_Orders_isDigit_16 : ab_bl bt_Orders_isDigit 16 = bk_Orders_isDigit_16 := rfl
theorem bq_Orders_isDigit_17 : ab_bl bt_Orders_isDigit 17 = bk_Orders_isDigit_17 := rfl
theorem bq_Fair_init_0 : ab_bl bt_Fair_init 0 = bk_Fair_init_0 := rfl
theorem bq_Fair_name_0 : ab_bl bt_Fair_name 0 = bk_Fair_name_0 := rfl
theorem bq_Fair_leaf_0 : ab_bl bt_Fair_leaf 0 = bk_Fair_leaf_0 := rfl
theorem bq_Fair_sign_0 : ab_bl bt_Fair_sign 0 = bk_Fair_sign_0 := rfl
theorem bq_Fair_over_0 : ab_bl bt_Fair_over 0 = bk_Fair_over_0 := rfl
theorem bq_Fair_dedicate_0 : ab_bl bt_Fair_dedicate 0 = bk_Fair_dedicate_0 := rfl
theorem bq_Fair_move_0 : ab_bl bt_Fair_move 0 = bk_Fair_move_0 := rfl
theorem bq_Fair_trade_0 : ab_bl bt_Fair_trade 0 = bk_Fair_trade_0 := rfl
theorem bq_Fair_tear_0 : ab_bl bt_Fair_tear 0 = bk_Fair_tear_0 := rfl
theorem bq_Fair_coins_0 : ab_bl bt_Fair_coins 0 = bk_Fair_coins_0 := rfl
theorem bq_Fair_pageOf_0 : ab_bl bt_Fair_pageOf 0 = bk_Fair_pageOf_0 := rfl
theorem bq_Fair_pageOf_31 : ab_bl bt_Fair_pageOf 31 = bk_Fair_pageOf_31 := rfl
theorem bq_Fair_pageOf_34 : ab_bl bt_Fair_pageOf 34 = bk_Fair_pageOf_34 := rfl
theorem bq_Fair_pageOf_59 : ab_bl bt_Fair_pageOf 59 = bk_Fair_pageOf_59 := rfl
theorem bq_Fair_pageOf_88 : ab_bl bt_Fair_pageOf 88 = bk_Fair_pageOf_88 := rfl
theorem bq_Fair_pageOf_96 : ab_bl bt_Fair_pageOf 96 = bk_Fair_pageOf_96 := rfl
theorem bq_Fair_pageOf_112 : ab_bl bt_Fair_pageOf 112 = bk_Fair_pageOf_112 := rfl
theorem bq_Fair_pageOf_119 : ab_bl bt_Fair_pageOf 119 = bk_Fair_pageOf_119 := rfl
theorem bq_Fair_pageOf_120 : ab_bl bt_Fair_pageOf 120 = bk_Fair_pageOf_120 := rfl
theorem bq_Fair_pageOf_135 : ab_bl bt_Fair_pageOf 135 = bk_Fair_pageOf_135 := rfl
theorem bq_Fair_pageOf_136 : ab_bl bt_Fair_pageOf 136 = bk_Fair_pageOf_136 := rfl
theorem bq_Fair_pageOf_137 : ab_bl bt_Fair_pageOf 137 = bk_Fair_pageOf_137 := rfl
theorem bq_Fair_leafOf_0 : ab_bl bt_Fair_leafOf 0 = bk_Fair_leafOf_0 := rfl
theorem bq_Fair_leafOf_22 : ab_bl bt_Fair_leafOf 22 = bk_Fair_leafOf_22 := rfl
theorem bq_Fair_leafOf_25 : ab_bl bt_Fair_leafOf 25 = bk_Fair_leafOf_25 := rfl
theorem bq_Fair_leafOf_60 : ab_bl bt_Fair_leafOf 60 = bk_Fair_leafOf_60 := rfl
theorem bq_Fair_leafOf_65 : ab_bl bt_Fair_leafOf 65 = bk_Fair_leafOf_65 := rfl
theorem bq_Fair_leafOf_68 : ab_bl bt_Fair_leafOf 68 = bk_Fair_leafOf_68 := rfl
theorem bq_Fair_leafOf_75 : ab_bl bt_Fair_leafOf 75 = bk_Fair_leafOf_75 := rfl
theorem bq_Fair_at_0 : ab_bl bt_Fair_at 0 = bk_Fair_at_0 := rfl
theorem bq_Fair_at_11 : ab_bl bt_Fair_at 11 = bk_Fair_at_11 := rfl
theorem bq_Fair_at_14 : ab_bl bt_Fair_at 14 = bk_Fair_at_14 := rfl
theorem bq_Fair_at_39 : ab_bl bt_Fair_at 39 = bk_Fair_at_39 := rfl
theorem bq_Fair_at_41 : ab_bl bt_Fair_at 41 = bk_Fair_at_41 := rfl
theorem bq_Fair_collectorOf_0 : ab_bl bt_Fair_collectorOf 0 = bk_Fair_collectorOf_0 := rfl
theorem bq_Fair_collectorOf_10 : ab_bl bt_Fair_collectorOf 10 = bk_Fair_collectorOf_10 := rfl
theorem bq_Fair_collectorOf_72 : ab_bl bt_Fair_collectorOf 72 = bk_Fair_collectorOf_72 := rfl
theorem bq_Fair_collectorOf_81 : ab_bl bt_Fair_collectorOf 81 = bk_Fair_collectorOf_81 := rfl
theorem bq_Fair_collectorOf_86 : ab_bl bt_Fair_collectorOf 86 = bk_Fair_collectorOf_86 := rfl
theorem bq_Fair_collectorOf_91 : ab_bl bt_Fair_collectorOf 91 = bk_Fair_collectorOf_91 := rfl
theorem bq_Fair_collectorOf_103 : ab_bl bt_Fair_collectorOf 103 = bk_Fair_collectorOf_103 := rfl
theorem bq_Fair_collectorOf_112 : ab_bl bt_Fair_collectorOf 112 = bk_Fair_collectorOf_112 := rfl
theorem bq_Fair_collectorOf_117 : ab_bl bt_Fair_collectorOf 117 = bk_Fair_collectorOf_117 := rfl
theorem bq_Fair_collectorOf_129 : ab_bl bt_Fair_collectorOf 129 = bk_Fair_collectorOf_129 := rfl
theorem bq_Fair_collectorOf_134 : ab_bl bt_Fair_collectorOf 134 = bk_Fair_collectorOf_134 := rfl
theorem bq_Fair_collectorOf_140 : ab_bl bt_Fair_collectorOf 140 = bk_Fair_collectorOf_140 := rfl
theorem bq_Fair_nameOf_0 : ab_bl bt_Fair_nameOf 0 = bk_Fair_nameOf_0 := rfl
theorem bq_Fair_nameOf_17 : ab_bl bt_Fair_nameOf 17 = bk_Fair_nameOf_17 := rfl
theorem bq_Fair_nameOf_48 : ab_bl bt_Fair_nameOf 48 = bk_Fair_nameOf_48 := rfl
theorem bq_Fair_nameOf_60 : ab_bl bt_Fair_nameOf 60 = bk_Fair_nameOf_60 := rfl
theorem bq_Fair_nameOf_72 : ab_bl bt_Fair_nameOf 72 = bk_Fair_nameOf_72 := rfl
theorem bq_Fair_nameOf_81 : ab_bl bt_Fair_nameOf 81 = bk_Fair_nameOf_81 := rfl
theorem bq_Fair_nameOf_90 : ab_bl bt_Fair_nameOf 90 = bk_Fair_nameOf_90 := rfl
theorem bq_Fair_gain_0 : ab_bl bt_Fair_gain 0 = bk_Fair_gain_0 := rfl
theorem bq_Fair_gain_48 : ab_bl bt_Fair_gain 48 = bk_Fair_gain_48 := rfl
theorem bq_Fair_gain_51 : ab_bl bt_Fair_gain 51 = bk_Fair_gain_51 := rfl
theorem bq_Fair_gain_67 : ab_bl bt_Fair_gain 67 = bk_Fair_gain_67 := rfl
theorem bq_Fair_gain_114 : ab_bl bt_Fair_gain 114 = bk_Fair_gain_114 := rfl
theorem bq_Fair_gain_130 : ab_bl bt_Fair_gain 130 = bk_Fair_gain_130 := rfl
theorem bq_Fair_fair_0 : ab_bl bt_Fair_fair 0 = bk_Fair_fair_0 := rfl
theorem bq_Fair_fair_28 : ab_bl bt_Fair_fair 28 = bk_Fair_fair_28 := rfl
theorem bq_Fair_fair_31 : ab_bl bt_Fair_fair 31 = bk_Fair_fair_31 := rfl
theorem bq_Fair_fair_46 : ab_bl bt_Fair_fair 46 = bk_Fair_fair_46 := rfl
theorem bq_Fair_fair_131 : ab_bl bt_Fair_fair 131 = bk_Fair_fair_131 := rfl
theorem bq_Fair_fair_133 : ab_bl bt_Fair_fair 133 = bk_Fair_fair_133 := rfl
theorem bq_Fair_best_0 : ab_bl bt_Fair_best 0 = bk_Fair_best_0 := rfl
theorem bq_Fair_best_16 : ab_bl bt_Fair_best 16 = bk_Fair_best_16 := rfl
theorem bq_Fair_best_19 : ab_bl bt_Fair_best 19 = bk_Fair_best_19 := rfl
theorem bq_Fair_best_48 : ab_bl bt_Fair_best 48 = bk_Fair_best_48 := rfl
theorem bq_Fair_best_76 : ab_bl bt_Fair_best 76 = bk_Fair_best_76 := rfl
theorem bq_Fair_best_84 : ab_bl bt_Fair_best 84 = bk_Fair_best_84 := rfl
theorem bq_Fair_best_92 : ab_bl bt_Fair_best 92 = bk_Fair_best_92 := rfl
theorem bq_Fair_missing_0 : ab_bl bt_Fair_missing 0 = bk_Fair_missing_0 := rfl
theorem bq_Fair_missing_14 : ab_bl bt_Fair_missing 14 = bk_Fair_missing_14 := rfl
theorem bq_Fair_missing_17 : ab_bl bt_Fair_missing 17 = bk_Fair_missing_17 := rfl
theorem bq_Fair_mean_0 : ab_bl bt_Fair_mean 0 = bk_Fair_mean_0 := rfl
theorem bq_Fair_mean_10 : ab_bl bt_Fair_mean 10 = bk_Fair_mean_10 := rfl
theorem bq_Fair_mean_31 : ab_bl bt_Fair_mean 31 = bk_Fair_mean_31 := rfl
theorem bq_Fair_count_0 : ab_bl bt_Fair_count 0 = bk_Fair_count_0 := rfl
theorem bq_Fair_count_56 : ab_bl bt_Fair_count 56 = bk_Fair_count_56 := rfl
theorem bq_Fair_count_67 : ab_bl bt_Fair_count 67 = bk_Fair_count_67 := rfl
theorem bq_Fair_count_75 : ab_bl bt_Fair_count 75 = bk_Fair_count_75 := rfl
theorem bq_Fair_count_83 : ab_bl bt_Fair_count 83 = bk_Fair_count_83 := rfl
theorem bq_Fair_count_91 : ab_bl bt_Fair_count 91 = bk_Fair_count_91 := rfl
theorem bq_Fair_count_99 : ab_bl bt_Fair_count 99 = bk_Fair_count_99 := rfl
theorem bq_Fair_count_107 : ab_bl bt_Fair_count 107 = bk_Fair_count_107 := rfl
theorem bq_Fair_count_115 : ab_bl bt_Fair_count 115 = bk_Fair_count_115 := rfl
theorem bq_Fair_count_123 : ab_bl bt_Fair_count 123 = bk_Fair_count_123 := rfl
theorem bq_Fair_count_131 : ab_bl bt_Fair_count 131 = bk_Fair_count_131 := rfl
theorem bq_Fair_count_139 : ab_bl bt_Fair_count 139 = bk_Fair_count_139 := rfl
theorem bq_Fair_undo_0 : ab_bl bt_Fair_undo 0 = bk_Fair_undo_0 := rfl
theorem bq_Fair_undo_13 : ab_bl bt_Fair_undo 13 = bk_Fair_undo_13 := rfl
theorem bq_Fair_type_0 : ab_bl bt_Fair_type 0 = bk_Fair_type_0 := rfl
theorem bq_Fair_type_12 : ab_bl bt_Fair_type 12 = bk_Fair_type_12 := rfl
theorem bq_Fair_type_15 : ab_bl bt_Fair_type 15 = bk_Fair_type_15 := rfl
theorem bq_Fair_type_31 : ab_bl bt_Fair_type 31 = bk_Fair_type_31 := rfl
theorem bq_Fair_clearText_0 : ab_bl bt_Fair_clearText 0 = bk_Fair_clearText_0 := rfl
theorem bq_Fair_fault_0 : ab_bl bt_Fair_fault 0 = bk_Fair_fault_0 := rfl
theorem bq_Fair_fault_9 : ab_bl bt_Fair_fault 9 = bk_Fair_fault_9 := rfl
theorem bq_Fair_fault_12 : ab_bl bt_Fair_fault 12 = bk_Fair_fault_12 := rfl
theorem bq_Fair_fault_44 : ab_bl bt_Fair_fault 44 = bk_Fair_fault_44 := rfl
theorem bq_Fair_fault_72 : ab_bl bt_Fair_fault 72 = bk_Fair_fault_72 := rfl
theorem bq_Fair_fault_80 : ab_bl bt_Fair_fault 80 = bk_Fair_fault_80 := rfl
theorem bq_Fair_fault_88 : ab_bl bt_Fair_fault 88 = bk_Fair_fault_88 := rfl
theorem bq_Fair_play_0 : ab_bl bt_Fair_play 0 = bk_Fair_play_0 := rfl
theorem bq_Fair_play_32 : ab_bl bt_Fair_play 32 = bk_Fair_play_32 := rfl
theorem bq_Fair_isCollector_0 : ab_bl bt_Fair_isCollector 0 = bk_Fair_isCollector_0 := rfl
theorem bq_Fair_isCollector_13 : ab_bl bt_Fair_isCollector 13 = bk_Fair_isCollector_13 := rfl
theorem bq_Fair_isCollector_14 : ab_bl bt_Fair_isCollector 14 = bk_Fair_isCollector_14 := rfl
theorem bq_Fair_isTheme_0 : ab_bl bt_Fair_isTheme 0 = bk_Fair_isTheme_0 := rfl
theorem bq_Fair_isTheme_13 : ab_bl bt_Fair_isTheme 13 = bk_Fair_isTheme_13 := rfl
theorem bq_Fair_isTheme_14 : ab_bl bt_Fair_isTheme 14 = bk_Fair_isTheme_14 := rfl
theorem bq_Fair_isSide_0 : ab_bl bt_Fair_isSide 0 = bk_Fair_isSide_0 := rfl
theorem bq_Fair_isSide_9 : ab_bl bt_Fair_isSide 9 = bk_Fair_isSide_9 := rfl
theorem bq_Fair_isSide_13 : ab_bl bt_Fair_isSide 13 = bk_Fair_isSide_13 := rfl
theorem bq_Fair_isSide_14 : ab_bl bt_Fair_isSide 14 = bk_Fair_isSide_14 := rfl
theorem bq_Fair_arePaid_0 : ab_bl bt_Fair_arePaid 0 = bk_Fair_arePaid_0 := rfl
theorem bq_Fair_arePaid_18 : ab_bl bt_Fair_arePaid 18 = bk_Fair_arePaid_18 := rfl
theorem bq_Fair_arePaid_19 : ab_bl bt_Fair_arePaid 19 = bk_Fair_arePaid_19 := rfl
theorem bq_Fair_bitsOf_0 : ab_bl bt_Fair_bitsOf 0 = bk_Fair_bitsOf_0 := rfl
theorem bq_Fair_bitsOf_8 : ab_bl bt_Fair_bitsOf 8 = bk_Fair_bitsOf_8 := rfl
theorem bq_Fair_bitsOf_35 : ab_bl bt_Fair_bitsOf 35 = bk_Fair_bitsOf_35 := rfl
theorem bq_Law_part_0 : ab_bl bt_Law_part 0 = bk_Law_part_0 := rfl
theorem bq_Law_drawn_0 : ab_bl bt_Law_drawn 0 = bk_Law_drawn_0 := rfl
theorem bq_Law_drawn_15 : ab_bl bt_Law_drawn 15 = bk_Law_drawn_15 := rfl
theorem bq_Law_drawn_39 : ab_bl bt_Law_drawn 39 = bk_Law_drawn_39 := rfl
theorem bq_Law_seen_0 : ab_bl bt_Law_seen 0 = bk_Law_seen_0 := rfl
theorem bq_Law_seen_6 : ab_bl bt_Law_seen 6 = bk_Law_seen_6 := rfl
theorem bq_Law_seen_31 : ab_bl bt_Law_seen 31 = bk_Law_seen_31 := rfl
theorem bq_Law_seen_33 : ab_bl bt_Law_seen 33 = bk_Law_seen_33 := rfl
theorem bq_Law_seen_65 : ab_bl bt_Law_seen 65 = bk_Law_seen_65 := rfl
theorem bq_Law_seen_67 : ab_bl bt_Law_seen 67 = bk_Law_seen_67 := rfl
theorem bq_Law_seen_102 : ab_bl bt_Law_seen 102 = bk_Law_seen_102 := rfl
theorem bq_Law_seen_104 : ab_bl bt_Law_seen 104 = bk_Law_seen_104 := rfl
theorem bq_Law_seen_137 : ab_bl bt_Law_seen 137 = bk_Law_seen_137 := rfl
theorem bq_Law_seen_177 : ab_bl bt_Law_seen 177 = bk_Law_seen_177 := rfl
theorem bq_Law_seen_183 : ab_bl bt_Law_seen 183 = bk_Law_seen_183 := rfl
theorem bq_Law_refusesAny_0 : ab_bl bt_Law_refusesAny 0 = bk_Law_refusesAny_0 := rfl
theorem bq_Law_refusesAny_8 : ab_bl bt_Law_refusesAny 8 = bk_Law_refusesAny_8 := rfl
theorem bq_Law_refusesAny_9 : ab_bl bt_Law_refusesAny 9 = bk_Law_refusesAny_9 := rfl
theorem bq_Law_refusesAny_18 : ab_bl bt_Law_refusesAny 18 = bk_Law_refusesAny_18 := rfl
theorem bq_Law_refusesAny_23 : ab_bl bt_Law_refusesAny 23 = bk_Law_refusesAny_23 := rfl
theorem bq_Law_refusesAny_32 : ab_bl bt_Law_refusesAny 32 = bk_Law_refusesAny_32 := rfl
theorem bq_Law_refusesAny_37 : ab_bl bt_Law_refusesAny 37 = bk_Law_refusesAny_37 := rfl
theorem bq_Law_refusesAny_47 : ab_bl bt_Law_refusesAny 47 = bk_Law_refusesAny_47 := rfl
theorem bq_Law_refusesAny_48 : ab_bl bt_Law_refusesAny 48 = bk_Law_refusesAny_48 := rfl
theorem bq_Law_refusesAny_60 : ab_bl bt_Law_refusesAny 60 = bk_Law_refusesAny_60 := rfl
theorem bq_Law_refusesAny_63 : ab_bl bt_Law_refusesAny 63 = bk_Law_refusesAny_63 := rfl
theorem bq_Law_refusesAny_74 : ab_bl bt_Law_refusesAny 74 = bk_Law_refusesAny_74 := rfl
theorem bq_Law_refusesAny_76 : ab_bl bt_Law_refusesAny 76 = bk_Law_refusesAny_76 := rfl
theorem bq_Law_refusesAny_240 : ab_bl bt_Law_refusesAny 240 = bk_Law_refusesAny_240 := rfl
theorem bq_Law_refusesAny_242 : ab_bl bt_Law_refusesAny 242 = bk_Law_refusesAny_242 := rfl
theorem bq_Law_refusesAny_325 : ab_bl bt_Law_refusesAny 325 = bk_Law_refusesAny_325 := rfl
theorem bq_Law_refusesAny_328 : ab_bl bt_Law_refusesAny 328 = bk_Law_refusesAny_328 := rfl
theorem bq_Law_refusesAny_373 : ab_bl bt_Law_refusesAny 373 = bk_Law_refusesAny_373 := rfl
theorem bq_Law_refusesAny_374 : ab_bl bt_Law_refusesAny 374 = bk_Law_refusesAny_374 := rfl
theorem bq_Law_refusesAny_404 : ab_bl bt_Law_refusesAny 404 = bk_Law_refusesAny_404 := rfl
theorem bq_Law_refusesAny_405 : ab_bl bt_Law_refusesAny 405 = bk_Law_refusesAny_405 := rfl
theorem bq_Law_refusesAny_447 : ab_bl bt_Law_refusesAny 447 = bk_Law_refusesAny_447 := rfl
theorem bq_Law_refusesAny_449 : ab_bl bt_Law_refusesAny 449 = bk_Law_refusesAny_449 := rfl
theorem bq_Law_refusesAny_470 : ab_bl bt_Law_refusesAny 470 = bk_Law_refusesAny_470 := rfl
theorem bq_Law_refusesAny_472 : ab_bl bt_Law_refusesAny 472 = bk_Law_refusesAny_472 := rfl
theorem bq_Law_refusesAny_501 : ab_bl bt_Law_refusesAny 501 = bk_Law_refusesAny_501 := rfl
theorem bq_Law_refusesAny_502 : ab_bl bt_Law_refusesAny 502 = bk_Law_refusesAny_502 := rfl
theorem bq_Law_refusesAny_609 : ab_bl bt_Law_refusesAny 609 = bk_Law_refusesAny_609 := rfl
theorem bq_Law_refusesAny_610 : ab_bl bt_Law_refusesAny 610 = bk_Law_refusesAny_610 := rfl
theorem bq_Law_refusesAny_659 : ab_bl bt_Law_refusesAny 659 = bk_Law_refusesAny_659 := rfl
theorem bq_Law_refusesAny_661 : ab_bl bt_Law_refusesAny 661 = bk_Law_refusesAny_661 := rfl
theorem bq_Law_refusesAny_679 : ab_bl bt_Law_refusesAny 679 = bk_Law_refusesAny_679 := rfl
theorem bq_Law_refusesAny_681 : ab_bl bt_Law_refusesAny 681 = bk_Law_refusesAny_681 := rfl
theorem bq_Law_refusesAny_698 : ab_bl bt_Law_refusesAny 698 = bk_Law_refusesAny_698 := rfl
theorem bq_Law_refusesAny_699 : ab_bl bt_Law_refusesAny 699 = bk_Law_refusesAny_699 := rfl
theorem bq_Law_refusesAny_711 : ab_bl bt_Law_refusesAny 711 = bk_Law_refusesAny_711 := rfl
theorem bq_Law_refusesAny_712 : ab_bl bt_Law_refusesAny 712 = bk_Law_refusesAny_712 := rfl
theorem bq_Law_refused_0 : ab_bl bt_Law_refused 0 = bk_Law_refused_0 := rfl
theorem bq_Law_refused_51 : ab_bl bt_Law_refused 51 = bk_Law_refused_51 := rfl
theorem bq_Law_refused_52 : ab_bl bt_Law_refused 52 = bk_Law_refused_52 := rfl
theorem bq_Law_books_0 : ab_bl bt_Law_books 0 = bk_Law_books_0 := rfl
theorem bq_Law_books_285 : ab_bl bt_Law_books 285 = bk_Law_books_285 := rfl
theorem bq_Law_books_287 : ab_bl bt_Law_books 287 = bk_Law_books_287 := rfl
theorem bq_Law_books_575 : ab_bl bt_Law_books 575 = bk_Law_books_575 := rfl
theorem bq_Law_books_577 : ab_bl bt_Law_books 577 = bk_Law_books_577 := rfl
theorem bq_Law_books_891 : ab_bl bt_Law_books 891 = bk_Law_books_891 := rfl
theorem bq_Law_books_893 : ab_bl bt_Law_books 893 = bk_Law_books_893 := rfl
theorem bq_Law_books_997 : ab_bl bt_Law_books 997 = bk_Law_books_997 := rfl
theorem bq_Law_books_999 : ab_bl bt_Law_books 999 = bk_Law_books_999 := rfl
theorem bq_Law_books_1001 : ab_bl bt_Law_books 1001 = bk_Law_books_1001 := rfl
theorem bq_Law_books_1020 : ab_bl bt_Law_books 1020 = bk_Law_books_1020 := rfl
theorem bq_Law_books_1026 : ab_bl bt_Law_books 1026 = bk_Law_books_1026 := rfl
theorem bq_Law_books_1084 : ab_bl bt_Law_books 1084 = bk_Law_books_1084 := rfl
theorem bq_Law_books_1086 : ab_bl bt_Law_books 1086 = bk_Law_books_1086 := rfl
theorem bq_Law_books_1088 : ab_bl bt_Law_books 1088 = bk_Law_books_1088 := rfl
theorem bq_Law_books_1106 : ab_bl bt_Law_books 1106 = bk_Law_books_1106 := rfl
theorem bq_Law_books_1112 : ab_bl bt_Law_books 1112 = bk_Law_books_1112 := rfl
theorem bq_Law_books_1156 : ab_bl bt_Law_books 1156 = bk_Law_books_1156 := rfl
theorem bq_Law_books_1157 : ab_bl bt_Law_books 1157 = bk_Law_books_1157 := rfl
theorem bq_Law_types_0 : ab_bl bt_Law_types 0 = bk_Law_types_0 := rfl
theorem bq_Law_types_6 : ab_bl bt_Law_types 6 = bk_Law_types_6 := rfl
theorem bq_Law_types_40 : ab_bl bt_Law_types 40 = bk_Law_types_40 := rfl
theorem bq_Law_types_44 : ab_bl bt_Law_types 44 = bk_Law_types_44 := rfl
theorem bq_Law_types_45 : ab_bl bt_Law_types 45 = bk_Law_types_45 := rfl
theorem bq_Law_types_52 : ab_bl bt_Law_types 52 = bk_Law_types_52 := rfl
theorem bq_Law_isFault_0 : ab_bl bt_Law_isFault 0 = bk_Law_isFault_0 := rfl
theorem bq_Law_isFault_27 : ab_bl bt_Law_isFault 27 = bk_Law_isFault_27 := rfl
theorem bq_Law_isFault_29 : ab_bl bt_Law_isFault 29 = bk_Law_isFault_29 := rfl
theorem bq_Law_isFault_95 : ab_bl bt_Law_isFault 95 = bk_Law_isFault_95 := rfl
theorem bq_Law_isFault_96 : ab_bl bt_Law_isFault 96 = bk_Law_isFault_96 := rfl
theorem bq_Law_texts_93 : ab_bl bt_Law_texts 93 = bk_Law_texts_93 := rfl
theorem bq_Law_texts_194 : ab_bl bt_Law_texts 194 = bk_Law_texts_194 := rfl
theorem bq_Law_texts_196 : ab_bl bt_Law_texts 196 = bk_Law_texts_196 := rfl
theorem bq_Law_texts_422 : ab_bl bt_Law_texts 422 = bk_Law_texts_422 := rfl
theorem bq_Law_texts_424 : ab_bl bt_Law_texts 424 = bk_Law_texts_424 := rfl
theorem bq_Law_texts_426 : ab_bl bt_Law_texts 426 = bk_Law_texts_426 := rfl
theorem bq_Law_texts_446 : ab_bl bt_Law_texts 446 = bk_Law_texts_446 := rfl
theorem bq_Law_texts_452 : ab_bl bt_Law_texts 452 = bk_Law_texts_452 := rfl
theorem bq_Law_texts_493 : ab_bl bt_Law_texts 493 = bk_Law_texts_493 := rfl
theorem bq_Law_texts_494 : ab_bl bt_Law_texts 494 = bk_Law_texts_494 := rfl
