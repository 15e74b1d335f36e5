/-! ===== rows that unfold the weakest precondition (printed by wip/whole/mkeval.py) ===== -/
theorem ev_rn {d k : Nat} {bt : List (Nat × List ab_O)} {stop : List Nat} {Q : Option Value → ab_H → Prop} {f pc n bc bs : Nat} {ls : List (Option Value)} {st : List Value} {h : ab_H} : ab_rn d k bt stop Q (f + 1) pc n bc bs ls st h = if pc ∈ stop then ab_W d k pc n bc bs ls st h Q else ab_wp d (ab_rn d k bt stop Q f) Q (ab_bl bt pc) n bc bs ls st h := rfl
theorem ev_iadd {d : Nat} {J : Nat → ab_K} {Q : Option Value → ab_H → Prop} {os : List ab_O} {n bc bs : Nat} {st : List Value} {h : ab_H} {ls : List (Option Value)} {len : Nat} {dt : List Nat} {v : Int} {x y : Int32} : ab_wp d J Q ((.iadd, len, dt, v) :: os) n bc bs ls (.int y :: .int x :: st) h = (ab_wp d J Q os n bc bs ls (.int (x + y) :: st) h) := rfl
theorem ev_isub {d : Nat} {J : Nat → ab_K} {Q : Option Value → ab_H → Prop} {os : List ab_O} {n bc bs : Nat} {st : List Value} {h : ab_H} {ls : List (Option Value)} {len : Nat} {dt : List Nat} {v : Int} {x y : Int32} : ab_wp d J Q ((.isub, len, dt, v) :: os) n bc bs ls (.int y :: .int x :: st) h = (ab_wp d J Q os n bc bs ls (.int (x - y) :: st) h) := rfl
theorem ev_imul {d : Nat} {J : Nat → ab_K} {Q : Option Value → ab_H → Prop} {os : List ab_O} {n bc bs : Nat} {st : List Value} {h : ab_H} {ls : List (Option Value)} {len : Nat} {dt : List Nat} {v : Int} {x y : Int32} : ab_wp d J Q ((.imul, len, dt, v) :: os) n bc bs ls (.int y :: .int x :: st) h = (ab_wp d J Q os n bc bs ls (.int (x * y) :: st) h) := rfl
theorem ev_iand {d : Nat} {J : Nat → ab_K} {Q : Option Value → ab_H → Prop} {os : List ab_O} {n bc bs : Nat} {st : List Value} {h : ab_H} {ls : List (Option Value)} {len : Nat} {dt : List Nat} {v : Int} {x y : Int32} : ab_wp d J Q ((.iand, len, dt, v) :: os) n bc bs ls (.int y :: .int x :: st) h = (ab_wp d J Q os n bc bs ls (.int (x &&& y) :: st) h) := rfl
theorem ev_ior {d : Nat} {J : Nat → ab_K} {Q : Option Value → ab_H → Prop} {os : List ab_O} {n bc bs : Nat} {st : List Value} {h : ab_H} {ls : List (Option Value)} {len : Nat} {dt : List Nat} {v : Int} {x y : Int32} : ab_wp d J Q ((.ior, len, dt, v) :: os) n bc bs ls (.int y :: .int x :: st) h = (ab_wp d J Q os n bc bs ls (.int (x ||| y) :: st) h) := rfl
theorem ev_ixor {d : Nat} {J : Nat → ab_K} {Q : Option Value → ab_H → Prop} {os : List ab_O} {n bc bs : Nat} {st : List Value} {h : ab_H} {ls : List (Option Value)} {len : Nat} {dt : List Nat} {v : Int} {x y : Int32} : ab_wp d J Q ((.ixor, len, dt, v) :: os) n bc bs ls (.int y :: .int x :: st) h = (ab_wp d J Q os n bc bs ls (.int (x ^^^ y) :: st) h) := rfl
theorem ev_ishl {d : Nat} {J : Nat → ab_K} {Q : Option Value → ab_H → Prop} {os : List ab_O} {n bc bs : Nat} {st : List Value} {h : ab_H} {ls : List (Option Value)} {len : Nat} {dt : List Nat} {v : Int} {x y : Int32} : ab_wp d J Q ((.ishl, len, dt, v) :: os) n bc bs ls (.int y :: .int x :: st) h = (ab_wp d J Q os n bc bs ls (.int (x <<< (y &&& 31)) :: st) h) := rfl
theorem ev_ishr {d : Nat} {J : Nat → ab_K} {Q : Option Value → ab_H → Prop} {os : List ab_O} {n bc bs : Nat} {st : List Value} {h : ab_H} {ls : List (Option Value)} {len : Nat} {dt : List Nat} {v : Int} {x y : Int32} : ab_wp d J Q ((.ishr, len, dt, v) :: os) n bc bs ls (.int y :: .int x :: st) h = (ab_wp d J Q os n bc bs ls (.int (x >>> (y &&& 31)) :: st) h) := rfl
theorem ev_iushr {d : Nat} {J : Nat → ab_K} {Q : Option Value → ab_H → Prop} {os : List ab_O} {n bc bs : Nat} {st : List Value} {h : ab_H} {ls : List (Option Value)} {len : Nat} {dt : List Nat} {v : Int} {x y : Int32} : ab_wp d J Q ((.iushr, len, dt, v) :: os) n bc bs ls (.int y :: .int x :: st) h = (ab_wp d J Q os n bc bs ls (.int ((x.toUInt32 >>> (y.toUInt32 &&& Int32.toUInt32 31)).toInt32) :: st) h) := rfl
theorem ev_idiv {d : Nat} {J : Nat → ab_K} {Q : Option Value → ab_H → Prop} {os : List ab_O} {n bc bs : Nat} {st : List Value} {h : ab_H} {ls : List (Option Value)} {len : Nat} {dt : List Nat} {v : Int} {x y : Int32} : ab_wp d J Q ((.idiv, len, dt, v) :: os) n bc bs ls (.int y :: .int x :: st) h = (¬ y = 0 ∧ ab_wp d J Q os n bc bs ls (.int (x / y) :: st) h) := rfl
theorem ev_irem {d : Nat} {J : Nat → ab_K} {Q : Option Value → ab_H → Prop} {os : List ab_O} {n bc bs : Nat} {st : List Value} {h : ab_H} {ls : List (Option Value)} {len : Nat} {dt : List Nat} {v : Int} {x y : Int32} : ab_wp d J Q ((.irem, len, dt, v) :: os) n bc bs ls (.int y :: .int x :: st) h = (¬ y = 0 ∧ ab_wp d J Q os n bc bs ls (.int (x - x / y * y) :: st) h) := rfl
theorem ev_ineg {d : Nat} {J : Nat → ab_K} {Q : Option Value → ab_H → Prop} {os : List ab_O} {n bc bs : Nat} {st : List Value} {h : ab_H} {ls : List (Option Value)} {len : Nat} {dt : List Nat} {v : Int} {x : Int32} : ab_wp d J Q ((.ineg, len, dt, v) :: os) n bc bs ls (.int x :: st) h = (ab_wp d J Q os n bc bs ls (.int (-x) :: st) h) := rfl
theorem ev_i2f {d : Nat} {J : Nat → ab_K} {Q : Option Value → ab_H → Prop} {os : List ab_O} {n bc bs : Nat} {st : List Value} {h : ab_H} {ls : List (Option Value)} {len : Nat} {dt : List Nat} {v : Int} {x : Int32} : ab_wp d J Q ((.i2f, len, dt, v) :: os) n bc bs ls (.int x :: st) h = (ab_wp d J Q os n bc bs ls (.float (FP.i2f x) :: st) h) := rfl
theorem ev_fdiv {d : Nat} {J : Nat → ab_K} {Q : Option Value → ab_H → Prop} {os : List ab_O} {n bc bs : Nat} {st : List Value} {h : ab_H} {ls : List (Option Value)} {len : Nat} {dt : List Nat} {v : Int} {x y : UInt32} : ab_wp d J Q ((.fdiv, len, dt, v) :: os) n bc bs ls (.float y :: .float x :: st) h = (vf_n32 (FP.fdiv x y) ∧ ab_wp d J Q os n bc bs ls (.float (FP.fdiv x y) :: st) h) := rfl
theorem ev_fmul {d : Nat} {J : Nat → ab_K} {Q : Option Value → ab_H → Prop} {os : List ab_O} {n bc bs : Nat} {st : List Value} {h : ab_H} {ls : List (Option Value)} {len : Nat} {dt : List Nat} {v : Int} {x y : UInt32} : ab_wp d J Q ((.fmul, len, dt, v) :: os) n bc bs ls (.float y :: .float x :: st) h = (vf_n32 (FP.fmul x y) ∧ ab_wp d J Q os n bc bs ls (.float (FP.fmul x y) :: st) h) := rfl
theorem ev_f2i {d : Nat} {J : Nat → ab_K} {Q : Option Value → ab_H → Prop} {os : List ab_O} {n bc bs : Nat} {st : List Value} {h : ab_H} {ls : List (Option Value)} {len : Nat} {dt : List Nat} {v : Int} {x : UInt32} : ab_wp d J Q ((.f2i, len, dt, v) :: os) n bc bs ls (.float x :: st) h = (ab_wp d J Q os n bc bs ls (.int (FP.f2i x) :: st) h) := rfl
theorem ev_fcmp {d : Nat} {J : Nat → ab_K} {Q : Option Value → ab_H → Prop} {os : List ab_O} {n bc bs : Nat} {st : List Value} {h : ab_H} {ls : List (Option Value)} {len : Nat} {dt : List Nat} {v : Int} {x y : UInt32} {op : CmpOp} : ab_wp d J Q (((.fcmp op), len, dt, v) :: os) n bc bs ls (.float y :: .float x :: st) h = (ab_wp d J Q os n bc bs ls (.int (Op.cmpValue (FP.fcmp x y) op) :: st) h) := rfl
theorem ev_fconst {d : Nat} {J : Nat → ab_K} {Q : Option Value → ab_H → Prop} {os : List ab_O} {n bc bs : Nat} {st : List Value} {h : ab_H} {ls : List (Option Value)} {len : Nat} {dt : List Nat} {v : Int} {f : Fin 3} : ab_wp d J Q (((.fconst f), len, dt, v) :: os) n bc bs ls st h = (ab_wp d J Q os n bc bs ls (.float FP.fconst2 :: st) h) := rfl
theorem ev_aconst_null {d : Nat} {J : Nat → ab_K} {Q : Option Value → ab_H → Prop} {os : List ab_O} {n bc bs : Nat} {st : List Value} {h : ab_H} {ls : List (Option Value)} {len : Nat} {dt : List Nat} {v : Int} : ab_wp d J Q ((.aconst_null, len, dt, v) :: os) n bc bs ls st h = (ab_wp d J Q os n bc bs ls (.null :: st) h) := rfl
theorem ev_iconst {d : Nat} {J : Nat → ab_K} {Q : Option Value → ab_H → Prop} {os : List ab_O} {n bc bs : Nat} {st : List Value} {h : ab_H} {ls : List (Option Value)} {len : Nat} {dt : List Nat} {v : Int} {i : Int} : ab_wp d J Q (((.iconst i), len, dt, v) :: os) n bc bs ls st h = (ab_wp d J Q os n bc bs ls (.int (Int32.ofInt v) :: st) h) := rfl
theorem ev_bipush {d : Nat} {J : Nat → ab_K} {Q : Option Value → ab_H → Prop} {os : List ab_O} {n bc bs : Nat} {st : List Value} {h : ab_H} {ls : List (Option Value)} {len : Nat} {dt : List Nat} {v : Int} {i : Int} : ab_wp d J Q (((.bipush i), len, dt, v) :: os) n bc bs ls st h = (ab_wp d J Q os n bc bs ls (.int (Int32.ofInt v) :: st) h) := rfl
theorem ev_sipush {d : Nat} {J : Nat → ab_K} {Q : Option Value → ab_H → Prop} {os : List ab_O} {n bc bs : Nat} {st : List Value} {h : ab_H} {ls : List (Option Value)} {len : Nat} {dt : List Nat} {v : Int} {i : Int} : ab_wp d J Q (((.sipush i), len, dt, v) :: os) n bc bs ls st h = (ab_wp d J Q os n bc bs ls (.int (Int32.ofInt v) :: st) h) := rfl
theorem ev_ldc {d : Nat} {J : Nat → ab_K} {Q : Option Value → ab_H → Prop} {os : List ab_O} {n bc bs : Nat} {st : List Value} {h : ab_H} {ls : List (Option Value)} {len p i : Nat} {v : Int} : ab_wp d J Q (((.ldc i), len, [p], v) :: os) n bc bs ls st h = (ab_wp d J Q os n bc bs ls (.int (Int32.ofInt v) :: st) h) := rfl
theorem ev_ldc_f {d : Nat} {J : Nat → ab_K} {Q : Option Value → ab_H → Prop} {os : List ab_O} {n bc bs : Nat} {st : List Value} {h : ab_H} {ls : List (Option Value)} {len p i : Nat} {v : Int} : ab_wp d J Q (((.ldc i), len, [p, 1], v) :: os) n bc bs ls st h = (ab_wp d J Q os n bc bs ls (.float (UInt32.ofNat v.toNat) :: st) h) := rfl
theorem ev_ldc_w {d : Nat} {J : Nat → ab_K} {Q : Option Value → ab_H → Prop} {os : List ab_O} {n bc bs : Nat} {st : List Value} {h : ab_H} {ls : List (Option Value)} {len p i : Nat} {v : Int} : ab_wp d J Q (((.ldc_w i), len, [p], v) :: os) n bc bs ls st h = (ab_wp d J Q os n bc bs ls (.int (Int32.ofInt v) :: st) h) := rfl
theorem ev_ldc_w_f {d : Nat} {J : Nat → ab_K} {Q : Option Value → ab_H → Prop} {os : List ab_O} {n bc bs : Nat} {st : List Value} {h : ab_H} {ls : List (Option Value)} {len p i : Nat} {v : Int} : ab_wp d J Q (((.ldc_w i), len, [p, 1], v) :: os) n bc bs ls st h = (ab_wp d J Q os n bc bs ls (.float (UInt32.ofNat v.toNat) :: st) h) := rfl
theorem ev_iload_0 {d : Nat} {J : Nat → ab_K} {Q : Option Value → ab_H → Prop} {os : List ab_O} {n bc bs : Nat} {st : List Value} {h : ab_H} {ls : List (Option Value)} {len : Nat} {v : Int} {x : Int32} {j : Fin 4} : ab_wp d J Q (((.iload_n j), len, [0], v) :: os) n bc bs (some (.int x) :: ls) st h = (ab_wp d J Q os n bc bs (some (.int x) :: ls) (.int x :: st) h) := rfl
theorem ev_fload_0 {d : Nat} {J : Nat → ab_K} {Q : Option Value → ab_H → Prop} {os : List ab_O} {n bc bs : Nat} {st : List Value} {h : ab_H} {ls : List (Option Value)} {len : Nat} {v : Int} {x : UInt32} {j : Fin 4} : ab_wp d J Q (((.fload_n j), len, [0], v) :: os) n bc bs (some (.float x) :: ls) st h = (ab_wp d J Q os n bc bs (some (.float x) :: ls) (.float x :: st) h) := rfl
theorem ev_aload_0 {d : Nat} {J : Nat → ab_K} {Q : Option Value → ab_H → Prop} {os : List ab_O} {n bc bs : Nat} {st : List Value} {h : ab_H} {ls : List (Option Value)} {len : Nat} {v : Int} {x : Nat} {j : Fin 4} : ab_wp d J Q (((.aload_n j), len, [0], v) :: os) n bc bs (some (.ref x) :: ls) st h = (ab_wp d J Q os n bc bs (some (.ref x) :: ls) (.ref x :: st) h) := rfl
theorem ev_aload_0N {d : Nat} {J : Nat → ab_K} {Q : Option Value → ab_H → Prop} {os : List ab_O} {n bc bs : Nat} {st : List Value} {h : ab_H} {ls : List (Option Value)} {len : Nat} {v : Int} {j : Fin 4} : ab_wp d J Q (((.aload_n j), len, [0], v) :: os) n bc bs (some (.null) :: ls) st h = (ab_wp d J Q os n bc bs (some (.null) :: ls) (.null :: st) h) := rfl
theorem ev_istore_0 {d : Nat} {J : Nat → ab_K} {Q : Option Value → ab_H → Prop} {os : List ab_O} {n bc bs : Nat} {st : List Value} {h : ab_H} {ls : List (Option Value)} {a : Option Value} {len : Nat} {v : Int} {x : Int32} {j : Fin 4} : ab_wp d J Q (((.istore_n j), len, [0], v) :: os) n bc bs (a :: ls) (.int x :: st) h = (ab_wp d J Q os n bc bs (some (.int x) :: ls) st h) := rfl
theorem ev_fstore_0 {d : Nat} {J : Nat → ab_K} {Q : Option Value → ab_H → Prop} {os : List ab_O} {n bc bs : Nat} {st : List Value} {h : ab_H} {ls : List (Option Value)} {a : Option Value} {len : Nat} {v : Int} {x : UInt32} {j : Fin 4} : ab_wp d J Q (((.fstore_n j), len, [0], v) :: os) n bc bs (a :: ls) (.float x :: st) h = (ab_wp d J Q os n bc bs (some (.float x) :: ls) st h) := rfl
theorem ev_astore_0 {d : Nat} {J : Nat → ab_K} {Q : Option Value → ab_H → Prop} {os : List ab_O} {n bc bs : Nat} {st : List Value} {h : ab_H} {ls : List (Option Value)} {a : Option Value} {len : Nat} {v : Int} {x : Nat} {j : Fin 4} : ab_wp d J Q (((.astore_n j), len, [0], v) :: os) n bc bs (a :: ls) (.ref x :: st) h = (ab_wp d J Q os n bc bs (some (.ref x) :: ls) st h) := rfl
theorem ev_astore_0N {d : Nat} {J : Nat → ab_K} {Q : Option Value → ab_H → Prop} {os : List ab_O} {n bc bs : Nat} {st : List Value} {h : ab_H} {ls : List (Option Value)} {a : Option Value} {len : Nat} {v : Int} {j : Fin 4} : ab_wp d J Q (((.astore_n j), len, [0], v) :: os) n bc bs (a :: ls) (.null :: st) h = (ab_wp d J Q os n bc bs (some (.null) :: ls) st h) := rfl
theorem ev_iinc_0 {d : Nat} {J : Nat → ab_K} {Q : Option Value → ab_H → Prop} {os : List ab_O} {n bc bs : Nat} {st : List Value} {h : ab_H} {ls : List (Option Value)} {len j : Nat} {c v : Int} {x : Int32} : ab_wp d J Q (((.iinc j c), len, [0], v) :: os) n bc bs (some (.int x) :: ls) st h = (ab_wp d J Q os n bc bs (some (.int (x + Int32.ofInt v)) :: ls) st h) := rfl
theorem ev_iload_1 {d : Nat} {J : Nat → ab_K} {Q : Option Value → ab_H → Prop} {os : List ab_O} {n bc bs : Nat} {st : List Value} {h : ab_H} {ls : List (Option Value)} {a0 : Option Value} {len : Nat} {v : Int} {x : Int32} {j : Fin 4} : ab_wp d J Q (((.iload_n j), len, [1], v) :: os) n bc bs (a0 :: some (.int x) :: ls) st h = (ab_wp d J Q os n bc bs (a0 :: some (.int x) :: ls) (.int x :: st) h) := rfl
theorem ev_fload_1 {d : Nat} {J : Nat → ab_K} {Q : Option Value → ab_H → Prop} {os : List ab_O} {n bc bs : Nat} {st : List Value} {h : ab_H} {ls : List (Option Value)} {a0 : Option Value} {len : Nat} {v : Int} {x : UInt32} {j : Fin 4} : ab_wp d J Q (((.fload_n j), len, [1], v) :: os) n bc bs (a0 :: some (.float x) :: ls) st h = (ab_wp d J Q os n bc bs (a0 :: some (.float x) :: ls) (.float x :: st) h) := rfl
theorem ev_aload_1 {d : Nat} {J : Nat → ab_K} {Q : Option Value → ab_H → Prop} {os : List ab_O} {n bc bs : Nat} {st : List Value} {h : ab_H} {ls : List (Option Value)} {a0 : Option Value} {len : Nat} {v : Int} {x : Nat} {j : Fin 4} : ab_wp d J Q (((.aload_n j), len, [1], v) :: os) n bc bs (a0 :: some (.ref x) :: ls) st h = (ab_wp d J Q os n bc bs (a0 :: some (.ref x) :: ls) (.ref x :: st) h) := rfl
theorem ev_aload_1N {d : Nat} {J : Nat → ab_K} {Q : Option Value → ab_H → Prop} {os : List ab_O} {n bc bs : Nat} {st : List Value} {h : ab_H} {ls : List (Option Value)} {a0 : Option Value} {len : Nat} {v : Int} {j : Fin 4} : ab_wp d J Q (((.aload_n j), len, [1], v) :: os) n bc bs (a0 :: some (.null) :: ls) st h = (ab_wp d J Q os n bc bs (a0 :: some (.null) :: ls) (.null :: st) h) := rfl
theorem ev_istore_1 {d : Nat} {J : Nat → ab_K} {Q : Option Value → ab_H → Prop} {os : List ab_O} {n bc bs : Nat} {st : List Value} {h : ab_H} {ls : List (Option Value)} {a0 : Option Value} {a : Option Value} {len : Nat} {v : Int} {x : Int32} {j : Fin 4} : ab_wp d J Q (((.istore_n j), len, [1], v) :: os) n bc bs (a0 :: a :: ls) (.int x :: st) h = (ab_wp d J Q os n bc bs (a0 :: some (.int x) :: ls) st h) := rfl
theorem ev_fstore_1 {d : Nat} {J : Nat → ab_K} {Q : Option Value → ab_H → Prop} {os : List ab_O} {n bc bs : Nat} {st : List Value} {h : ab_H} {ls : List (Option Value)} {a0 : Option Value} {a : Option Value} {len : Nat} {v : Int} {x : UInt32} {j : Fin 4} : ab_wp d J Q (((.fstore_n j), len, [1], v) :: os) n bc bs (a0 :: a :: ls) (.float x :: st) h = (ab_wp d J Q os n bc bs (a0 :: some (.float x) :: ls) st h) := rfl
theorem ev_astore_1 {d : Nat} {J : Nat → ab_K} {Q : Option Value → ab_H → Prop} {os : List ab_O} {n bc bs : Nat} {st : List Value} {h : ab_H} {ls : List (Option Value)} {a0 : Option Value} {a : Option Value} {len : Nat} {v : Int} {x : Nat} {j : Fin 4} : ab_wp d J Q (((.astore_n j), len, [1], v) :: os) n bc bs (a0 :: a :: ls) (.ref x :: st) h = (ab_wp d J Q os n bc bs (a0 :: some (.ref x) :: ls) st h) := rfl
theorem ev_astore_1N {d : Nat} {J : Nat → ab_K} {Q : Option Value → ab_H → Prop} {os : List ab_O} {n bc bs : Nat} {st : List Value} {h : ab_H} {ls : List (Option Value)} {a0 : Option Value} {a : Option Value} {len : Nat} {v : Int} {j : Fin 4} : ab_wp d J Q (((.astore_n j), len, [1], v) :: os) n bc bs (a0 :: a :: ls) (.null :: st) h = (ab_wp d J Q os n bc bs (a0 :: some (.null) :: ls) st h) := rfl
theorem ev_iinc_1 {d : Nat} {J : Nat → ab_K} {Q : Option Value → ab_H → Prop} {os : List ab_O} {n bc bs : Nat} {st : List Value} {h : ab_H} {ls : List (Option Value)} {a0 : Option Value} {len j : Nat} {c v : Int} {x : Int32} : ab_wp d J Q (((.iinc j c), len, [1], v) :: os) n bc bs (a0 :: some (.int x) :: ls) st h = (ab_wp d J Q os n bc bs (a0 :: some (.int (x + Int32.ofInt v)) :: ls) st h) := rfl
theorem ev_iload_2 {d : Nat} {J : Nat → ab_K} {Q : Option Value → ab_H → Prop} {os : List ab_O} {n bc bs : Nat} {st : List Value} {h : ab_H} {ls : List (Option Value)} {a0 a1 : Option Value} {len : Nat} {v : Int} {x : Int32} {j : Fin 4} : ab_wp d J Q (((.iload_n j), len, [2], v) :: os) n bc bs (a0 :: a1 :: some (.int x) :: ls) st h = (ab_wp d J Q os n bc bs (a0 :: a1 :: some (.int x) :: ls) (.int x :: st) h) := rfl
theorem ev_fload_2 {d : Nat} {J : Nat → ab_K} {Q : Option Value → ab_H → Prop} {os : List ab_O} {n bc bs : Nat} {st : List Value} {h : ab_H} {ls : List (Option Value)} {a0 a1 : Option Value} {len : Nat} {v : Int} {x : UInt32} {j : Fin 4} : ab_wp d J Q (((.fload_n j), len, [2], v) :: os) n bc bs (a0 :: a1 :: some (.float x) :: ls) st h = (ab_wp d J Q os n bc bs (a0 :: a1 :: some (.float x) :: ls) (.float x :: st) h) := rfl
theorem ev_aload_2 {d : Nat} {J : Nat → ab_K} {Q : Option Value → ab_H → Prop} {os : List ab_O} {n bc bs : Nat} {st : List Value} {h : ab_H} {ls : List (Option Value)} {a0 a1 : Option Value} {len : Nat} {v : Int} {x : Nat} {j : Fin 4} : ab_wp d J Q (((.aload_n j), len, [2], v) :: os) n bc bs (a0 :: a1 :: some (.ref x) :: ls) st h = (ab_wp d J Q os n bc bs (a0 :: a1 :: some (.ref x) :: ls) (.ref x :: st) h) := rfl
theorem ev_aload_2N {d : Nat} {J : Nat → ab_K} {Q : Option Value → ab_H → Prop} {os : List ab_O} {n bc bs : Nat} {st : List Value} {h : ab_H} {ls : List (Option Value)} {a0 a1 : Option Value} {len : Nat} {v : Int} {j : Fin 4} : ab_wp d J Q (((.aload_n j), len, [2], v) :: os) n bc bs (a0 :: a1 :: some (.null) :: ls) st h = (ab_wp d J Q os n bc bs (a0 :: a1 :: some (.null) :: ls) (.null :: st) h) := rfl
theorem ev_istore_2 {d : Nat} {J : Nat → ab_K} {Q : Option Value → ab_H → Prop} {os : List ab_O} {n bc bs : Nat} {st : List Value} {h : ab_H} {ls : List (Option Value)} {a0 a1 : Option Value} {a : Option Value} {len : Nat} {v : Int} {x : Int32} {j : Fin 4} : ab_wp d J Q (((.istore_n j), len, [2], v) :: os) n bc bs (a0 :: a1 :: a :: ls) (.int x :: st) h = (ab_wp d J Q os n bc bs (a0 :: a1 :: some (.int x) :: ls) st h) := rfl
theorem ev_fstore_2 {d : Nat} {J : Nat → ab_K} {Q : Option Value → ab_H → Prop} {os : List ab_O} {n bc bs : Nat} {st : List Value} {h : ab_H} {ls : List (Option Value)} {a0 a1 : Option Value} {a : Option Value} {len : Nat} {v : Int} {x : UInt32} {j : Fin 4} : ab_wp d J Q (((.fstore_n j), len, [2], v) :: os) n bc bs (a0 :: a1 :: a :: ls) (.float x :: st) h = (ab_wp d J Q os n bc bs (a0 :: a1 :: some (.float x) :: ls) st h) := rfl
theorem ev_astore_2 {d : Nat} {J : Nat → ab_K} {Q : Option Value → ab_H → Prop} {os : List ab_O} {n bc bs : Nat} {st : List Value} {h : ab_H} {ls : List (Option Value)} {a0 a1 : Option Value} {a : Option Value} {len : Nat} {v : Int} {x : Nat} {j : Fin 4} : ab_wp d J Q (((.astore_n j), len, [2], v) :: os) n bc bs (a0 :: a1 :: a :: ls) (.ref x :: st) h = (ab_wp d J Q os n bc bs (a0 :: a1 :: some (.ref x) :: ls) st h) := rfl
theorem ev_astore_2N {d : Nat} {J : Nat → ab_K} {Q : Option Value → ab_H → Prop} {os : List ab_O} {n bc bs : Nat} {st : List Value} {h : ab_H} {ls : List (Option Value)} {a0 a1 : Option Value} {a : Option Value} {len : Nat} {v : Int} {j : Fin 4} : ab_wp d J Q (((.astore_n j), len, [2], v) :: os) n bc bs (a0 :: a1 :: a :: ls) (.null :: st) h = (ab_wp d J Q os n bc bs (a0 :: a1 :: some (.null) :: ls) st h) := rfl
theorem ev_iinc_2 {d : Nat} {J : Nat → ab_K} {Q : Option Value → ab_H → Prop} {os : List ab_O} {n bc bs : Nat} {st : List Value} {h : ab_H} {ls : List (Option Value)} {a0 a1 : Option Value} {len j : Nat} {c v : Int} {x : Int32} : ab_wp d J Q (((.iinc j c), len, [2], v) :: os) n bc bs (a0 :: a1 :: some (.int x) :: ls) st h = (ab_wp d J Q os n bc bs (a0 :: a1 :: some (.int (x + Int32.ofInt v)) :: ls) st h) := rfl
theorem ev_iload_3 {d : Nat} {J : Nat → ab_K} {Q : Option Value → ab_H → Prop} {os : List ab_O} {n bc bs : Nat} {st : List Value} {h : ab_H} {ls : List (Option Value)} {a0 a1 a2 : Option Value} {len : Nat} {v : Int} {x : Int32} {j : Fin 4} : ab_wp d J Q (((.iload_n j), len, [3], v) :: os) n bc bs (a0 :: a1 :: a2 :: some (.int x) :: ls) st h = (ab_wp d J Q os n bc bs (a0 :: a1 :: a2 :: some (.int x) :: ls) (.int x :: st) h) := rfl
theorem ev_fload_3 {d : Nat} {J : Nat → ab_K} {Q : Option Value → ab_H → Prop} {os : List ab_O} {n bc bs : Nat} {st : List Value} {h : ab_H} {ls : List (Option Value)} {a0 a1 a2 : Option Value} {len : Nat} {v : Int} {x : UInt32} {j : Fin 4} : ab_wp d J Q (((.fload_n j), len, [3], v) :: os) n bc bs (a0 :: a1 :: a2 :: some (.float x) :: ls) st h = (ab_wp d J Q os n bc bs (a0 :: a1 :: a2 :: some (.float x) :: ls) (.float x :: st) h) := rfl
theorem ev_aload_3 {d : Nat} {J : Nat → ab_K} {Q : Option Value → ab_H → Prop} {os : List ab_O} {n bc bs : Nat} {st : List Value} {h : ab_H} {ls : List (Option Value)} {a0 a1 a2 : Option Value} {len : Nat} {v : Int} {x : Nat} {j : Fin 4} : ab_wp d J Q (((.aload_n j), len, [3], v) :: os) n bc bs (a0 :: a1 :: a2 :: some (.ref x) :: ls) st h = (ab_wp d J Q os n bc bs (a0 :: a1 :: a2 :: some (.ref x) :: ls) (.ref x :: st) h) := rfl
theorem ev_aload_3N {d : Nat} {J : Nat → ab_K} {Q : Option Value → ab_H → Prop} {os : List ab_O} {n bc bs : Nat} {st : List Value} {h : ab_H} {ls : List (Option Value)} {a0 a1 a2 : Option Value} {len : Nat} {v : Int} {j : Fin 4} : ab_wp d J Q (((.aload_n j), len, [3], v) :: os) n bc bs (a0 :: a1 :: a2 :: some (.null) :: ls) st h = (ab_wp d J Q os n bc bs (a0 :: a1 :: a2 :: some (.null) :: ls) (.null :: st) h) := rfl
theorem ev_istore_3 {d : Nat} {J : Nat → ab_K} {Q : Option Value → ab_H → Prop} {os : List ab_O} {n bc bs : Nat} {st : List Value} {h : ab_H} {ls : List (Option Value)} {a0 a1 a2 : Option Value} {a : Option Value} {len : Nat} {v : Int} {x : Int32} {j : Fin 4} : ab_wp d J Q (((.istore_n j), len, [3], v) :: os) n bc bs (a0 :: a1 :: a2 :: a :: ls) (.int x :: st) h = (ab_wp d J Q os n bc bs (a0 :: a1 :: a2 :: some (.int x) :: ls) st h) := rfl
theorem ev_fstore_3 {d : Nat} {J : Nat → ab_K} {Q : Option Value → ab_H → Prop} {os : List ab_O} {n bc bs : Nat} {st : List Value} {h : ab_H} {ls : List (Option Value)} {a0 a1 a2 : Option Value} {a : Option Value} {len : Nat} {v : Int} {x : UInt32} {j : Fin 4} : ab_wp d J Q (((.fstore_n j), len, [3], v) :: os) n bc bs (a0 :: a1 :: a2 :: a :: ls) (.float x :: st) h = (ab_wp d J Q os n bc bs (a0 :: a1 :: a2 :: some (.float x) :: ls) st h) := rfl
theorem ev_astore_3 {d : Nat} {J : Nat → ab_K} {Q : Option Value → ab_H → Prop} {os : List ab_O} {n bc bs : Nat} {st : List Value} {h : ab_H} {ls : List (Option Value)} {a0 a1 a2 : Option Value} {a : Option Value} {len : Nat} {v : Int} {x : Nat} {j : Fin 4} : ab_wp d J Q (((.astore_n j), len, [3], v) :: os) n bc bs (a0 :: a1 :: a2 :: a :: ls) (.ref x :: st) h = (ab_wp d J Q os n bc bs (a0 :: a1 :: a2 :: some (.ref x) :: ls) st h) := rfl
theorem ev_astore_3N {d : Nat} {J : Nat → ab_K} {Q : Option Value → ab_H → Prop} {os : List ab_O} {n bc bs : Nat} {st : List Value} {h : ab_H} {ls : List (Option Value)} {a0 a1 a2 : Option Value} {a : Option Value} {len : Nat} {v : Int} {j : Fin 4} : ab_wp d J Q (((.astore_n j), len, [3], v) :: os) n bc bs (a0 :: a1 :: a2 :: a :: ls) (.null :: st) h = (ab_wp d J Q os n bc bs (a0 :: a1 :: a2 :: some (.null) :: ls) st h) := rfl
theorem ev_iinc_3 {d : Nat} {J : Nat → ab_K} {Q : Option Value → ab_H → Prop} {os : List ab_O} {n bc bs : Nat} {st : List Value} {h : ab_H} {ls : List (Option Value)} {a0 a1 a2 : Option Value} {len j : Nat} {c v : Int} {x : Int32} : ab_wp d J Q (((.iinc j c), len, [3], v) :: os) n bc bs (a0 :: a1 :: a2 :: some (.int x) :: ls) st h = (ab_wp d J Q os n bc bs (a0 :: a1 :: a2 :: some (.int (x + Int32.ofInt v)) :: ls) st h) := rfl
theorem ev_iload_4 {d : Nat} {J : Nat → ab_K} {Q : Option Value → ab_H → Prop} {os : List ab_O} {n bc bs : Nat} {st : List Value} {h : ab_H} {ls : List (Option Value)} {a0 a1 a2 a3 : Option Value} {len : Nat} {v : Int} {x : Int32} {j : Nat} : ab_wp d J Q (((.iload j), len, [4], v) :: os) n bc bs (a0 :: a1 :: a2 :: a3 :: some (.int x) :: ls) st h = (ab_wp d J Q os n bc bs (a0 :: a1 :: a2 :: a3 :: some (.int x) :: ls) (.int x :: st) h) := rfl
theorem ev_aload_4 {d : Nat} {J : Nat → ab_K} {Q : Option Value → ab_H → Prop} {os : List ab_O} {n bc bs : Nat} {st : List Value} {h : ab_H} {ls : List (Option Value)} {a0 a1 a2 a3 : Option Value} {len : Nat} {v : Int} {x : Nat} {j : Nat} : ab_wp d J Q (((.aload j), len, [4], v) :: os) n bc bs (a0 :: a1 :: a2 :: a3 :: some (.ref x) :: ls) st h = (ab_wp d J Q os n bc bs (a0 :: a1 :: a2 :: a3 :: some (.ref x) :: ls) (.ref x :: st) h) := rfl
theorem ev_aload_4N {d : Nat} {J : Nat → ab_K} {Q : Option Value → ab_H → Prop} {os : List ab_O} {n bc bs : Nat} {st : List Value} {h : ab_H} {ls : List (Option Value)} {a0 a1 a2 a3 : Option Value} {len : Nat} {v : Int} {j : Nat} : ab_wp d J Q (((.aload j), len, [4], v) :: os) n bc bs (a0 :: a1 :: a2 :: a3 :: some (.null) :: ls) st h = (ab_wp d J Q os n bc bs (a0 :: a1 :: a2 :: a3 :: some (.null) :: ls) (.null :: st) h) := rfl
theorem ev_istore_4 {d : Nat} {J : Nat → ab_K} {Q : Option Value → ab_H → Prop} {os : List ab_O} {n bc bs : Nat} {st : List Value} {h : ab_H} {ls : List (Option Value)} {a0 a1 a2 a3 : Option Value} {a : Option Value} {len : Nat} {v : Int} {x : Int32} {j : Nat} : ab_wp d J Q (((.istore j), len, [4], v) :: os) n bc bs (a0 :: a1 :: a2 :: a3 :: a :: ls) (.int x :: st) h = (ab_wp d J Q os n bc bs (a0 :: a1 :: a2 :: a3 :: some (.int x) :: ls) st h) := rfl
theorem ev_astore_4 {d : Nat} {J : Nat → ab_K} {Q : Option Value → ab_H → Prop} {os : List ab_O} {n bc bs : Nat} {st : List Value} {h : ab_H} {ls : List (Option Value)} {a0 a1 a2 a3 : Option Value} {a : Option Value} {len : Nat} {v : Int} {x : Nat} {j : Nat} : ab_wp d J Q (((.astore j), len, [4], v) :: os) n bc bs (a0 :: a1 :: a2 :: a3 :: a :: ls) (.ref x :: st) h = (ab_wp d J Q os n bc bs (a0 :: a1 :: a2 :: a3 :: some (.ref x) :: ls) st h) := rfl
theorem ev_astore_4N {d : Nat} {J : Nat → ab_K} {Q : Option Value → ab_H → Prop} {os : List ab_O} {n bc bs : Nat} {st : List Value} {h : ab_H} {ls : List (Option Value)} {a0 a1 a2 a3 : Option Value} {a : Option Value} {len : Nat} {v : Int} {j : Nat} : ab_wp d J Q (((.astore j), len, [4], v) :: os) n bc bs (a0 :: a1 :: a2 :: a3 :: a :: ls) (.null :: st) h = (ab_wp d J Q os n bc bs (a0 :: a1 :: a2 :: a3 :: some (.null) :: ls) st h) := rfl
theorem ev_iinc_4 {d : Nat} {J : Nat → ab_K} {Q : Option Value → ab_H → Prop} {os : List ab_O} {n bc bs : Nat} {st : List Value} {h : ab_H} {ls : List (Option Value)} {a0 a1 a2 a3 : Option Value} {len j : Nat} {c v : Int} {x : Int32} : ab_wp d J Q (((.iinc j c), len, [4], v) :: os) n bc bs (a0 :: a1 :: a2 :: a3 :: some (.int x) :: ls) st h = (ab_wp d J Q os n bc bs (a0 :: a1 :: a2 :: a3 :: some (.int (x + Int32.ofInt v)) :: ls) st h) := rfl
theorem ev_iload_5 {d : Nat} {J : Nat → ab_K} {Q : Option Value → ab_H → Prop} {os : List ab_O} {n bc bs : Nat} {st : List Value} {h : ab_H} {ls : List (Option Value)} {a0 a1 a2 a3 a4 : Option Value} {len : Nat} {v : Int} {x : Int32} {j : Nat} : ab_wp d J Q (((.iload j), len, [5], v) :: os) n bc bs (a0 :: a1 :: a2 :: a3 :: a4 :: some (.int x) :: ls) st h = (ab_wp d J Q os n bc bs (a0 :: a1 :: a2 :: a3 :: a4 :: some (.int x) :: ls) (.int x :: st) h) := rfl
theorem ev_aload_5 {d : Nat} {J : Nat → ab_K} {Q : Option Value → ab_H → Prop} {os : List ab_O} {n bc bs : Nat} {st : List Value} {h : ab_H} {ls : List (Option Value)} {a0 a1 a2 a3 a4 : Option Value} {len : Nat} {v : Int} {x : Nat} {j : Nat} : ab_wp d J Q (((.aload j), len, [5], v) :: os) n bc bs (a0 :: a1 :: a2 :: a3 :: a4 :: some (.ref x) :: ls) st h = (ab_wp d J Q os n bc bs (a0 :: a1 :: a2 :: a3 :: a4 :: some (.ref x) :: ls) (.ref x :: st) h) := rfl
theorem ev_aload_5N {d : Nat} {J : Nat → ab_K} {Q : Option Value → ab_H → Prop} {os : List ab_O} {n bc bs : Nat} {st : List Value} {h : ab_H} {ls : List (Option Value)} {a0 a1 a2 a3 a4 : Option Value} {len : Nat} {v : Int} {j : Nat} : ab_wp d J Q (((.aload j), len, [5], v) :: os) n bc bs (a0 :: a1 :: a2 :: a3 :: a4 :: some (.null) :: ls) st h = (ab_wp d J Q os n bc bs (a0 :: a1 :: a2 :: a3 :: a4 :: some (.null) :: ls) (.null :: st) h) := rfl
theorem ev_istore_5 {d : Nat} {J : Nat → ab_K} {Q : Option Value → ab_H → Prop} {os : List ab_O} {n bc bs : Nat} {st : List Value} {h : ab_H} {ls : List (Option Value)} {a0 a1 a2 a3 a4 : Option Value} {a : Option Value} {len : Nat} {v : Int} {x : Int32} {j : Nat} : ab_wp d J Q (((.istore j), len, [5], v) :: os) n bc bs (a0 :: a1 :: a2 :: a3 :: a4 :: a :: ls) (.int x :: st) h = (ab_wp d J Q os n bc bs (a0 :: a1 :: a2 :: a3 :: a4 :: some (.int x) :: ls) st h) := rfl
theorem ev_astore_5 {d : Nat} {J : Nat → ab_K} {Q : Option Value → ab_H → Prop} {os : List ab_O} {n bc bs : Nat} {st : List Value} {h : ab_H} {ls : List (Option Value)} {a0 a1 a2 a3 a4 : Option Value} {a : Option Value} {len : Nat} {v : Int} {x : Nat} {j : Nat} : ab_wp d J Q (((.astore j), len, [5], v) :: os) n bc bs (a0 :: a1 :: a2 :: a3 :: a4 :: a :: ls) (.ref x :: st) h = (ab_wp d J Q os n bc bs (a0 :: a1 :: a2 :: a3 :: a4 :: some (.ref x) :: ls) st h) := rfl
theorem ev_astore_5N {d : Nat} {J : Nat → ab_K} {Q : Option Value → ab_H → Prop} {os : List ab_O} {n bc bs : Nat} {st : List Value} {h : ab_H} {ls : List (Option Value)} {a0 a1 a2 a3 a4 : Option Value} {a : Option Value} {len : Nat} {v : Int} {j : Nat} : ab_wp d J Q (((.astore j), len, [5], v) :: os) n bc bs (a0 :: a1 :: a2 :: a3 :: a4 :: a :: ls) (.null :: st) h = (ab_wp d J Q os n bc bs (a0 :: a1 :: a2 :: a3 :: a4 :: some (.null) :: ls) st h) := rfl
theorem ev_iinc_5 {d : Nat} {J : Nat → ab_K} {Q : Option Value → ab_H → Prop} {os : List ab_O} {n bc bs : Nat} {st : List Value} {h : ab_H} {ls : List (Option Value)} {a0 a1 a2 a3 a4 : Option Value} {len j : Nat} {c v : Int} {x : Int32} : ab_wp d J Q (((.iinc j c), len, [5], v) :: os) n bc bs (a0 :: a1 :: a2 :: a3 :: a4 :: some (.int x) :: ls) st h = (ab_wp d J Q os n bc bs (a0 :: a1 :: a2 :: a3 :: a4 :: some (.int (x + Int32.ofInt v)) :: ls) st h) := rfl
theorem ev_iload_6 {d : Nat} {J : Nat → ab_K} {Q : Option Value → ab_H → Prop} {os : List ab_O} {n bc bs : Nat} {st : List Value} {h : ab_H} {ls : List (Option Value)} {a0 a1 a2 a3 a4 a5 : Option Value} {len : Nat} {v : Int} {x : Int32} {j : Nat} : ab_wp d J Q (((.iload j), len, [6], v) :: os) n bc bs (a0 :: a1 :: a2 :: a3 :: a4 :: a5 :: some (.int x) :: ls) st h = (ab_wp d J Q os n bc bs (a0 :: a1 :: a2 :: a3 :: a4 :: a5 :: some (.int x) :: ls) (.int x :: st) h) := rfl
theorem ev_aload_6 {d : Nat} {J : Nat → ab_K} {Q : Option Value → ab_H → Prop} {os : List ab_O} {n bc bs : Nat} {st : List Value} {h : ab_H} {ls : List (Option Value)} {a0 a1 a2 a3 a4 a5 : Option Value} {len : Nat} {v : Int} {x : Nat} {j : Nat} : ab_wp d J Q (((.aload j), len, [6], v) :: os) n bc bs (a0 :: a1 :: a2 :: a3 :: a4 :: a5 :: some (.ref x) :: ls) st h = (ab_wp d J Q os n bc bs (a0 :: a1 :: a2 :: a3 :: a4 :: a5 :: some (.ref x) :: ls) (.ref x :: st) h) := rfl
theorem ev_aload_6N {d : Nat} {J : Nat → ab_K} {Q : Option Value → ab_H → Prop} {os : List ab_O} {n bc bs : Nat} {st : List Value} {h : ab_H} {ls : List (Option Value)} {a0 a1 a2 a3 a4 a5 : Option Value} {len : Nat} {v : Int} {j : Nat} : ab_wp d J Q (((.aload j), len, [6], v) :: os) n bc bs (a0 :: a1 :: a2 :: a3 :: a4 :: a5 :: some (.null) :: ls) st h = (ab_wp d J Q os n bc bs (a0 :: a1 :: a2 :: a3 :: a4 :: a5 :: some (.null) :: ls) (.null :: st) h) := rfl
theorem ev_istore_6 {d : Nat} {J : Nat → ab_K} {Q : Option Value → ab_H → Prop} {os : List ab_O} {n bc bs : Nat} {st : List Value} {h : ab_H} {ls : List (Option Value)} {a0 a1 a2 a3 a4 a5 : Option Value} {a : Option Value} {len : Nat} {v : Int} {x : Int32} {j : Nat} : ab_wp d J Q (((.istore j), len, [6], v) :: os) n bc bs (a0 :: a1 :: a2 :: a3 :: a4 :: a5 :: a :: ls) (.int x :: st) h = (ab_wp d J Q os n bc bs (a0 :: a1 :: a2 :: a3 :: a4 :: a5 :: some (.int x) :: ls) st h) := rfl
theorem ev_astore_6 {d : Nat} {J : Nat → ab_K} {Q : Option Value → ab_H → Prop} {os : List ab_O} {n bc bs : Nat} {st : List Value} {h : ab_H} {ls : List (Option Value)} {a0 a1 a2 a3 a4 a5 : Option Value} {a : Option Value} {len : Nat} {v : Int} {x : Nat} {j : Nat} : ab_wp d J Q (((.astore j), len, [6], v) :: os) n bc bs (a0 :: a1 :: a2 :: a3 :: a4 :: a5 :: a :: ls) (.ref x :: st) h = (ab_wp d J Q os n bc bs (a0 :: a1 :: a2 :: a3 :: a4 :: a5 :: some (.ref x) :: ls) st h) := rfl
theorem ev_astore_6N {d : Nat} {J : Nat → ab_K} {Q : Option Value → ab_H → Prop} {os : List ab_O} {n bc bs : Nat} {st : List Value} {h : ab_H} {ls : List (Option Value)} {a0 a1 a2 a3 a4 a5 : Option Value} {a : Option Value} {len : Nat} {v : Int} {j : Nat} : ab_wp d J Q (((.astore j), len, [6], v) :: os) n bc bs (a0 :: a1 :: a2 :: a3 :: a4 :: a5 :: a :: ls) (.null :: st) h = (ab_wp d J Q os n bc bs (a0 :: a1 :: a2 :: a3 :: a4 :: a5 :: some (.null) :: ls) st h) := rfl
theorem ev_iinc_6 {d : Nat} {J : Nat → ab_K} {Q : Option Value → ab_H → Prop} {os : List ab_O} {n bc bs : Nat} {st : List Value} {h : ab_H} {ls : List (Option Value)} {a0 a1 a2 a3 a4 a5 : Option Value} {len j : Nat} {c v : Int} {x : Int32} : ab_wp d J Q (((.iinc j c), len, [6], v) :: os) n bc bs (a0 :: a1 :: a2 :: a3 :: a4 :: a5 :: some (.int x) :: ls) st h = (ab_wp d J Q os n bc bs (a0 :: a1 :: a2 :: a3 :: a4 :: a5 :: some (.int (x + Int32.ofInt v)) :: ls) st h) := rfl
theorem ev_iload_7 {d : Nat} {J : Nat → ab_K} {Q : Option Value → ab_H → Prop} {os : List ab_O} {n bc bs : Nat} {st : List Value} {h : ab_H} {ls : List (Option Value)} {a0 a1 a2 a3 a4 a5 a6 : Option Value} {len : Nat} {v : Int} {x : Int32} {j : Nat} : ab_wp d J Q (((.iload j), len, [7], v) :: os) n bc bs (a0 :: a1 :: a2 :: a3 :: a4 :: a5 :: a6 :: some (.int x) :: ls) st h = (ab_wp d J Q os n bc bs (a0 :: a1 :: a2 :: a3 :: a4 :: a5 :: a6 :: some (.int x) :: ls) (.int x :: st) h) := rfl
theorem ev_aload_7 {d : Nat} {J : Nat → ab_K} {Q : Option Value → ab_H → Prop} {os : List ab_O} {n bc bs : Nat} {st : List Value} {h : ab_H} {ls : List (Option Value)} {a0 a1 a2 a3 a4 a5 a6 : Option Value} {len : Nat} {v : Int} {x : Nat} {j : Nat} : ab_wp d J Q (((.aload j), len, [7], v) :: os) n bc bs (a0 :: a1 :: a2 :: a3 :: a4 :: a5 :: a6 :: some (.ref x) :: ls) st h = (ab_wp d J Q os n bc bs (a0 :: a1 :: a2 :: a3 :: a4 :: a5 :: a6 :: some (.ref x) :: ls) (.ref x :: st) h) := rfl
theorem ev_aload_7N {d : Nat} {J : Nat → ab_K} {Q : Option Value → ab_H → Prop} {os : List ab_O} {n bc bs : Nat} {st : List Value} {h : ab_H} {ls : List (Option Value)} {a0 a1 a2 a3 a4 a5 a6 : Option Value} {len : Nat} {v : Int} {j : Nat} : ab_wp d J Q (((.aload j), len, [7], v) :: os) n bc bs (a0 :: a1 :: a2 :: a3 :: a4 :: a5 :: a6 :: some (.null) :: ls) st h = (ab_wp d J Q os n bc bs (a0 :: a1 :: a2 :: a3 :: a4 :: a5 :: a6 :: some (.null) :: ls) (.null :: st) h) := rfl
theorem ev_istore_7 {d : Nat} {J : Nat → ab_K} {Q : Option Value → ab_H → Prop} {os : List ab_O} {n bc bs : Nat} {st : List Value} {h : ab_H} {ls : List (Option Value)} {a0 a1 a2 a3 a4 a5 a6 : Option Value} {a : Option Value} {len : Nat} {v : Int} {x : Int32} {j : Nat} : ab_wp d J Q (((.istore j), len, [7], v) :: os) n bc bs (a0 :: a1 :: a2 :: a3 :: a4 :: a5 :: a6 :: a :: ls) (.int x :: st) h = (ab_wp d J Q os n bc bs (a0 :: a1 :: a2 :: a3 :: a4 :: a5 :: a6 :: some (.int x) :: ls) st h) := rfl
theorem ev_astore_7 {d : Nat} {J : Nat → ab_K} {Q : Option Value → ab_H → Prop} {os : List ab_O} {n bc bs : Nat} {st : List Value} {h : ab_H} {ls : List (Option Value)} {a0 a1 a2 a3 a4 a5 a6 : Option Value} {a : Option Value} {len : Nat} {v : Int} {x : Nat} {j : Nat} : ab_wp d J Q (((.astore j), len, [7], v) :: os) n bc bs (a0 :: a1 :: a2 :: a3 :: a4 :: a5 :: a6 :: a :: ls) (.ref x :: st) h = (ab_wp d J Q os n bc bs (a0 :: a1 :: a2 :: a3 :: a4 :: a5 :: a6 :: some (.ref x) :: ls) st h) := rfl
theorem ev_astore_7N {d : Nat} {J : Nat → ab_K} {Q : Option Value → ab_H → Prop} {os : List ab_O} {n bc bs : Nat} {st : List Value} {h : ab_H} {ls : List (Option Value)} {a0 a1 a2 a3 a4 a5 a6 : Option Value} {a : Option Value} {len : Nat} {v : Int} {j : Nat} : ab_wp d J Q (((.astore j), len, [7], v) :: os) n bc bs (a0 :: a1 :: a2 :: a3 :: a4 :: a5 :: a6 :: a :: ls) (.null :: st) h = (ab_wp d J Q os n bc bs (a0 :: a1 :: a2 :: a3 :: a4 :: a5 :: a6 :: some (.null) :: ls) st h) := rfl
theorem ev_iinc_7 {d : Nat} {J : Nat → ab_K} {Q : Option Value → ab_H → Prop} {os : List ab_O} {n bc bs : Nat} {st : List Value} {h : ab_H} {ls : List (Option Value)} {a0 a1 a2 a3 a4 a5 a6 : Option Value} {len j : Nat} {c v : Int} {x : Int32} : ab_wp d J Q (((.iinc j c), len, [7], v) :: os) n bc bs (a0 :: a1 :: a2 :: a3 :: a4 :: a5 :: a6 :: some (.int x) :: ls) st h = (ab_wp d J Q os n bc bs (a0 :: a1 :: a2 :: a3 :: a4 :: a5 :: a6 :: some (.int (x + Int32.ofInt v)) :: ls) st h) := rfl
theorem ev_iload_8 {d : Nat} {J : Nat → ab_K} {Q : Option Value → ab_H → Prop} {os : List ab_O} {n bc bs : Nat} {st : List Value} {h : ab_H} {ls : List (Option Value)} {a0 a1 a2 a3 a4 a5 a6 a7 : Option Value} {len : Nat} {v : Int} {x : Int32} {j : Nat} : ab_wp d J Q (((.iload j), len, [8], v) :: os) n bc bs (a0 :: a1 :: a2 :: a3 :: a4 :: a5 :: a6 :: a7 :: some (.int x) :: ls) st h = (ab_wp d J Q os n bc bs (a0 :: a1 :: a2 :: a3 :: a4 :: a5 :: a6 :: a7 :: some (.int x) :: ls) (.int x :: st) h) := rfl
theorem ev_aload_8 {d : Nat} {J : Nat → ab_K} {Q : Option Value → ab_H → Prop} {os : List ab_O} {n bc bs : Nat} {st : List Value} {h : ab_H} {ls : List (Option Value)} {a0 a1 a2 a3 a4 a5 a6 a7 : Option Value} {len : Nat} {v : Int} {x : Nat} {j : Nat} : ab_wp d J Q (((.aload j), len, [8], v) :: os) n bc bs (a0 :: a1 :: a2 :: a3 :: a4 :: a5 :: a6 :: a7 :: some (.ref x) :: ls) st h = (ab_wp d J Q os n bc bs (a0 :: a1 :: a2 :: a3 :: a4 :: a5 :: a6 :: a7 :: some (.ref x) :: ls) (.ref x :: st) h) := rfl
theorem ev_aload_8N {d : Nat} {J : Nat → ab_K} {Q : Option Value → ab_H → Prop} {os : List ab_O} {n bc bs : Nat} {st : List Value} {h : ab_H} {ls : List (Option Value)} {a0 a1 a2 a3 a4 a5 a6 a7 : Option Value} {len : Nat} {v : Int} {j : Nat} : ab_wp d J Q (((.aload j), len, [8], v) :: os) n bc bs (a0 :: a1 :: a2 :: a3 :: a4 :: a5 :: a6 :: a7 :: some (.null) :: ls) st h = (ab_wp d J Q os n bc bs (a0 :: a1 :: a2 :: a3 :: a4 :: a5 :: a6 :: a7 :: some (.null) :: ls) (.null :: st) h) := rfl
theorem ev_istore_8 {d : Nat} {J : Nat → ab_K} {Q : Option Value → ab_H → Prop} {os : List ab_O} {n bc bs : Nat} {st : List Value} {h : ab_H} {ls : List (Option Value)} {a0 a1 a2 a3 a4 a5 a6 a7 : Option Value} {a : Option Value} {len : Nat} {v : Int} {x : Int32} {j : Nat} : ab_wp d J Q (((.istore j), len, [8], v) :: os) n bc bs (a0 :: a1 :: a2 :: a3 :: a4 :: a5 :: a6 :: a7 :: a :: ls) (.int x :: st) h = (ab_wp d J Q os n bc bs (a0 :: a1 :: a2 :: a3 :: a4 :: a5 :: a6 :: a7 :: some (.int x) :: ls) st h) := rfl
theorem ev_astore_8 {d : Nat} {J : Nat → ab_K} {Q : Option Value → ab_H → Prop} {os : List ab_O} {n bc bs : Nat} {st : List Value} {h : ab_H} {ls : List (Option Value)} {a0 a1 a2 a3 a4 a5 a6 a7 : Option Value} {a : Option Value} {len : Nat} {v : Int} {x : Nat} {j : Nat} : ab_wp d J Q (((.astore j), len, [8], v) :: os) n bc bs (a0 :: a1 :: a2 :: a3 :: a4 :: a5 :: a6 :: a7 :: a :: ls) (.ref x :: st) h = (ab_wp d J Q os n bc bs (a0 :: a1 :: a2 :: a3 :: a4 :: a5 :: a6 :: a7 :: some (.ref x) :: ls) st h) := rfl
theorem ev_astore_8N {d : Nat} {J : Nat → ab_K} {Q : Option Value → ab_H → Prop} {os : List ab_O} {n bc bs : Nat} {st : List Value} {h : ab_H} {ls : List (Option Value)} {a0 a1 a2 a3 a4 a5 a6 a7 : Option Value} {a : Option Value} {len : Nat} {v : Int} {j : Nat} : ab_wp d J Q (((.astore j), len, [8], v) :: os) n bc bs (a0 :: a1 :: a2 :: a3 :: a4 :: a5 :: a6 :: a7 :: a :: ls) (.null :: st) h = (ab_wp d J Q os n bc bs (a0 :: a1 :: a2 :: a3 :: a4 :: a5 :: a6 :: a7 :: some (.null) :: ls) st h) := rfl
theorem ev_iinc_8 {d : Nat} {J : Nat → ab_K} {Q : Option Value → ab_H → Prop} {os : List ab_O} {n bc bs : Nat} {st : List Value} {h : ab_H} {ls : List (Option Value)} {a0 a1 a2 a3 a4 a5 a6 a7 : Option Value} {len j : Nat} {c v : Int} {x : Int32} : ab_wp d J Q (((.iinc j c), len, [8], v) :: os) n bc bs (a0 :: a1 :: a2 :: a3 :: a4 :: a5 :: a6 :: a7 :: some (.int x) :: ls) st h = (ab_wp d J Q os n bc bs (a0 :: a1 :: a2 :: a3 :: a4 :: a5 :: a6 :: a7 :: some (.int (x + Int32.ofInt v)) :: ls) st h) := rfl
theorem ev_iload_9 {d : Nat} {J : Nat → ab_K} {Q : Option Value → ab_H → Prop} {os : List ab_O} {n bc bs : Nat} {st : List Value} {h : ab_H} {ls : List (Option Value)} {a0 a1 a2 a3 a4 a5 a6 a7 a8 : Option Value} {len : Nat} {v : Int} {x : Int32} {j : Nat} : ab_wp d J Q (((.iload j), len, [9], v) :: os) n bc bs (a0 :: a1 :: a2 :: a3 :: a4 :: a5 :: a6 :: a7 :: a8 :: some (.int x) :: ls) st h = (ab_wp d J Q os n bc bs (a0 :: a1 :: a2 :: a3 :: a4 :: a5 :: a6 :: a7 :: a8 :: some (.int x) :: ls) (.int x :: st) h) := rfl
theorem ev_aload_9 {d : Nat} {J : Nat → ab_K} {Q : Option Value → ab_H → Prop} {os : List ab_O} {n bc bs : Nat} {st : List Value} {h : ab_H} {ls : List (Option Value)} {a0 a1 a2 a3 a4 a5 a6 a7 a8 : Option Value} {len : Nat} {v : Int} {x : Nat} {j : Nat} : ab_wp d J Q (((.aload j), len, [9], v) :: os) n bc bs (a0 :: a1 :: a2 :: a3 :: a4 :: a5 :: a6 :: a7 :: a8 :: some (.ref x) :: ls) st h = (ab_wp d J Q os n bc bs (a0 :: a1 :: a2 :: a3 :: a4 :: a5 :: a6 :: a7 :: a8 :: some (.ref x) :: ls) (.ref x :: st) h) := rfl
theorem ev_aload_9N {d : Nat} {J : Nat → ab_K} {Q : Option Value → ab_H → Prop} {os : List ab_O} {n bc bs : Nat} {st : List Value} {h : ab_H} {ls : List (Option Value)} {a0 a1 a2 a3 a4 a5 a6 a7 a8 : Option Value} {len : Nat} {v : Int} {j : Nat} : ab_wp d J Q (((.aload j), len, [9], v) :: os) n bc bs (a0 :: a1 :: a2 :: a3 :: a4 :: a5 :: a6 :: a7 :: a8 :: some (.null) :: ls) st h = (ab_wp d J Q os n bc bs (a0 :: a1 :: a2 :: a3 :: a4 :: a5 :: a6 :: a7 :: a8 :: some (.null) :: ls) (.null :: st) h) := rfl
theorem ev_istore_9 {d : Nat} {J : Nat → ab_K} {Q : Option Value → ab_H → Prop} {os : List ab_O} {n bc bs : Nat} {st : List Value} {h : ab_H} {ls : List (Option Value)} {a0 a1 a2 a3 a4 a5 a6 a7 a8 : Option Value} {a : Option Value} {len : Nat} {v : Int} {x : Int32} {j : Nat} : ab_wp d J Q (((.istore j), len, [9], v) :: os) n bc bs (a0 :: a1 :: a2 :: a3 :: a4 :: a5 :: a6 :: a7 :: a8 :: a :: ls) (.int x :: st) h = (ab_wp d J Q os n bc bs (a0 :: a1 :: a2 :: a3 :: a4 :: a5 :: a6 :: a7 :: a8 :: some (.int x) :: ls) st h) := rfl
theorem ev_astore_9 {d : Nat} {J : Nat → ab_K} {Q : Option Value → ab_H → Prop} {os : List ab_O} {n bc bs : Nat} {st : List Value} {h : ab_H} {ls : List (Option Value)} {a0 a1 a2 a3 a4 a5 a6 a7 a8 : Option Value} {a : Option Value} {len : Nat} {v : Int} {x : Nat} {j : Nat} : ab_wp d J Q (((.astore j), len, [9], v) :: os) n bc bs (a0 :: a1 :: a2 :: a3 :: a4 :: a5 :: a6 :: a7 :: a8 :: a :: ls) (.ref x :: st) h = (ab_wp d J Q os n bc bs (a0 :: a1 :: a2 :: a3 :: a4 :: a5 :: a6 :: a7 :: a8 :: some (.ref x) :: ls) st h) := rfl
theorem ev_astore_9N {d : Nat} {J : Nat → ab_K} {Q : Option Value → ab_H → Prop} {os : List ab_O} {n bc bs : Nat} {st : List Value} {h : ab_H} {ls : List (Option Value)} {a0 a1 a2 a3 a4 a5 a6 a7 a8 : Option Value} {a : Option Value} {len : Nat} {v : Int} {j : Nat} : ab_wp d J Q (((.astore j), len, [9], v) :: os) n bc bs (a0 :: a1 :: a2 :: a3 :: a4 :: a5 :: a6 :: a7 :: a8 :: a :: ls) (.null :: st) h = (ab_wp d J Q os n bc bs (a0 :: a1 :: a2 :: a3 :: a4 :: a5 :: a6 :: a7 :: a8 :: some (.null) :: ls) st h) := rfl
theorem ev_iinc_9 {d : Nat} {J : Nat → ab_K} {Q : Option Value → ab_H → Prop} {os : List ab_O} {n bc bs : Nat} {st : List Value} {h : ab_H} {ls : List (Option Value)} {a0 a1 a2 a3 a4 a5 a6 a7 a8 : Option Value} {len j : Nat} {c v : Int} {x : Int32} : ab_wp d J Q (((.iinc j c), len, [9], v) :: os) n bc bs (a0 :: a1 :: a2 :: a3 :: a4 :: a5 :: a6 :: a7 :: a8 :: some (.int x) :: ls) st h = (ab_wp d J Q os n bc bs (a0 :: a1 :: a2 :: a3 :: a4 :: a5 :: a6 :: a7 :: a8 :: some (.int (x + Int32.ofInt v)) :: ls) st h) := rfl
theorem ev_dup_i {d : Nat} {J : Nat → ab_K} {Q : Option Value → ab_H → Prop} {os : List ab_O} {n bc bs : Nat} {st : List Value} {h : ab_H} {ls : List (Option Value)} {len : Nat} {dt : List Nat} {v : Int} {x : Int32} : ab_wp d J Q ((.dup, len, dt, v) :: os) n bc bs ls (.int x :: st) h = (ab_wp d J Q os n bc bs ls (.int x :: .int x :: st) h) := rfl
theorem ev_dup_r {d : Nat} {J : Nat → ab_K} {Q : Option Value → ab_H → Prop} {os : List ab_O} {n bc bs : Nat} {st : List Value} {h : ab_H} {ls : List (Option Value)} {len : Nat} {dt : List Nat} {v : Int} {x : Nat} : ab_wp d J Q ((.dup, len, dt, v) :: os) n bc bs ls (.ref x :: st) h = (ab_wp d J Q os n bc bs ls (.ref x :: .ref x :: st) h) := rfl
theorem ev_dup2 {d : Nat} {J : Nat → ab_K} {Q : Option Value → ab_H → Prop} {os : List ab_O} {n bc bs : Nat} {st : List Value} {h : ab_H} {ls : List (Option Value)} {len : Nat} {dt : List Nat} {v : Int} {x : Int32} {b : Nat} : ab_wp d J Q ((.dup2, len, dt, v) :: os) n bc bs ls (.int x :: .ref b :: st) h = (ab_wp d J Q os n bc bs ls (.int x :: .ref b :: .int x :: .ref b :: st) h) := rfl
theorem ev_icmp_eq {d : Nat} {J : Nat → ab_K} {Q : Option Value → ab_H → Prop} {os : List ab_O} {n bc bs : Nat} {st : List Value} {h : ab_H} {ls : List (Option Value)} {len t : Nat} {off v : Int} {x y : Int32} : ab_wp d J Q (((.if_icmp .eq off), len, [t], v) :: os) n bc bs ls (.int y :: .int x :: st) h = ((x = y → J t n bc bs ls st h) ∧ (¬ x = y → ab_wp d J Q os n bc bs ls st h)) := rfl
theorem ev_if_eq {d : Nat} {J : Nat → ab_K} {Q : Option Value → ab_H → Prop} {os : List ab_O} {n bc bs : Nat} {st : List Value} {h : ab_H} {ls : List (Option Value)} {len t : Nat} {off v : Int} {x : Int32} : ab_wp d J Q (((.ifCond .eq off), len, [t], v) :: os) n bc bs ls (.int x :: st) h = ((x = 0 → J t n bc bs ls st h) ∧ (¬ x = 0 → ab_wp d J Q os n bc bs ls st h)) := rfl
theorem ev_icmp_ne {d : Nat} {J : Nat → ab_K} {Q : Option Value → ab_H → Prop} {os : List ab_O} {n bc bs : Nat} {st : List Value} {h : ab_H} {ls : List (Option Value)} {len t : Nat} {off v : Int} {x y : Int32} : ab_wp d J Q (((.if_icmp .ne off), len, [t], v) :: os) n bc bs ls (.int y :: .int x :: st) h = ((¬ x = y → J t n bc bs ls st h) ∧ (x = y → ab_wp d J Q os n bc bs ls st h)) := rfl
theorem ev_if_ne {d : Nat} {J : Nat → ab_K} {Q : Option Value → ab_H → Prop} {os : List ab_O} {n bc bs : Nat} {st : List Value} {h : ab_H} {ls : List (Option Value)} {len t : Nat} {off v : Int} {x : Int32} : ab_wp d J Q (((.ifCond .ne off), len, [t], v) :: os) n bc bs ls (.int x :: st) h = ((¬ x = 0 → J t n bc bs ls st h) ∧ (x = 0 → ab_wp d J Q os n bc bs ls st h)) := rfl
theorem ev_icmp_lt {d : Nat} {J : Nat → ab_K} {Q : Option Value → ab_H → Prop} {os : List ab_O} {n bc bs : Nat} {st : List Value} {h : ab_H} {ls : List (Option Value)} {len t : Nat} {off v : Int} {x y : Int32} : ab_wp d J Q (((.if_icmp .lt off), len, [t], v) :: os) n bc bs ls (.int y :: .int x :: st) h = ((x < y → J t n bc bs ls st h) ∧ (¬ x < y → ab_wp d J Q os n bc bs ls st h)) := rfl
theorem ev_if_lt {d : Nat} {J : Nat → ab_K} {Q : Option Value → ab_H → Prop} {os : List ab_O} {n bc bs : Nat} {st : List Value} {h : ab_H} {ls : List (Option Value)} {len t : Nat} {off v : Int} {x : Int32} : ab_wp d J Q (((.ifCond .lt off), len, [t], v) :: os) n bc bs ls (.int x :: st) h = ((x < 0 → J t n bc bs ls st h) ∧ (¬ x < 0 → ab_wp d J Q os n bc bs ls st h)) := rfl
theorem ev_icmp_ge {d : Nat} {J : Nat → ab_K} {Q : Option Value → ab_H → Prop} {os : List ab_O} {n bc bs : Nat} {st : List Value} {h : ab_H} {ls : List (Option Value)} {len t : Nat} {off v : Int} {x y : Int32} : ab_wp d J Q (((.if_icmp .ge off), len, [t], v) :: os) n bc bs ls (.int y :: .int x :: st) h = ((y ≤ x → J t n bc bs ls st h) ∧ (¬ y ≤ x → ab_wp d J Q os n bc bs ls st h)) := rfl
theorem ev_if_ge {d : Nat} {J : Nat → ab_K} {Q : Option Value → ab_H → Prop} {os : List ab_O} {n bc bs : Nat} {st : List Value} {h : ab_H} {ls : List (Option Value)} {len t : Nat} {off v : Int} {x : Int32} : ab_wp d J Q (((.ifCond .ge off), len, [t], v) :: os) n bc bs ls (.int x :: st) h = ((0 ≤ x → J t n bc bs ls st h) ∧ (¬ 0 ≤ x → ab_wp d J Q os n bc bs ls st h)) := rfl
theorem ev_icmp_gt {d : Nat} {J : Nat → ab_K} {Q : Option Value → ab_H → Prop} {os : List ab_O} {n bc bs : Nat} {st : List Value} {h : ab_H} {ls : List (Option Value)} {len t : Nat} {off v : Int} {x y : Int32} : ab_wp d J Q (((.if_icmp .gt off), len, [t], v) :: os) n bc bs ls (.int y :: .int x :: st) h = ((y < x → J t n bc bs ls st h) ∧ (¬ y < x → ab_wp d J Q os n bc bs ls st h)) := rfl
theorem ev_if_gt {d : Nat} {J : Nat → ab_K} {Q : Option Value → ab_H → Prop} {os : List ab_O} {n bc bs : Nat} {st : List Value} {h : ab_H} {ls : List (Option Value)} {len t : Nat} {off v : Int} {x : Int32} : ab_wp d J Q (((.ifCond .gt off), len, [t], v) :: os) n bc bs ls (.int x :: st) h = ((0 < x → J t n bc bs ls st h) ∧ (¬ 0 < x → ab_wp d J Q os n bc bs ls st h)) := rfl
theorem ev_icmp_le {d : Nat} {J : Nat → ab_K} {Q : Option Value → ab_H → Prop} {os : List ab_O} {n bc bs : Nat} {st : List Value} {h : ab_H} {ls : List (Option Value)} {len t : Nat} {off v : Int} {x y : Int32} : ab_wp d J Q (((.if_icmp .le off), len, [t], v) :: os) n bc bs ls (.int y :: .int x :: st) h = ((x ≤ y → J t n bc bs ls st h) ∧ (¬ x ≤ y → ab_wp d J Q os n bc bs ls st h)) := rfl
theorem ev_if_le {d : Nat} {J : Nat → ab_K} {Q : Option Value → ab_H → Prop} {os : List ab_O} {n bc bs : Nat} {st : List Value} {h : ab_H} {ls : List (Option Value)} {len t : Nat} {off v : Int} {x : Int32} : ab_wp d J Q (((.ifCond .le off), len, [t], v) :: os) n bc bs ls (.int x :: st) h = ((x ≤ 0 → J t n bc bs ls st h) ∧ (¬ x ≤ 0 → ab_wp d J Q os n bc bs ls st h)) := rfl
theorem ev_goto {d : Nat} {J : Nat → ab_K} {Q : Option Value → ab_H → Prop} {os : List ab_O} {n bc bs : Nat} {st : List Value} {h : ab_H} {ls : List (Option Value)} {len t : Nat} {off v : Int} : ab_wp d J Q (((.goto off), len, [t], v) :: os) n bc bs ls st h = (J t n bc bs ls st h) := rfl
theorem ev_nop {d : Nat} {J : Nat → ab_K} {Q : Option Value → ab_H → Prop} {os : List ab_O} {n bc bs : Nat} {st : List Value} {h : ab_H} {ls : List (Option Value)} {len t : Nat} {v : Int} : ab_wp d J Q ((.nop, len, [t], v) :: os) n bc bs ls st h = (J t n bc bs ls st h) := rfl
theorem ev_ifnull {d : Nat} {J : Nat → ab_K} {Q : Option Value → ab_H → Prop} {os : List ab_O} {n bc bs : Nat} {st : List Value} {h : ab_H} {ls : List (Option Value)} {len t x : Nat} {off v : Int} : ab_wp d J Q (((.ifnull off), len, [t], v) :: os) n bc bs ls (.ref x :: st) h = (ab_wp d J Q os n bc bs ls st h) := rfl
theorem ev_ifnullN {d : Nat} {J : Nat → ab_K} {Q : Option Value → ab_H → Prop} {os : List ab_O} {n bc bs : Nat} {st : List Value} {h : ab_H} {ls : List (Option Value)} {len t : Nat} {off v : Int} : ab_wp d J Q (((.ifnull off), len, [t], v) :: os) n bc bs ls (.null :: st) h = (J t n bc bs ls st h) := rfl
theorem ev_ifnonnull {d : Nat} {J : Nat → ab_K} {Q : Option Value → ab_H → Prop} {os : List ab_O} {n bc bs : Nat} {st : List Value} {h : ab_H} {ls : List (Option Value)} {len t x : Nat} {off v : Int} : ab_wp d J Q (((.ifnonnull off), len, [t], v) :: os) n bc bs ls (.ref x :: st) h = (J t n bc bs ls st h) := rfl
theorem ev_ifnonnullN {d : Nat} {J : Nat → ab_K} {Q : Option Value → ab_H → Prop} {os : List ab_O} {n bc bs : Nat} {st : List Value} {h : ab_H} {ls : List (Option Value)} {len t : Nat} {off v : Int} : ab_wp d J Q (((.ifnonnull off), len, [t], v) :: os) n bc bs ls (.null :: st) h = (ab_wp d J Q os n bc bs ls st h) := rfl
theorem ev_tableswitch {d : Nat} {J : Nat → ab_K} {Q : Option Value → ab_H → Prop} {os : List ab_O} {n bc bs : Nat} {st : List Value} {h : ab_H} {ls : List (Option Value)} {len t : Nat} {ts : List Nat} {df lo hi v : Int} {offs : Array Int} {x : Int32} : ab_wp d J Q (((.tableswitch df lo hi offs), len, (t :: ts), v) :: os) n bc bs ls (.int x :: st) h = ((x.toInt < lo ∨ hi < x.toInt → J t n bc bs ls st h) ∧ ab_sw x (fun t => J t n bc bs ls st h) lo ts) := rfl
theorem ev_lookupswitch {d : Nat} {J : Nat → ab_K} {Q : Option Value → ab_H → Prop} {os : List ab_O} {n bc bs : Nat} {st : List Value} {h : ab_H} {ls : List (Option Value)} {len t : Nat} {ts : List Nat} {df v : Int} {ps : Array (Int × Int)} {x : Int32} : ab_wp d J Q (((.lookupswitch df ps), len, (t :: ts), v) :: os) n bc bs ls (.int x :: st) h = (ab_lk2 x (fun t => J t n bc bs ls st h) t ps.toList ts) := rfl
theorem ev_getfield_0 {d : Nat} {J : Nat → ab_K} {Q : Option Value → ab_H → Prop} {os : List ab_O} {n bc bs : Nat} {st : List Value} {h : ab_H} {ls : List (Option Value)} {len i ci f p ne b : Nat} {v : Int} : ab_wp d J Q (((.getfield i), len, [ci, f, 0, p, ne], v) :: os) n bc bs ls (.ref b :: st) h = (ab_ac n b ci ∧ ab_wp d J Q os n bc bs ls (.int (h.1 b f) :: st) h) := rfl
theorem ev_getfield_2 {d : Nat} {J : Nat → ab_K} {Q : Option Value → ab_H → Prop} {os : List ab_O} {n bc bs : Nat} {st : List Value} {h : ab_H} {ls : List (Option Value)} {len i ci f p ne b : Nat} {v : Int} : ab_wp d J Q (((.getfield i), len, [ci, f, 2, p, ne], v) :: os) n bc bs ls (.ref b :: st) h = (ab_ac n b ci ∧ ab_wp d J Q os n bc bs ls (.int (h.1 b f) :: st) h) := rfl
theorem ev_getfield_1 {d : Nat} {J : Nat → ab_K} {Q : Option Value → ab_H → Prop} {os : List ab_O} {n bc bs : Nat} {st : List Value} {h : ab_H} {ls : List (Option Value)} {len i ci f p ne b : Nat} {v : Int} : ab_wp d J Q (((.getfield i), len, [ci, f, 1, p, ne], v) :: os) n bc bs ls (.ref b :: st) h = (ab_ac n b ci ∧ h.2 b f < 1000 ∧ ab_wp d J Q os n bc bs ls (.ref (h.2 b f) :: st) h) := rfl
theorem ev_putfield_0 {d : Nat} {J : Nat → ab_K} {Q : Option Value → ab_H → Prop} {os : List ab_O} {n bc bs : Nat} {st : List Value} {h : ab_H} {ls : List (Option Value)} {len i ci f p ne fi b : Nat} {v : Int} {x : Int32} : ab_wp d J Q (((.putfield i), len, [ci, f, 0, p, ne, fi], v) :: os) n bc bs ls (.int x :: .ref b :: st) h = (ab_ac n b ci ∧ ab_wp d J Q os n bc bs ls st (ab_hi h b f x)) := rfl
theorem ev_putfield_2 {d : Nat} {J : Nat → ab_K} {Q : Option Value → ab_H → Prop} {os : List ab_O} {n bc bs : Nat} {st : List Value} {h : ab_H} {ls : List (Option Value)} {len i ci f p ne fi b : Nat} {v : Int} {x : Int32} : ab_wp d J Q (((.putfield i), len, [ci, f, 2, p, ne, fi], v) :: os) n bc bs ls (.int x :: .ref b :: st) h = (ab_ac n b ci ∧ (x = 0 ∨ x = 1) ∧ ab_wp d J Q os n bc bs ls st (ab_hi h b f x)) := rfl
theorem ev_putfield_1 {d : Nat} {J : Nat → ab_K} {Q : Option Value → ab_H → Prop} {os : List ab_O} {n bc bs : Nat} {st : List Value} {h : ab_H} {ls : List (Option Value)} {len i ci f p ne fi a b : Nat} {v : Int} : ab_wp d J Q (((.putfield i), len, [ci, f, 1, p, ne, fi], v) :: os) n bc bs ls (.ref a :: .ref b :: st) h = (ab_ac n b ci ∧ a < 1000 ∧ ab_wp d J Q os n bc bs ls st (ab_hr h b f a)) := rfl
theorem ev_arraylength {d : Nat} {J : Nat → ab_K} {Q : Option Value → ab_H → Prop} {os : List ab_O} {n bc bs : Nat} {st : List Value} {h : ab_H} {ls : List (Option Value)} {len : Nat} {dt : List Nat} {v : Int} {b : Nat} : ab_wp d J Q ((.arraylength, len, dt, v) :: os) n bc bs ls (.ref b :: st) h = (ab_ar n b ∧ ab_wp d J Q os n bc bs ls (.int (Int32.ofInt ((ab_sh b - 100 : Nat) : Int)) :: st) h) := rfl
theorem ev_iaload {d : Nat} {J : Nat → ab_K} {Q : Option Value → ab_H → Prop} {os : List ab_O} {n bc bs : Nat} {st : List Value} {h : ab_H} {ls : List (Option Value)} {len : Nat} {dt : List Nat} {v : Int} {b : Nat} {i : Int32} : ab_wp d J Q ((.iaload, len, dt, v) :: os) n bc bs ls (.int i :: .ref b :: st) h = (ab_ar n b ∧ vp_in i (ab_sh b - 100) ∧ ab_wp d J Q os n bc bs ls (.int (h.1 b i.toNatClampNeg) :: st) h) := rfl
theorem ev_iastore {d : Nat} {J : Nat → ab_K} {Q : Option Value → ab_H → Prop} {os : List ab_O} {n bc bs : Nat} {st : List Value} {h : ab_H} {ls : List (Option Value)} {len : Nat} {dt : List Nat} {v : Int} {b : Nat} {i x : Int32} : ab_wp d J Q ((.iastore, len, dt, v) :: os) n bc bs ls (.int x :: .int i :: .ref b :: st) h = (ab_ar n b ∧ vp_in i (ab_sh b - 100) ∧ ab_wp d J Q os n bc bs ls st (ab_hi h b i.toNatClampNeg x)) := rfl
theorem ev_new {d : Nat} {J : Nat → ab_K} {Q : Option Value → ab_H → Prop} {os : List ab_O} {n bc bs : Nat} {st : List Value} {h : ab_H} {ls : List (Option Value)} {len : Nat} {dt : List Nat} {v : Int} {i ci : Nat} : ab_wp d J Q (((.new i), len, (ci :: dt), v) :: os) n bc bs ls st h = (ab_sh n = ci ∧ 1 ≤ bc ∧ ab_nf ci ≤ bs ∧ ab_wp d J Q os (n + 1) (bc - 1) (bs - ab_nf ci) ls (.ref n :: st) (ab_hn h n)) := rfl
theorem ev_newarray {d : Nat} {J : Nat → ab_K} {Q : Option Value → ab_H → Prop} {os : List ab_O} {n bc bs : Nat} {st : List Value} {h : ab_H} {ls : List (Option Value)} {len : Nat} {dt : List Nat} {v : Int} {t : ArrayType} {x : Int32} : ab_wp d J Q (((.newarray t), len, dt, v) :: os) n bc bs ls (.int x :: st) h = (¬ x < 0 ∧ x.toNatClampNeg ≤ 1000 ∧ ab_sh n = 100 + x.toNatClampNeg ∧ 1 ≤ bc ∧ x.toNatClampNeg ≤ bs ∧ ab_wp d J Q os (n + 1) (bc - 1) (bs - x.toNatClampNeg) ls (.ref n :: st) (ab_hn h n)) := rfl
theorem ev_callv_1 {d : Nat} {J : Nat → ab_K} {Q : Option Value → ab_H → Prop} {os : List ab_O} {n bc bs : Nat} {st : List Value} {h : ab_H} {ls : List (Option Value)} {len i y ne p1 p2 p3 p4 ci b : Nat} {v : Int} : ab_wp d J Q (((.invokevirtual i), len, [y, 1, 0, ne, p1, p2, p3, p4, ci], v) :: os) n bc bs ls (.ref b :: st) h = (1 ≤ d ∧ ab_st1 st = true ∧ ab_ac n b ci ∧ ab_C (d - 1) y n [.ref b] h (fun rv h' => ab_wp d J Q os n bc bs ls (rv.toList ++ st) h')) := rfl
theorem ev_calls_0 {d : Nat} {J : Nat → ab_K} {Q : Option Value → ab_H → Prop} {os : List ab_O} {n bc bs : Nat} {st : List Value} {h : ab_H} {ls : List (Option Value)} {len i y ne p1 p2 p3 p4 : Nat} {v : Int} : ab_wp d J Q (((.invokestatic i), len, [y, 0, 1, ne, p1, p2, p3, p4], v) :: os) n bc bs ls (st) h = (1 ≤ d ∧ ab_st1 st = true ∧ ab_C (d - 1) y n [] h (fun rv h' => ab_wp d J Q os n bc bs ls (rv.toList ++ st) h')) := rfl
theorem ev_calli_1 {d : Nat} {J : Nat → ab_K} {Q : Option Value → ab_H → Prop} {os : List ab_O} {n bc bs : Nat} {st : List Value} {h : ab_H} {ls : List (Option Value)} {len i y ne p1 p2 p3 p4 b : Nat} {v : Int} : ab_wp d J Q (((.invokespecial i), len, [y, 1, 2, ne, p1, p2, p3, p4], v) :: os) n bc bs ls (.ref b :: st) h = (1 ≤ d ∧ ab_st1 st = true ∧ True ∧ ab_mc y ≤ bc ∧ ab_ms y ≤ bs ∧ ab_C (d - 1) y n [.ref b] h (fun rv h' => ab_wp d J Q os (n + ab_mc y) (bc - ab_mc y) (bs - ab_ms y) ls (rv.toList ++ st) h')) := rfl
theorem ev_callv_2 {d : Nat} {J : Nat → ab_K} {Q : Option Value → ab_H → Prop} {os : List ab_O} {n bc bs : Nat} {st : List Value} {h : ab_H} {ls : List (Option Value)} {w0 : Value} {len i y ne p1 p2 p3 p4 ci b : Nat} {v : Int} : ab_wp d J Q (((.invokevirtual i), len, [y, 2, 0, ne, p1, p2, p3, p4, ci], v) :: os) n bc bs ls (w0 :: .ref b :: st) h = (1 ≤ d ∧ ab_st1 st = true ∧ ab_ac n b ci ∧ ab_C (d - 1) y n [.ref b, w0] h (fun rv h' => ab_wp d J Q os n bc bs ls (rv.toList ++ st) h')) := rfl
theorem ev_calls_1 {d : Nat} {J : Nat → ab_K} {Q : Option Value → ab_H → Prop} {os : List ab_O} {n bc bs : Nat} {st : List Value} {h : ab_H} {ls : List (Option Value)} {w0 : Value} {len i y ne p1 p2 p3 p4 : Nat} {v : Int} : ab_wp d J Q (((.invokestatic i), len, [y, 1, 1, ne, p1, p2, p3, p4], v) :: os) n bc bs ls (w0 :: st) h = (1 ≤ d ∧ ab_st1 st = true ∧ ab_C (d - 1) y n [w0] h (fun rv h' => ab_wp d J Q os n bc bs ls (rv.toList ++ st) h')) := rfl
theorem ev_calli_2 {d : Nat} {J : Nat → ab_K} {Q : Option Value → ab_H → Prop} {os : List ab_O} {n bc bs : Nat} {st : List Value} {h : ab_H} {ls : List (Option Value)} {w0 : Value} {len i y ne p1 p2 p3 p4 b : Nat} {v : Int} : ab_wp d J Q (((.invokespecial i), len, [y, 2, 2, ne, p1, p2, p3, p4], v) :: os) n bc bs ls (w0 :: .ref b :: st) h = (1 ≤ d ∧ ab_st1 st = true ∧ True ∧ ab_mc y ≤ bc ∧ ab_ms y ≤ bs ∧ ab_C (d - 1) y n [.ref b, w0] h (fun rv h' => ab_wp d J Q os (n + ab_mc y) (bc - ab_mc y) (bs - ab_ms y) ls (rv.toList ++ st) h')) := rfl
theorem ev_callv_3 {d : Nat} {J : Nat → ab_K} {Q : Option Value → ab_H → Prop} {os : List ab_O} {n bc bs : Nat} {st : List Value} {h : ab_H} {ls : List (Option Value)} {w0 w1 : Value} {len i y ne p1 p2 p3 p4 ci b : Nat} {v : Int} : ab_wp d J Q (((.invokevirtual i), len, [y, 3, 0, ne, p1, p2, p3, p4, ci], v) :: os) n bc bs ls (w1 :: w0 :: .ref b :: st) h = (1 ≤ d ∧ ab_st1 st = true ∧ ab_ac n b ci ∧ ab_C (d - 1) y n [.ref b, w0, w1] h (fun rv h' => ab_wp d J Q os n bc bs ls (rv.toList ++ st) h')) := rfl
theorem ev_calls_2 {d : Nat} {J : Nat → ab_K} {Q : Option Value → ab_H → Prop} {os : List ab_O} {n bc bs : Nat} {st : List Value} {h : ab_H} {ls : List (Option Value)} {w0 w1 : Value} {len i y ne p1 p2 p3 p4 : Nat} {v : Int} : ab_wp d J Q (((.invokestatic i), len, [y, 2, 1, ne, p1, p2, p3, p4], v) :: os) n bc bs ls (w1 :: w0 :: st) h = (1 ≤ d ∧ ab_st1 st = true ∧ ab_C (d - 1) y n [w0, w1] h (fun rv h' => ab_wp d J Q os n bc bs ls (rv.toList ++ st) h')) := rfl
theorem ev_calli_3 {d : Nat} {J : Nat → ab_K} {Q : Option Value → ab_H → Prop} {os : List ab_O} {n bc bs : Nat} {st : List Value} {h : ab_H} {ls : List (Option Value)} {w0 w1 : Value} {len i y ne p1 p2 p3 p4 b : Nat} {v : Int} : ab_wp d J Q (((.invokespecial i), len, [y, 3, 2, ne, p1, p2, p3, p4], v) :: os) n bc bs ls (w1 :: w0 :: .ref b :: st) h = (1 ≤ d ∧ ab_st1 st = true ∧ True ∧ ab_mc y ≤ bc ∧ ab_ms y ≤ bs ∧ ab_C (d - 1) y n [.ref b, w0, w1] h (fun rv h' => ab_wp d J Q os (n + ab_mc y) (bc - ab_mc y) (bs - ab_ms y) ls (rv.toList ++ st) h')) := rfl
theorem ev_callv_4 {d : Nat} {J : Nat → ab_K} {Q : Option Value → ab_H → Prop} {os : List ab_O} {n bc bs : Nat} {st : List Value} {h : ab_H} {ls : List (Option Value)} {w0 w1 w2 : Value} {len i y ne p1 p2 p3 p4 ci b : Nat} {v : Int} : ab_wp d J Q (((.invokevirtual i), len, [y, 4, 0, ne, p1, p2, p3, p4, ci], v) :: os) n bc bs ls (w2 :: w1 :: w0 :: .ref b :: st) h = (1 ≤ d ∧ ab_st1 st = true ∧ ab_ac n b ci ∧ ab_C (d - 1) y n [.ref b, w0, w1, w2] h (fun rv h' => ab_wp d J Q os n bc bs ls (rv.toList ++ st) h')) := rfl
theorem ev_calls_3 {d : Nat} {J : Nat → ab_K} {Q : Option Value → ab_H → Prop} {os : List ab_O} {n bc bs : Nat} {st : List Value} {h : ab_H} {ls : List (Option Value)} {w0 w1 w2 : Value} {len i y ne p1 p2 p3 p4 : Nat} {v : Int} : ab_wp d J Q (((.invokestatic i), len, [y, 3, 1, ne, p1, p2, p3, p4], v) :: os) n bc bs ls (w2 :: w1 :: w0 :: st) h = (1 ≤ d ∧ ab_st1 st = true ∧ ab_C (d - 1) y n [w0, w1, w2] h (fun rv h' => ab_wp d J Q os n bc bs ls (rv.toList ++ st) h')) := rfl
theorem ev_calli_4 {d : Nat} {J : Nat → ab_K} {Q : Option Value → ab_H → Prop} {os : List ab_O} {n bc bs : Nat} {st : List Value} {h : ab_H} {ls : List (Option Value)} {w0 w1 w2 : Value} {len i y ne p1 p2 p3 p4 b : Nat} {v : Int} : ab_wp d J Q (((.invokespecial i), len, [y, 4, 2, ne, p1, p2, p3, p4], v) :: os) n bc bs ls (w2 :: w1 :: w0 :: .ref b :: st) h = (1 ≤ d ∧ ab_st1 st = true ∧ True ∧ ab_mc y ≤ bc ∧ ab_ms y ≤ bs ∧ ab_C (d - 1) y n [.ref b, w0, w1, w2] h (fun rv h' => ab_wp d J Q os (n + ab_mc y) (bc - ab_mc y) (bs - ab_ms y) ls (rv.toList ++ st) h')) := rfl
theorem ev_callv_5 {d : Nat} {J : Nat → ab_K} {Q : Option Value → ab_H → Prop} {os : List ab_O} {n bc bs : Nat} {st : List Value} {h : ab_H} {ls : List (Option Value)} {w0 w1 w2 w3 : Value} {len i y ne p1 p2 p3 p4 ci b : Nat} {v : Int} : ab_wp d J Q (((.invokevirtual i), len, [y, 5, 0, ne, p1, p2, p3, p4, ci], v) :: os) n bc bs ls (w3 :: w2 :: w1 :: w0 :: .ref b :: st) h = (1 ≤ d ∧ ab_st1 st = true ∧ ab_ac n b ci ∧ ab_C (d - 1) y n [.ref b, w0, w1, w2, w3] h (fun rv h' => ab_wp d J Q os n bc bs ls (rv.toList ++ st) h')) := rfl
theorem ev_calls_4 {d : Nat} {J : Nat → ab_K} {Q : Option Value → ab_H → Prop} {os : List ab_O} {n bc bs : Nat} {st : List Value} {h : ab_H} {ls : List (Option Value)} {w0 w1 w2 w3 : Value} {len i y ne p1 p2 p3 p4 : Nat} {v : Int} : ab_wp d J Q (((.invokestatic i), len, [y, 4, 1, ne, p1, p2, p3, p4], v) :: os) n bc bs ls (w3 :: w2 :: w1 :: w0 :: st) h = (1 ≤ d ∧ ab_st1 st = true ∧ ab_C (d - 1) y n [w0, w1, w2, w3] h (fun rv h' => ab_wp d J Q os n bc bs ls (rv.toList ++ st) h')) := rfl
theorem ev_calli_5 {d : Nat} {J : Nat → ab_K} {Q : Option Value → ab_H → Prop} {os : List ab_O} {n bc bs : Nat} {st : List Value} {h : ab_H} {ls : List (Option Value)} {w0 w1 w2 w3 : Value} {len i y ne p1 p2 p3 p4 b : Nat} {v : Int} : ab_wp d J Q (((.invokespecial i), len, [y, 5, 2, ne, p1, p2, p3, p4], v) :: os) n bc bs ls (w3 :: w2 :: w1 :: w0 :: .ref b :: st) h = (1 ≤ d ∧ ab_st1 st = true ∧ True ∧ ab_mc y ≤ bc ∧ ab_ms y ≤ bs ∧ ab_C (d - 1) y n [.ref b, w0, w1, w2, w3] h (fun rv h' => ab_wp d J Q os (n + ab_mc y) (bc - ab_mc y) (bs - ab_ms y) ls (rv.toList ++ st) h')) := rfl
theorem ev_callv_6 {d : Nat} {J : Nat → ab_K} {Q : Option Value → ab_H → Prop} {os : List ab_O} {n bc bs : Nat} {st : List Value} {h : ab_H} {ls : List (Option Value)} {w0 w1 w2 w3 w4 : Value} {len i y ne p1 p2 p3 p4 ci b : Nat} {v : Int} : ab_wp d J Q (((.invokevirtual i), len, [y, 6, 0, ne, p1, p2, p3, p4, ci], v) :: os) n bc bs ls (w4 :: w3 :: w2 :: w1 :: w0 :: .ref b :: st) h = (1 ≤ d ∧ ab_st1 st = true ∧ ab_ac n b ci ∧ ab_C (d - 1) y n [.ref b, w0, w1, w2, w3, w4] h (fun rv h' => ab_wp d J Q os n bc bs ls (rv.toList ++ st) h')) := rfl
theorem ev_calls_5 {d : Nat} {J : Nat → ab_K} {Q : Option Value → ab_H → Prop} {os : List ab_O} {n bc bs : Nat} {st : List Value} {h : ab_H} {ls : List (Option Value)} {w0 w1 w2 w3 w4 : Value} {len i y ne p1 p2 p3 p4 : Nat} {v : Int} : ab_wp d J Q (((.invokestatic i), len, [y, 5, 1, ne, p1, p2, p3, p4], v) :: os) n bc bs ls (w4 :: w3 :: w2 :: w1 :: w0 :: st) h = (1 ≤ d ∧ ab_st1 st = true ∧ ab_C (d - 1) y n [w0, w1, w2, w3, w4] h (fun rv h' => ab_wp d J Q os n bc bs ls (rv.toList ++ st) h')) := rfl
theorem ev_calli_6 {d : Nat} {J : Nat → ab_K} {Q : Option Value → ab_H → Prop} {os : List ab_O} {n bc bs : Nat} {st : List Value} {h : ab_H} {ls : List (Option Value)} {w0 w1 w2 w3 w4 : Value} {len i y ne p1 p2 p3 p4 b : Nat} {v : Int} : ab_wp d J Q (((.invokespecial i), len, [y, 6, 2, ne, p1, p2, p3, p4], v) :: os) n bc bs ls (w4 :: w3 :: w2 :: w1 :: w0 :: .ref b :: st) h = (1 ≤ d ∧ ab_st1 st = true ∧ True ∧ ab_mc y ≤ bc ∧ ab_ms y ≤ bs ∧ ab_C (d - 1) y n [.ref b, w0, w1, w2, w3, w4] h (fun rv h' => ab_wp d J Q os (n + ab_mc y) (bc - ab_mc y) (bs - ab_ms y) ls (rv.toList ++ st) h')) := rfl
theorem ev_callv_7 {d : Nat} {J : Nat → ab_K} {Q : Option Value → ab_H → Prop} {os : List ab_O} {n bc bs : Nat} {st : List Value} {h : ab_H} {ls : List (Option Value)} {w0 w1 w2 w3 w4 w5 : Value} {len i y ne p1 p2 p3 p4 ci b : Nat} {v : Int} : ab_wp d J Q (((.invokevirtual i), len, [y, 7, 0, ne, p1, p2, p3, p4, ci], v) :: os) n bc bs ls (w5 :: w4 :: w3 :: w2 :: w1 :: w0 :: .ref b :: st) h = (1 ≤ d ∧ ab_st1 st = true ∧ ab_ac n b ci ∧ ab_C (d - 1) y n [.ref b, w0, w1, w2, w3, w4, w5] h (fun rv h' => ab_wp d J Q os n bc bs ls (rv.toList ++ st) h')) := rfl
theorem ev_calls_6 {d : Nat} {J : Nat → ab_K} {Q : Option Value → ab_H → Prop} {os : List ab_O} {n bc bs : Nat} {st : List Value} {h : ab_H} {ls : List (Option Value)} {w0 w1 w2 w3 w4 w5 : Value} {len i y ne p1 p2 p3 p4 : Nat} {v : Int} : ab_wp d J Q (((.invokestatic i), len, [y, 6, 1, ne, p1, p2, p3, p4], v) :: os) n bc bs ls (w5 :: w4 :: w3 :: w2 :: w1 :: w0 :: st) h = (1 ≤ d ∧ ab_st1 st = true ∧ ab_C (d - 1) y n [w0, w1, w2, w3, w4, w5] h (fun rv h' => ab_wp d J Q os n bc bs ls (rv.toList ++ st) h')) := rfl
theorem ev_calli_7 {d : Nat} {J : Nat → ab_K} {Q : Option Value → ab_H → Prop} {os : List ab_O} {n bc bs : Nat} {st : List Value} {h : ab_H} {ls : List (Option Value)} {w0 w1 w2 w3 w4 w5 : Value} {len i y ne p1 p2 p3 p4 b : Nat} {v : Int} : ab_wp d J Q (((.invokespecial i), len, [y, 7, 2, ne, p1, p2, p3, p4], v) :: os) n bc bs ls (w5 :: w4 :: w3 :: w2 :: w1 :: w0 :: .ref b :: st) h = (1 ≤ d ∧ ab_st1 st = true ∧ True ∧ ab_mc y ≤ bc ∧ ab_ms y ≤ bs ∧ ab_C (d - 1) y n [.ref b, w0, w1, w2, w3, w4, w5] h (fun rv h' => ab_wp d J Q os (n + ab_mc y) (bc - ab_mc y) (bs - ab_ms y) ls (rv.toList ++ st) h')) := rfl
theorem ev_callv_8 {d : Nat} {J : Nat → ab_K} {Q : Option Value → ab_H → Prop} {os : List ab_O} {n bc bs : Nat} {st : List Value} {h : ab_H} {ls : List (Option Value)} {w0 w1 w2 w3 w4 w5 w6 : Value} {len i y ne p1 p2 p3 p4 ci b : Nat} {v : Int} : ab_wp d J Q (((.invokevirtual i), len, [y, 8, 0, ne, p1, p2, p3, p4, ci], v) :: os) n bc bs ls (w6 :: w5 :: w4 :: w3 :: w2 :: w1 :: w0 :: .ref b :: st) h = (1 ≤ d ∧ ab_st1 st = true ∧ ab_ac n b ci ∧ ab_C (d - 1) y n [.ref b, w0, w1, w2, w3, w4, w5, w6] h (fun rv h' => ab_wp d J Q os n bc bs ls (rv.toList ++ st) h')) := rfl
theorem ev_calls_7 {d : Nat} {J : Nat → ab_K} {Q : Option Value → ab_H → Prop} {os : List ab_O} {n bc bs : Nat} {st : List Value} {h : ab_H} {ls : List (Option Value)} {w0 w1 w2 w3 w4 w5 w6 : Value} {len i y ne p1 p2 p3 p4 : Nat} {v : Int} : ab_wp d J Q (((.invokestatic i), len, [y, 7, 1, ne, p1, p2, p3, p4], v) :: os) n bc bs ls (w6 :: w5 :: w4 :: w3 :: w2 :: w1 :: w0 :: st) h = (1 ≤ d ∧ ab_st1 st = true ∧ ab_C (d - 1) y n [w0, w1, w2, w3, w4, w5, w6] h (fun rv h' => ab_wp d J Q os n bc bs ls (rv.toList ++ st) h')) := rfl
theorem ev_calli_8 {d : Nat} {J : Nat → ab_K} {Q : Option Value → ab_H → Prop} {os : List ab_O} {n bc bs : Nat} {st : List Value} {h : ab_H} {ls : List (Option Value)} {w0 w1 w2 w3 w4 w5 w6 : Value} {len i y ne p1 p2 p3 p4 b : Nat} {v : Int} : ab_wp d J Q (((.invokespecial i), len, [y, 8, 2, ne, p1, p2, p3, p4], v) :: os) n bc bs ls (w6 :: w5 :: w4 :: w3 :: w2 :: w1 :: w0 :: .ref b :: st) h = (1 ≤ d ∧ ab_st1 st = true ∧ True ∧ ab_mc y ≤ bc ∧ ab_ms y ≤ bs ∧ ab_C (d - 1) y n [.ref b, w0, w1, w2, w3, w4, w5, w6] h (fun rv h' => ab_wp d J Q os (n + ab_mc y) (bc - ab_mc y) (bs - ab_ms y) ls (rv.toList ++ st) h')) := rfl
theorem ev_objinit {d : Nat} {J : Nat → ab_K} {Q : Option Value → ab_H → Prop} {os : List ab_O} {n bc bs : Nat} {st : List Value} {h : ab_H} {ls : List (Option Value)} {len : Nat} {dt : List Nat} {v : Int} {i b : Nat} : ab_wp d J Q (((.invokespecial i), len, (999 :: 1 :: 3 :: dt), v) :: os) n bc bs ls (.ref b :: st) h = (1 ≤ d ∧ ab_st1 st = true ∧ ab_wp d J Q os n bc bs ls st h) := rfl
theorem ev_raw {d : Nat} {J : Nat → ab_K} {Q : Option Value → ab_H → Prop} {os : List ab_O} {n bc bs : Nat} {st : List Value} {h : ab_H} {ls : List (Option Value)} {len : Nat} {dt : List Nat} {v : Int} {i : Nat} {x : UInt32} : ab_wp d J Q (((.invokestatic i), len, (998 :: 1 :: 4 :: dt), v) :: os) n bc bs ls (.float x :: st) h = (1 ≤ d ∧ ab_st1 st = true ∧ ab_wp d J Q os n bc bs ls (.int x.toInt32 :: st) h) := rfl
theorem ev_mmax {d : Nat} {J : Nat → ab_K} {Q : Option Value → ab_H → Prop} {os : List ab_O} {n bc bs : Nat} {st : List Value} {h : ab_H} {ls : List (Option Value)} {len : Nat} {dt : List Nat} {v : Int} {i : Nat} {x y : Int32} : ab_wp d J Q (((.invokestatic i), len, (997 :: 2 :: 5 :: dt), v) :: os) n bc bs ls (.int y :: .int x :: st) h = (1 ≤ d ∧ ab_st1 st = true ∧ ab_wp d J Q os n bc bs ls (.int (if x < y then y else x) :: st) h) := rfl
theorem ev_mmin {d : Nat} {J : Nat → ab_K} {Q : Option Value → ab_H → Prop} {os : List ab_O} {n bc bs : Nat} {st : List Value} {h : ab_H} {ls : List (Option Value)} {len : Nat} {dt : List Nat} {v : Int} {i : Nat} {x y : Int32} : ab_wp d J Q (((.invokestatic i), len, (997 :: 2 :: 6 :: dt), v) :: os) n bc bs ls (.int y :: .int x :: st) h = (1 ≤ d ∧ ab_st1 st = true ∧ ab_wp d J Q os n bc bs ls (.int (if y < x then y else x) :: st) h) := rfl
theorem ev_ireturn_0 {d : Nat} {J : Nat → ab_K} {Q : Option Value → ab_H → Prop} {os : List ab_O} {n bc bs : Nat} {h : ab_H} {ls : List (Option Value)} {len : Nat} {v : Int} {x : Int32} : ab_wp d J Q ((.ireturn, len, [0], v) :: os) n bc bs ls [.int x] h = (bc = 0 ∧ Q (some (.int x)) h) := rfl
theorem ev_ireturn_1 {d : Nat} {J : Nat → ab_K} {Q : Option Value → ab_H → Prop} {os : List ab_O} {n bc bs : Nat} {h : ab_H} {ls : List (Option Value)} {len : Nat} {v : Int} {x : Int32} : ab_wp d J Q ((.ireturn, len, [1], v) :: os) n bc bs ls [.int x] h = (bc = 0 ∧ (x = 0 ∨ x = 1) ∧ Q (some (.int x)) h) := rfl
theorem ev_areturn {d : Nat} {J : Nat → ab_K} {Q : Option Value → ab_H → Prop} {os : List ab_O} {n bc bs : Nat} {h : ab_H} {ls : List (Option Value)} {len : Nat} {dt : List Nat} {v : Int} {x : Nat} : ab_wp d J Q ((.areturn, len, dt, v) :: os) n bc bs ls [.ref x] h = (bc = 0 ∧ Q (some (.ref x)) h) := rfl
theorem ev_areturnN {d : Nat} {J : Nat → ab_K} {Q : Option Value → ab_H → Prop} {os : List ab_O} {n bc bs : Nat} {h : ab_H} {ls : List (Option Value)} {len : Nat} {dt : List Nat} {v : Int} : ab_wp d J Q ((.areturn, len, dt, v) :: os) n bc bs ls [.null] h = (bc = 0 ∧ Q (some .null) h) := rfl
theorem ev_return_ {d : Nat} {J : Nat → ab_K} {Q : Option Value → ab_H → Prop} {os : List ab_O} {n bc bs : Nat} {h : ab_H} {ls : List (Option Value)} {len : Nat} {dt : List Nat} {v : Int} : ab_wp d J Q ((.return_, len, dt, v) :: os) n bc bs ls [] h = (bc = 0 ∧ Q none h) := rfl
theorem bq_Integer_bitCount_0 : ab_bl bt_Integer_bitCount 0 = bk_Integer_bitCount_0 := rfl
theorem bq_Float_isNaN_0 : ab_bl bt_Float_isNaN 0 = bk_Float_isNaN_0 := rfl
theorem bq_Float_isNaN_10 : ab_bl bt_Float_isNaN 10 = bk_Float_isNaN_10 := rfl
theorem bq_Float_isNaN_11 : ab_bl bt_Float_isNaN 11 = bk_Float_isNaN_11 := rfl
theorem bq_Float_floatToIntBits_0 : ab_bl bt_Float_floatToIntBits 0 = bk_Float_floatToIntBits_0 := rfl
theorem bq_Float_floatToIntBits_12 : ab_bl bt_Float_floatToIntBits 12 = bk_Float_floatToIntBits_12 := rfl
theorem bq_Model_init_0 : ab_bl bt_Model_init 0 = bk_Model_init_0 := rfl
theorem bq_Model_init_64 : ab_bl bt_Model_init 64 = bk_Model_init_64 := rfl
theorem bq_Model_init_85 : ab_bl bt_Model_init 85 = bk_Model_init_85 := rfl
theorem bq_Model_in_0 : ab_bl bt_Model_in 0 = bk_Model_in_0 := rfl
theorem bq_Model_in_14 : ab_bl bt_Model_in 14 = bk_Model_in_14 := rfl
theorem bq_Model_in_15 : ab_bl bt_Model_in 15 = bk_Model_in_15 := rfl
theorem bq_Model_lays_0 : ab_bl bt_Model_lays 0 = bk_Model_lays_0 := rfl
theorem bq_Model_lays_2 : ab_bl bt_Model_lays 2 = bk_Model_lays_2 := rfl
theorem bq_Model_lays_21 : ab_bl bt_Model_lays 21 = bk_Model_lays_21 := rfl
theorem bq_Model_records_0 : ab_bl bt_Model_records 0 = bk_Model_records_0 := rfl
theorem bq_Model_records_8 : ab_bl bt_Model_records 8 = bk_Model_records_8 := rfl
theorem bq_Model_records_18 : ab_bl bt_Model_records 18 = bk_Model_records_18 := rfl
theorem bq_Model_records_47 : ab_bl bt_Model_records 47 = bk_Model_records_47 := rfl
theorem bq_Model_records_57 : ab_bl bt_Model_records 57 = bk_Model_records_57 := rfl
theorem bq_Model_records_59 : ab_bl bt_Model_records 59 = bk_Model_records_59 := rfl
theorem bq_Model_records_93 : ab_bl bt_Model_records 93 = bk_Model_records_93 := rfl
theorem bq_Model_undo_0 : ab_bl bt_Model_undo 0 = bk_Model_undo_0 := rfl
theorem bq_Model_undo_10 : ab_bl bt_Model_undo 10 = bk_Model_undo_10 := rfl
theorem bq_Model_undo_22 : ab_bl bt_Model_undo 22 = bk_Model_undo_22 := rfl
theorem bq_Model_undo_56 : ab_bl bt_Model_undo 56 = bk_Model_undo_56 := rfl
theorem bq_Model_isName_0 : ab_bl bt_Model_isName 0 = bk_Model_isName_0 := rfl
theorem bq_Model_isCollector_0 : ab_bl bt_Model_isCollector 0 = bk_Model_isCollector_0 := rfl
theorem bq_Model_isSide_0 : ab_bl bt_Model_isSide 0 = bk_Model_isSide_0 := rfl
theorem bq_Model_fameOf_0 : ab_bl bt_Model_fameOf 0 = bk_Model_fameOf_0 := rfl
theorem bq_Model_themeOf_0 : ab_bl bt_Model_themeOf 0 = bk_Model_themeOf_0 := rfl
theorem bq_Model_leavesOf_0 : ab_bl bt_Model_leavesOf 0 = bk_Model_leavesOf_0 := rfl
theorem bq_Model_placed_0 : ab_bl bt_Model_placed 0 = bk_Model_placed_0 := rfl
theorem bq_Model_find_0 : ab_bl bt_Model_find 0 = bk_Model_find_0 := rfl
theorem bq_Model_find_4 : ab_bl bt_Model_find 4 = bk_Model_find_4 := rfl
theorem bq_Model_find_51 : ab_bl bt_Model_find 51 = bk_Model_find_51 := rfl
theorem bq_Model_find_52 : ab_bl bt_Model_find 52 = bk_Model_find_52 := rfl
theorem bq_Model_find_63 : ab_bl bt_Model_find 63 = bk_Model_find_63 := rfl
theorem bq_Model_find_64 : ab_bl bt_Model_find 64 = bk_Model_find_64 := rfl
theorem bq_Model_find_71 : ab_bl bt_Model_find 71 = bk_Model_find_71 := rfl
theorem bq_Model_isLeaf_0 : ab_bl bt_Model_isLeaf 0 = bk_Model_isLeaf_0 := rfl
theorem bq_Model_isLeaf_13 : ab_bl bt_Model_isLeaf 13 = bk_Model_isLeaf_13 := rfl
theorem bq_Model_isLeaf_14 : ab_bl bt_Model_isLeaf 14 = bk_Model_isLeaf_14 := rfl
theorem bq_Model_ownerOf_0 : ab_bl bt_Model_ownerOf 0 = bk_Model_ownerOf_0 := rfl
theorem bq_Model_placeOf_0 : ab_bl bt_Model_placeOf 0 = bk_Model_placeOf_0 := rfl
theorem bq_Model_firstOf_0 : ab_bl bt_Model_firstOf 0 = bk_Model_firstOf_0 := rfl
theorem bq_Model_firstOf_2 : ab_bl bt_Model_firstOf 2 = bk_Model_firstOf_2 := rfl
theorem bq_Model_firstOf_30 : ab_bl bt_Model_firstOf 30 = bk_Model_firstOf_30 := rfl
theorem bq_Model_sizeOf_0 : ab_bl bt_Model_sizeOf 0 = bk_Model_sizeOf_0 := rfl
theorem bq_Model_sizeOf_2 : ab_bl bt_Model_sizeOf 2 = bk_Model_sizeOf_2 := rfl
theorem bq_Model_sizeOf_28 : ab_bl bt_Model_sizeOf 28 = bk_Model_sizeOf_28 := rfl
theorem bq_Model_entryAt_0 : ab_bl bt_Model_entryAt 0 = bk_Model_entryAt_0 := rfl
theorem bq_Model_entryAt_36 : ab_bl bt_Model_entryAt 36 = bk_Model_entryAt_36 := rfl
theorem bq_Model_entryAt_49 : ab_bl bt_Model_entryAt 49 = bk_Model_entryAt_49 := rfl
theorem bq_Model_entryAt_50 : ab_bl bt_Model_entryAt 50 = bk_Model_entryAt_50 := rfl
theorem bq_Model_entryAt_68 : ab_bl bt_Model_entryAt 68 = bk_Model_entryAt_68 := rfl
theorem bq_Model_entryAt_70 : ab_bl bt_Model_entryAt 70 = bk_Model_entryAt_70 := rfl
theorem bq_Model_valueFor_0 : ab_bl bt_Model_valueFor 0 = bk_Model_valueFor_0 := rfl
theorem bq_Model_valueFor_14 : ab_bl bt_Model_valueFor 14 = bk_Model_valueFor_14 := rfl
theorem bq_Model_valueFor_16 : ab_bl bt_Model_valueFor 16 = bk_Model_valueFor_16 := rfl
theorem bq_Model_valueFor_29 : ab_bl bt_Model_valueFor 29 = bk_Model_valueFor_29 := rfl
theorem bq_Model_valueFor_42 : ab_bl bt_Model_valueFor 42 = bk_Model_valueFor_42 := rfl
theorem bq_Model_valueFor_46 : ab_bl bt_Model_valueFor 46 = bk_Model_valueFor_46 := rfl
theorem bq_Model_lists_0 : ab_bl bt_Model_lists 0 = bk_Model_lists_0 := rfl
theorem bq_Model_lists_3 : ab_bl bt_Model_lists 3 = bk_Model_lists_3 := rfl
theorem bq_Model_lists_40 : ab_bl bt_Model_lists 40 = bk_Model_lists_40 := rfl
theorem bq_Model_listsBook_0 : ab_bl bt_Model_listsBook 0 = bk_Model_listsBook_0 := rfl
theorem bq_Model_listsTraded_0 : ab_bl bt_Model_listsTraded 0 = bk_Model_listsTraded_0 := rfl
theorem bq_Model_counts_0 : ab_bl bt_Model_counts 0 = bk_Model_counts_0 := rfl
theorem bq_Model_counts_15 : ab_bl bt_Model_counts 15 = bk_Model_counts_15 := rfl
theorem bq_Model_counts_58 : ab_bl bt_Model_counts 58 = bk_Model_counts_58 := rfl
theorem bq_Model_counts_60 : ab_bl bt_Model_counts 60 = bk_Model_counts_60 := rfl
theorem bq_Model_goesThrough_0 : ab_bl bt_Model_goesThrough 0 = bk_Model_goesThrough_0 := rfl
theorem bq_Model_goesThrough_17 : ab_bl bt_Model_goesThrough 17 = bk_Model_goesThrough_17 := rfl
theorem bq_Model_goesThrough_69 : ab_bl bt_Model_goesThrough 69 = bk_Model_goesThrough_69 := rfl
theorem bq_Model_goesThrough_70 : ab_bl bt_Model_goesThrough 70 = bk_Model_goesThrough_70 := rfl
theorem bq_Model_goesThrough_80 : ab_bl bt_Model_goesThrough 80 = bk_Model_goesThrough_80 := rfl
theorem bq_Model_namesOf_0 : ab_bl bt_Model_namesOf 0 = bk_Model_namesOf_0 := rfl
theorem bq_Model_namesOf_4 : ab_bl bt_Model_namesOf 4 = bk_Model_namesOf_4 := rfl
theorem bq_Model_namesOf_30 : ab_bl bt_Model_namesOf 30 = bk_Model_namesOf_30 := rfl
theorem bq_Model_namesOf_31 : ab_bl bt_Model_namesOf 31 = bk_Model_namesOf_31 := rfl
theorem bq_Model_namesOf_39 : ab_bl bt_Model_namesOf 39 = bk_Model_namesOf_39 := rfl
theorem bq_Model_ones_0 : ab_bl bt_Model_ones 0 = bk_Model_ones_0 := rfl
theorem bq_Model_ones_4 : ab_bl bt_Model_ones 4 = bk_Model_ones_4 := rfl
theorem bq_Model_ones_24 : ab_bl bt_Model_ones 24 = bk_Model_ones_24 := rfl
theorem bq_Model_isWhole_0 : ab_bl bt_Model_isWhole 0 = bk_Model_isWhole_0 := rfl
theorem bq_Model_isWhole_24 : ab_bl bt_Model_isWhole 24 = bk_Model_isWhole_24 := rfl
theorem bq_Model_isWhole_25 : ab_bl bt_Model_isWhole 25 = bk_Model_isWhole_25 := rfl
theorem bq_Model_worthListed_0 : ab_bl bt_Model_worthListed 0 = bk_Model_worthListed_0 := rfl
theorem bq_Model_worthListed_12 : ab_bl bt_Model_worthListed 12 = bk_Model_worthListed_12 := rfl
theorem bq_Model_worthListed_40 : ab_bl bt_Model_worthListed 40 = bk_Model_worthListed_40 := rfl
theorem bq_Model_worthListed_41 : ab_bl bt_Model_worthListed 41 = bk_Model_worthListed_41 := rfl
theorem bq_Model_worthListed_49 : ab_bl bt_Model_worthListed 49 = bk_Model_worthListed_49 := rfl
theorem bq_Model_worthOf_0 : ab_bl bt_Model_worthOf 0 = bk_Model_worthOf_0 := rfl
theorem bq_Model_wealthOf_0 : ab_bl bt_Model_wealthOf 0 = bk_Model_wealthOf_0 := rfl
theorem bq_Model_name_0 : ab_bl bt_Model_name 0 = bk_Model_name_0 := rfl
theorem bq_Model_name_19 : ab_bl bt_Model_name 19 = bk_Model_name_19 := rfl
theorem bq_Model_name_22 : ab_bl bt_Model_name 22 = bk_Model_name_22 := rfl
theorem bq_Model_name_38 : ab_bl bt_Model_name 38 = bk_Model_name_38 := rfl
theorem bq_Model_leaf_0 : ab_bl bt_Model_leaf 0 = bk_Model_leaf_0 := rfl
theorem bq_Model_leaf_10 : ab_bl bt_Model_leaf 10 = bk_Model_leaf_10 := rfl
theorem bq_Model_leaf_23 : ab_bl bt_Model_leaf 23 = bk_Model_leaf_23 := rfl
theorem bq_Model_leaf_53 : ab_bl bt_Model_leaf 53 = bk_Model_leaf_53 := rfl
theorem bq_Model_leaf_73 : ab_bl bt_Model_leaf 73 = bk_Model_leaf_73 := rfl
theorem bq_Model_signs_0 : ab_bl bt_Model_signs 0 = bk_Model_signs_0 := rfl
theorem bq_Model_signs_23 : ab_bl bt_Model_signs 23 = bk_Model_signs_23 := rfl
theorem bq_Model_signs_26 : ab_bl bt_Model_signs 26 = bk_Model_signs_26 := rfl
theorem bq_Model_signs_52 : ab_bl bt_Model_signs 52 = bk_Model_signs_52 := rfl
theorem bq_Model_signs_74 : ab_bl bt_Model_signs 74 = bk_Model_signs_74 := rfl
theorem bq_Model_signs_75 : ab_bl bt_Model_signs 75 = bk_Model_signs_75 := rfl
theorem bq_Model_sign_0 : ab_bl bt_Model_sign 0 = bk_Model_sign_0 := rfl
theorem bq_Model_over_0 : ab_bl bt_Model_over 0 = bk_Model_over_0 := rfl
theorem bq_Model_over_16 : ab_bl bt_Model_over 16 = bk_Model_over_16 := rfl
theorem bq_Model_over_19 : ab_bl bt_Model_over 19 = bk_Model_over_19 := rfl
theorem bq_Model_over_70 : ab_bl bt_Model_over 70 = bk_Model_over_70 := rfl
theorem bq_Model_over_73 : ab_bl bt_Model_over 73 = bk_Model_over_73 := rfl
theorem bq_Model_dedicate_0 : ab_bl bt_Model_dedicate 0 = bk_Model_dedicate_0 := rfl
theorem bq_Model_dedicate_22 : ab_bl bt_Model_dedicate 22 = bk_Model_dedicate_22 := rfl
theorem bq_Model_dedicate_25 : ab_bl bt_Model_dedicate 25 = bk_Model_dedicate_25 := rfl
theorem bq_Model_dedicate_65 : ab_bl bt_Model_dedicate 65 = bk_Model_dedicate_65 := rfl
theorem bq_Model_dedicate_68 : ab_bl bt_Model_dedicate 68 = bk_Model_dedicate_68 := rfl
theorem bq_Model_laysOld_0 : ab_bl bt_Model_laysOld 0 = bk_Model_laysOld_0 := rfl
theorem bq_Model_laysOld_2 : ab_bl bt_Model_laysOld 2 = bk_Model_laysOld_2 := rfl
theorem bq_Model_laysOld_39 : ab_bl bt_Model_laysOld 39 = bk_Model_laysOld_39 := rfl
theorem bq_Model_laysLeaves_0 : ab_bl bt_Model_laysLeaves 0 = bk_Model_laysLeaves_0 := rfl
theorem bq_Model_laysLeaves_3 : ab_bl bt_Model_laysLeaves 3 = bk_Model_laysLeaves_3 := rfl
theorem bq_Model_laysLeaves_52 : ab_bl bt_Model_laysLeaves 52 = bk_Model_laysLeaves_52 := rfl
theorem bq_Model_move_0 : ab_bl bt_Model_move 0 = bk_Model_move_0 := rfl
theorem bq_Model_move_12 : ab_bl bt_Model_move 12 = bk_Model_move_12 := rfl
theorem bq_Model_move_15 : ab_bl bt_Model_move 15 = bk_Model_move_15 := rfl
theorem bq_Model_move_66 : ab_bl bt_Model_move 66 = bk_Model_move_66 := rfl
theorem bq_Model_move_72 : ab_bl bt_Model_move 72 = bk_Model_move_72 := rfl
theorem bq_Model_move_101 : ab_bl bt_Model_move 101 = bk_Model_move_101 := rfl
theorem bq_Model_move_104 : ab_bl bt_Model_move 104 = bk_Model_move_104 := rfl
theorem bq_Model_move_124 : ab_bl bt_Model_move 124 = bk_Model_move_124 := rfl
theorem bq_Model_move_126 : ab_bl bt_Model_move 126 = bk_Model_move_126 := rfl
theorem bq_Model_move_178 : ab_bl bt_Model_move 178 = bk_Model_move_178 := rfl
theorem bq_Model_move_211 : ab_bl bt_Model_move 211 = bk_Model_move_211 := rfl
theorem bq_Model_trades_0 : ab_bl bt_Model_trades 0 = bk_Model_trades_0 := rfl
theorem bq_Model_fits_0 : ab_bl bt_Model_fits 0 = bk_Model_fits_0 := rfl
theorem bq_Model_fits_46 : ab_bl bt_Model_fits 46 = bk_Model_fits_46 := rfl
theorem bq_Model_fits_47 : ab_bl bt_Model_fits 47 = bk_Model_fits_47 := rfl
theorem bq_Model_trade_0 : ab_bl bt_Model_trade 0 = bk_Model_trade_0 := rfl
theorem bq_Model_trade_29 : ab_bl bt_Model_trade 29 = bk_Model_trade_29 := rfl
theorem bq_Model_trade_32 : ab_bl bt_Model_trade 32 = bk_Model_trade_32 := rfl
theorem bq_Model_trade_80 : ab_bl bt_Model_trade 80 = bk_Model_trade_80 := rfl
theorem bq_Model_trade_83 : ab_bl bt_Model_trade 83 = bk_Model_trade_83 := rfl
theorem bq_Model_trade_158 : ab_bl bt_Model_trade 158 = bk_Model_trade_158 := rfl
theorem bq_Model_trade_161 : ab_bl bt_Model_trade 161 = bk_Model_trade_161 := rfl
theorem bq_Model_tear_0 : ab_bl bt_Model_tear 0 = bk_Model_tear_0 := rfl
theorem bq_Model_tear_11 : ab_bl bt_Model_tear 11 = bk_Model_tear_11 := rfl
theorem bq_Model_coins_0 : ab_bl bt_Model_coins 0 = bk_Model_coins_0 := rfl
theorem bq_Model_coins_18 : ab_bl bt_Model_coins 18 = bk_Model_coins_18 := rfl
theorem bq_Model_coins_21 : ab_bl bt_Model_coins 21 = bk_Model_coins_21 := rfl
theorem bq_Model_countedAt_0 : ab_bl bt_Model_countedAt 0 = bk_Model_countedAt_0 := rfl
theorem bq_Model_countedAt_25 : ab_bl bt_Model_countedAt 25 = bk_Model_countedAt_25 := rfl
theorem bq_Model_countedAt_56 : ab_bl bt_Model_countedAt 56 = bk_Model_countedAt_56 := rfl
theorem bq_Model_countedAt_57 : ab_bl bt_Model_countedAt 57 = bk_Model_countedAt_57 := rfl
theorem bq_Model_countedAt_101 : ab_bl bt_Model_countedAt 101 = bk_Model_countedAt_101 := rfl
theorem bq_Model_countedAt_102 : ab_bl bt_Model_countedAt 102 = bk_Model_countedAt_102 := rfl
theorem bq_Model_countedAt_122 : ab_bl bt_Model_countedAt 122 = bk_Model_countedAt_122 := rfl
theorem bq_Model_countedAt_123 : ab_bl bt_Model_countedAt 123 = bk_Model_countedAt_123 := rfl
theorem bq_Model_countedAt_130 : ab_bl bt_Model_countedAt 130 = bk_Model_countedAt_130 := rfl
theorem bq_Model_pageOf_0 : ab_bl bt_Model_pageOf 0 = bk_Model_pageOf_0 := rfl
theorem bq_Model_pageOf_24 : ab_bl bt_Model_pageOf 24 = bk_Model_pageOf_24 := rfl
theorem bq_Model_pageOf_27 : ab_bl bt_Model_pageOf 27 = bk_Model_pageOf_27 := rfl
theorem bq_Model_pageOf_57 : ab_bl bt_Model_pageOf 57 = bk_Model_pageOf_57 := rfl
theorem bq_Model_pageOf_79 : ab_bl bt_Model_pageOf 79 = bk_Model_pageOf_79 := rfl
theorem bq_Model_pageOf_83 : ab_bl bt_Model_pageOf 83 = bk_Model_pageOf_83 := rfl
theorem bq_Model_pageOf_104 : ab_bl bt_Model_pageOf 104 = bk_Model_pageOf_104 := rfl
theorem bq_Model_pageOf_105 : ab_bl bt_Model_pageOf 105 = bk_Model_pageOf_105 := rfl
theorem bq_Model_pageOf_136 : ab_bl bt_Model_pageOf 136 = bk_Model_pageOf_136 := rfl
theorem bq_Model_pageOf_144 : ab_bl bt_Model_pageOf 144 = bk_Model_pageOf_144 := rfl
theorem bq_Model_pageOf_162 : ab_bl bt_Model_pageOf 162 = bk_Model_pageOf_162 := rfl
theorem bq_Model_pageOf_171 : ab_bl bt_Model_pageOf 171 = bk_Model_pageOf_171 := rfl
theorem bq_Model_pageOf_172 : ab_bl bt_Model_pageOf 172 = bk_Model_pageOf_172 := rfl
theorem bq_Model_pageOf_181 : ab_bl bt_Model_pageOf 181 = bk_Model_pageOf_181 := rfl
theorem bq_Model_pageOf_182 : ab_bl bt_Model_pageOf 182 = bk_Model_pageOf_182 := rfl
theorem bq_Model_pageOf_183 : ab_bl bt_Model_pageOf 183 = bk_Model_pageOf_183 := rfl
theorem bq_Model_leafOf_0 : ab_bl bt_Model_leafOf 0 = bk_Model_leafOf_0 := rfl
theorem bq_Model_leafOf_17 : ab_bl bt_Model_leafOf 17 = bk_Model_leafOf_17 := rfl
theorem bq_Model_leafOf_20 : ab_bl bt_Model_leafOf 20 = bk_Model_leafOf_20 := rfl
theorem bq_Model_leafOf_46 : ab_bl bt_Model_leafOf 46 = bk_Model_leafOf_46 := rfl
theorem bq_Model_leafOf_59 : ab_bl bt_Model_leafOf 59 = bk_Model_leafOf_59 := rfl
theorem bq_Model_leafOf_74 : ab_bl bt_Model_leafOf 74 = bk_Model_leafOf_74 := rfl
theorem bq_Model_leafOf_76 : ab_bl bt_Model_leafOf 76 = bk_Model_leafOf_76 := rfl
theorem bq_Model_at_0 : ab_bl bt_Model_at 0 = bk_Model_at_0 := rfl
theorem bq_Model_at_11 : ab_bl bt_Model_at 11 = bk_Model_at_11 := rfl
theorem bq_Model_at_14 : ab_bl bt_Model_at 14 = bk_Model_at_14 := rfl
theorem bq_Model_at_38 : ab_bl bt_Model_at 38 = bk_Model_at_38 := rfl
theorem bq_Model_at_40 : ab_bl bt_Model_at 40 = bk_Model_at_40 := rfl
theorem bq_Model_bundlesOf_0 : ab_bl bt_Model_bundlesOf 0 = bk_Model_bundlesOf_0 := rfl
theorem bq_Model_bundlesOf_4 : ab_bl bt_Model_bundlesOf 4 = bk_Model_bundlesOf_4 := rfl
theorem bq_Model_bundlesOf_33 : ab_bl bt_Model_bundlesOf 33 = bk_Model_bundlesOf_33 := rfl
theorem bq_Model_bundlesOf_34 : ab_bl bt_Model_bundlesOf 34 = bk_Model_bundlesOf_34 := rfl
theorem bq_Model_bundlesOf_42 : ab_bl bt_Model_bundlesOf 42 = bk_Model_bundlesOf_42 := rfl
theorem bq_Model_entriesIn_0 : ab_bl bt_Model_entriesIn 0 = bk_Model_entriesIn_0 := rfl
theorem bq_Model_entriesIn_6 : ab_bl bt_Model_entriesIn 6 = bk_Model_entriesIn_6 := rfl
theorem bq_Model_entriesIn_37 : ab_bl bt_Model_entriesIn 37 = bk_Model_entriesIn_37 := rfl
theorem bq_Model_entriesIn_38 : ab_bl bt_Model_entriesIn 38 = bk_Model_entriesIn_38 := rfl
theorem bq_Model_entriesIn_68 : ab_bl bt_Model_entriesIn 68 = bk_Model_entriesIn_68 := rfl
theorem bq_Model_entriesIn_72 : ab_bl bt_Model_entriesIn 72 = bk_Model_entriesIn_72 := rfl
theorem bq_Model_entriesIn_73 : ab_bl bt_Model_entriesIn 73 = bk_Model_entriesIn_73 := rfl
theorem bq_Model_entriesIn_119 : ab_bl bt_Model_entriesIn 119 = bk_Model_entriesIn_119 := rfl
theorem bq_Model_entriesIn_123 : ab_bl bt_Model_entriesIn 123 = bk_Model_entriesIn_123 := rfl
theorem bq_Model_entriesIn_124 : ab_bl bt_Model_entriesIn 124 = bk_Model_entriesIn_124 := rfl
theorem bq_Model_entriesIn_133 : ab_bl bt_Model_entriesIn 133 = bk_Model_entriesIn_133 := rfl
theorem bq_Model_entriesInAll_0 : ab_bl bt_Model_entriesInAll 0 = bk_Model_entriesInAll_0 := rfl
theorem bq_Model_entriesInAll_5 : ab_bl bt_Model_entriesInAll 5 = bk_Model_entriesInAll_5 := rfl
theorem bq_Model_entriesInAll_28 : ab_bl bt_Model_entriesInAll 28 = bk_Model_entriesInAll_28 := rfl
theorem bq_Model_wholeThemes_0 : ab_bl bt_Model_wholeThemes 0 = bk_Model_wholeThemes_0 := rfl
theorem bq_Model_wholeThemes_14 : ab_bl bt_Model_wholeThemes 14 = bk_Model_wholeThemes_14 := rfl
theorem bq_Model_wholeThemes_34 : ab_bl bt_Model_wholeThemes 34 = bk_Model_wholeThemes_34 := rfl
theorem bq_Model_wholeThemes_35 : ab_bl bt_Model_wholeThemes 35 = bk_Model_wholeThemes_35 := rfl
theorem bq_Model_wholeThemes_43 : ab_bl bt_Model_wholeThemes 43 = bk_Model_wholeThemes_43 := rfl
theorem bq_Model_namesIn_0 : ab_bl bt_Model_namesIn 0 = bk_Model_namesIn_0 := rfl
theorem bq_Model_collectorOf_0 : ab_bl bt_Model_collectorOf 0 = bk_Model_collectorOf_0 := rfl
theorem bq_Model_collectorOf_10 : ab_bl bt_Model_collectorOf 10 = bk_Model_collectorOf_10 := rfl
theorem bq_Model_collectorOf_60 : ab_bl bt_Model_collectorOf 60 = bk_Model_collectorOf_60 := rfl
theorem bq_Model_collectorOf_69 : ab_bl bt_Model_collectorOf 69 = bk_Model_collectorOf_69 := rfl
theorem bq_Model_collectorOf_75 : ab_bl bt_Model_collectorOf 75 = bk_Model_collectorOf_75 := rfl
theorem bq_Model_collectorOf_83 : ab_bl bt_Model_collectorOf 83 = bk_Model_collectorOf_83 := rfl
theorem bq_Model_collectorOf_89 : ab_bl bt_Model_collectorOf 89 = bk_Model_collectorOf_89 := rfl
theorem bq_Model_collectorOf_95 : ab_bl bt_Model_collectorOf 95 = bk_Model_collectorOf_95 := rfl
theorem bq_Model_collectorOf_101 : ab_bl bt_Model_collectorOf 101 = bk_Model_collectorOf_101 := rfl
theorem bq_Model_collectorOf_107 : ab_bl bt_Model_collectorOf 107 = bk_Model_collectorOf_107 := rfl
theorem bq_Model_collectorOf_113 : ab_bl bt_Model_collectorOf 113 = bk_Model_collectorOf_113 := rfl
theorem bq_Model_collectorOf_121 : ab_bl bt_Model_collectorOf 121 = bk_Model_collectorOf_121 := rfl
theorem bq_Model_booksWith_0 : ab_bl bt_Model_booksWith 0 = bk_Model_booksWith_0 := rfl
theorem bq_Model_booksWith_4 : ab_bl bt_Model_booksWith 4 = bk_Model_booksWith_4 := rfl
theorem bq_Model_booksWith_26 : ab_bl bt_Model_booksWith 26 = bk_Model_booksWith_26 := rfl
theorem bq_Model_booksWith_27 : ab_bl bt_Model_booksWith 27 = bk_Model_booksWith_27 := rfl
theorem bq_Model_booksWith_35 : ab_bl bt_Model_booksWith 35 = bk_Model_booksWith_35 := rfl
theorem bq_Model_nameOf_0 : ab_bl bt_Model_nameOf 0 = bk_Model_nameOf_0 := rfl
theorem bq_Model_nameOf_17 : ab_bl bt_Model_nameOf 17 = bk_Model_nameOf_17 := rfl
theorem bq_Model_nameOf_20 : ab_bl bt_Model_nameOf 20 = bk_Model_nameOf_20 := rfl
theorem bq_Model_nameOf_32 : ab_bl bt_Model_nameOf 32 = bk_Model_nameOf_32 := rfl
theorem bq_Model_nameOf_45 : ab_bl bt_Model_nameOf 45 = bk_Model_nameOf_45 := rfl
theorem bq_Model_nameOf_59 : ab_bl bt_Model_nameOf 59 = bk_Model_nameOf_59 := rfl
theorem bq_Model_nameOf_64 : ab_bl bt_Model_nameOf 64 = bk_Model_nameOf_64 := rfl
theorem bq_Model_more_0 : ab_bl bt_Model_more 0 = bk_Model_more_0 := rfl
theorem bq_Model_gainOf_0 : ab_bl bt_Model_gainOf 0 = bk_Model_gainOf_0 := rfl
theorem bq_Model_gain_0 : ab_bl bt_Model_gain 0 = bk_Model_gain_0 := rfl
theorem bq_Model_gain_39 : ab_bl bt_Model_gain 39 = bk_Model_gain_39 := rfl
theorem bq_Model_gain_42 : ab_bl bt_Model_gain 42 = bk_Model_gain_42 := rfl
theorem bq_Model_gain_58 : ab_bl bt_Model_gain 58 = bk_Model_gain_58 := rfl
theorem bq_Model_gain_76 : ab_bl bt_Model_gain 76 = bk_Model_gain_76 := rfl
theorem bq_Model_gain_84 : ab_bl bt_Model_gain 84 = bk_Model_gain_84 := rfl
theorem bq_Model_fair_0 : ab_bl bt_Model_fair 0 = bk_Model_fair_0 := rfl
theorem bq_Model_fair_16 : ab_bl bt_Model_fair 16 = bk_Model_fair_16 := rfl
theorem bq_Model_fair_19 : ab_bl bt_Model_fair 19 = bk_Model_fair_19 := rfl
theorem bq_Model_fair_35 : ab_bl bt_Model_fair 35 = bk_Model_fair_35 := rfl
theorem bq_Model_fair_57 : ab_bl bt_Model_fair 57 = bk_Model_fair_57 := rfl
theorem bq_Model_fair_58 : ab_bl bt_Model_fair 58 = bk_Model_fair_58 := rfl
theorem bq_Model_fair_84 : ab_bl bt_Model_fair 84 = bk_Model_fair_84 := rfl
theorem bq_Model_fair_86 : ab_bl bt_Model_fair 86 = bk_Model_fair_86 := rfl
theorem bq_Model_tries_0 : ab_bl bt_Model_tries 0 = bk_Model_tries_0 := rfl
theorem bq_Model_tries_66 : ab_bl bt_Model_tries 66 = bk_Model_tries_66 := rfl
theorem bq_Model_findsBest_0 : ab_bl bt_Model_findsBest 0 = bk_Model_findsBest_0 := rfl
theorem bq_Model_findsBest_7 : ab_bl bt_Model_findsBest 7 = bk_Model_findsBest_7 := rfl
theorem bq_Model_findsBest_18 : ab_bl bt_Model_findsBest 18 = bk_Model_findsBest_18 := rfl
theorem bq_Model_findsBest_26 : ab_bl bt_Model_findsBest 26 = bk_Model_findsBest_26 := rfl
theorem bq_Model_findsBest_65 : ab_bl bt_Model_findsBest 65 = bk_Model_findsBest_65 := rfl
theorem bq_Model_findsBest_71 : ab_bl bt_Model_findsBest 71 = bk_Model_findsBest_71 := rfl
theorem bq_Model_findsBest_83 : ab_bl bt_Model_findsBest 83 = bk_Model_findsBest_83 := rfl
theorem bq_Model_best_0 : ab_bl bt_Model_best 0 = bk_Model_best_0 := rfl
theorem bq_Model_best_16 : ab_bl bt_Model_best 16 = bk_Model_best_16 := rfl
theorem bq_Model_best_19 : ab_bl bt_Model_best 19 = bk_Model_best_19 := rfl
theorem bq_Model_best_34 : ab_bl bt_Model_best 34 = bk_Model_best_34 := rfl
theorem bq_Model_best_56 : ab_bl bt_Model_best 56 = bk_Model_best_56 := rfl
theorem bq_Model_best_82 : ab_bl bt_Model_best 82 = bk_Model_best_82 := rfl
theorem bq_Model_best_86 : ab_bl bt_Model_best 86 = bk_Model_best_86 := rfl
theorem bq_Model_missing_0 : ab_bl bt_Model_missing 0 = bk_Model_missing_0 := rfl
theorem bq_Model_missing_32 : ab_bl bt_Model_missing 32 = bk_Model_missing_32 := rfl
theorem bq_Model_missing_34 : ab_bl bt_Model_missing 34 = bk_Model_missing_34 := rfl
theorem bq_Model_mean_0 : ab_bl bt_Model_mean 0 = bk_Model_mean_0 := rfl
theorem bq_Model_mean_10 : ab_bl bt_Model_mean 10 = bk_Model_mean_10 := rfl
theorem bq_Model_mean_32 : ab_bl bt_Model_mean 32 = bk_Model_mean_32 := rfl
theorem bq_Model_mean_46 : ab_bl bt_Model_mean 46 = bk_Model_mean_46 := rfl
theorem bq_Model_leaves_0 : ab_bl bt_Model_leaves 0 = bk_Model_leaves_0 := rfl
theorem bq_Model_leaves_4 : ab_bl bt_Model_leaves 4 = bk_Model_leaves_4 := rfl
theorem bq_Model_leaves_23 : ab_bl bt_Model_leaves 23 = bk_Model_leaves_23 := rfl
theorem bq_Model_wealthiest_0 : ab_bl bt_Model_wealthiest 0 = bk_Model_wealthiest_0 := rfl
theorem bq_Model_wealthiest_4 : ab_bl bt_Model_wealthiest 4 = bk_Model_wealthiest_4 := rfl
theorem bq_Model_wealthiest_26 : ab_bl bt_Model_wealthiest 26 = bk_Model_wealthiest_26 := rfl
theorem bq_Model_wealthiest_27 : ab_bl bt_Model_wealthiest 27 = bk_Model_wealthiest_27 := rfl
theorem bq_Model_wealthiest_34 : ab_bl bt_Model_wealthiest 34 = bk_Model_wealthiest_34 := rfl
theorem bq_Model_allWorths_0 : ab_bl bt_Model_allWorths 0 = bk_Model_allWorths_0 := rfl
theorem bq_Model_allWorths_4 : ab_bl bt_Model_allWorths 4 = bk_Model_allWorths_4 := rfl
theorem bq_Model_allWorths_23 : ab_bl bt_Model_allWorths 23 = bk_Model_allWorths_23 := rfl
theorem bq_Model_count_0 : ab_bl bt_Model_count 0 = bk_Model_count_0 := rfl
theorem bq_Model_count_56 : ab_bl bt_Model_count 56 = bk_Model_count_56 := rfl
theorem bq_Model_count_63 : ab_bl bt_Model_count 63 = bk_Model_count_63 := rfl
theorem bq_Model_count_68 : ab_bl bt_Model_count 68 = bk_Model_count_68 := rfl
theorem bq_Model_count_75 : ab_bl bt_Model_count 75 = bk_Model_count_75 := rfl
theorem bq_Model_count_82 : ab_bl bt_Model_count 82 = bk_Model_count_82 := rfl
theorem bq_Model_count_89 : ab_bl bt_Model_count 89 = bk_Model_count_89 := rfl
theorem bq_Model_count_94 : ab_bl bt_Model_count 94 = bk_Model_count_94 := rfl
theorem bq_Model_count_99 : ab_bl bt_Model_count 99 = bk_Model_count_99 := rfl
theorem bq_Model_count_107 : ab_bl bt_Model_count 107 = bk_Model_count_107 := rfl
theorem bq_Model_count_112 : ab_bl bt_Model_count 112 = bk_Model_count_112 := rfl
theorem bq_Model_count_117 : ab_bl bt_Model_count 117 = bk_Model_count_117 := rfl
theorem bq_Model_type_0 : ab_bl bt_Model_type 0 = bk_Model_type_0 := rfl
theorem bq_Model_type_14 : ab_bl bt_Model_type 14 = bk_Model_type_14 := rfl
theorem bq_Model_type_26 : ab_bl bt_Model_type 26 = bk_Model_type_26 := rfl
theorem bq_Model_clearText_0 : ab_bl bt_Model_clearText 0 = bk_Model_clearText_0 := rfl
theorem bq_Model_sees_0 : ab_bl bt_Model_sees 0 = bk_Model_sees_0 := rfl
theorem bq_Model_sees_32 : ab_bl bt_Model_sees 32 = bk_Model_sees_32 := rfl
theorem bq_Model_sees_33 : ab_bl bt_Model_sees 33 = bk_Model_sees_33 := rfl
theorem bq_Model_takes_0 : ab_bl bt_Model_takes 0 = bk_Model_takes_0 := rfl
theorem bq_Model_takes_20 : ab_bl bt_Model_takes 20 = bk_Model_takes_20 := rfl
theorem bq_Model_takes_21 : ab_bl bt_Model_takes 21 = bk_Model_takes_21 := rfl
theorem bq_Model_number_0 : ab_bl bt_Model_number 0 = bk_Model_number_0 := rfl
theorem bq_Model_number_12 : ab_bl bt_Model_number 12 = bk_Model_number_12 := rfl
theorem bq_Model_number_74 : ab_bl bt_Model_number 74 = bk_Model_number_74 := rfl
theorem bq_Model_number_86 : ab_bl bt_Model_number 86 = bk_Model_number_86 := rfl
theorem bq_Model_number_87 : ab_bl bt_Model_number 87 = bk_Model_number_87 := rfl
theorem bq_Model_numbersOf_0 : ab_bl bt_Model_numbersOf 0 = bk_Model_numbersOf_0 := rfl
theorem bq_Model_numbersOf_10 : ab_bl bt_Model_numbersOf 10 = bk_Model_numbersOf_10 := rfl
theorem bq_Model_numbersOf_22 : ab_bl bt_Model_numbersOf 22 = bk_Model_numbersOf_22 := rfl
theorem bq_Model_numbersOf_26 : ab_bl bt_Model_numbersOf 26 = bk_Model_numbersOf_26 := rfl
theorem bq_Model_numbersOf_36 : ab_bl bt_Model_numbersOf 36 = bk_Model_numbersOf_36 := rfl
theorem bq_Model_numbersOf_46 : ab_bl bt_Model_numbersOf 46 = bk_Model_numbersOf_46 := rfl
theorem bq_Model_numbersOf_47 : ab_bl bt_Model_numbersOf 47 = bk_Model_numbersOf_47 := rfl
theorem bq_Model_reads_0 : ab_bl bt_Model_reads 0 = bk_Model_reads_0 := rfl
theorem bq_Model_reads_24 : ab_bl bt_Model_reads 24 = bk_Model_reads_24 := rfl
theorem bq_Model_reads_25 : ab_bl bt_Model_reads 25 = bk_Model_reads_25 := rfl
theorem bq_Model_reads_42 : ab_bl bt_Model_reads 42 = bk_Model_reads_42 := rfl
theorem bq_Model_reads_60 : ab_bl bt_Model_reads 60 = bk_Model_reads_60 := rfl
theorem bq_Model_reads_90 : ab_bl bt_Model_reads 90 = bk_Model_reads_90 := rfl
theorem bq_Model_reads_91 : ab_bl bt_Model_reads 91 = bk_Model_reads_91 := rfl
theorem bq_Model_reads_98 : ab_bl bt_Model_reads 98 = bk_Model_reads_98 := rfl
theorem bq_Model_reads_115 : ab_bl bt_Model_reads 115 = bk_Model_reads_115 := rfl
theorem bq_Model_reads_116 : ab_bl bt_Model_reads 116 = bk_Model_reads_116 := rfl
theorem bq_Model_calls_0 : ab_bl bt_Model_calls 0 = bk_Model_calls_0 := rfl
theorem bq_Model_calls_48 : ab_bl bt_Model_calls 48 = bk_Model_calls_48 := rfl
theorem bq_Model_calls_59 : ab_bl bt_Model_calls 59 = bk_Model_calls_59 := rfl
theorem bq_Model_calls_82 : ab_bl bt_Model_calls 82 = bk_Model_calls_82 := rfl
theorem bq_Model_calls_125 : ab_bl bt_Model_calls 125 = bk_Model_calls_125 := rfl
theorem bq_Model_calls_127 : ab_bl bt_Model_calls 127 = bk_Model_calls_127 := rfl
theorem bq_Model_calls_128 : ab_bl bt_Model_calls 128 = bk_Model_calls_128 := rfl
theorem bq_Model_calls_145 : ab_bl bt_Model_calls 145 = bk_Model_calls_145 := rfl
theorem bq_Model_plays_0 : ab_bl bt_Model_plays 0 = bk_Model_plays_0 := rfl
theorem bq_Model_plays_17 : ab_bl bt_Model_plays 17 = bk_Model_plays_17 := rfl
theorem bq_Model_plays_56 : ab_bl bt_Model_plays 56 = bk_Model_plays_56 := rfl
theorem bq_Model_plays_57 : ab_bl bt_Model_plays 57 = bk_Model_plays_57 := rfl
theorem bq_Model_plays_70 : ab_bl bt_Model_plays 70 = bk_Model_plays_70 := rfl
theorem bq_Model_plays_71 : ab_bl bt_Model_plays 71 = bk_Model_plays_71 := rfl
theorem bq_Model_plays_81 : ab_bl bt_Model_plays 81 = bk_Model_plays_81 := rfl
theorem bq_Model_plays_82 : ab_bl bt_Model_plays 82 = bk_Model_plays_82 := rfl
theorem bq_Model_plays_94 : ab_bl bt_Model_plays 94 = bk_Model_plays_94 := rfl
theorem bq_Model_plays_103 : ab_bl bt_Model_plays 103 = bk_Model_plays_103 := rfl
theorem bq_Model_plays_119 : ab_bl bt_Model_plays 119 = bk_Model_plays_119 := rfl
theorem bq_Model_fault_0 : ab_bl bt_Model_fault 0 = bk_Model_fault_0 := rfl
theorem bq_Model_fault_12 : ab_bl bt_Model_fault 12 = bk_Model_fault_12 := rfl
theorem bq_Model_fault_48 : ab_bl bt_Model_fault 48 = bk_Model_fault_48 := rfl
theorem bq_Model_fault_59 : ab_bl bt_Model_fault 59 = bk_Model_fault_59 := rfl
theorem bq_Model_fault_71 : ab_bl bt_Model_fault 71 = bk_Model_fault_71 := rfl
theorem bq_Model_fault_75 : ab_bl bt_Model_fault 75 = bk_Model_fault_75 := rfl
theorem bq_Model_play_0 : ab_bl bt_Model_play 0 = bk_Model_play_0 := rfl
theorem bq_Model_play_34 : ab_bl bt_Model_play 34 = bk_Model_play_34 := rfl
theorem bq_Model_play_52 : ab_bl bt_Model_play 52 = bk_Model_play_52 := rfl
theorem bq_Model_play_54 : ab_bl bt_Model_play 54 = bk_Model_play_54 := rfl
theorem bq_Names_init_0 : ab_bl bt_Names_init 0 = bk_Names_init_0 := rfl
theorem bq_Names_has_0 : ab_bl bt_Names_has 0 = bk_Names_has_0 := rfl
theorem bq_Names_has_16 : ab_bl bt_Names_has 16 = bk_Names_has_16 := rfl
theorem bq_Names_has_17 : ab_bl bt_Names_has 17 = bk_Names_has_17 := rfl
theorem bq_Names_fameOf_0 : ab_bl bt_Names_fameOf 0 = bk_Names_fameOf_0 := rfl
theorem bq_Names_fameOf_22 : ab_bl bt_Names_fameOf 22 = bk_Names_fameOf_22 := rfl
theorem bq_Names_fameOf_23 : ab_bl bt_Names_fameOf 23 = bk_Names_fameOf_23 := rfl
theorem bq_Names_themeOf_0 : ab_bl bt_Names_themeOf 0 = bk_Names_themeOf_0 := rfl
theorem bq_Names_themeOf_22 : ab_bl bt_Names_themeOf 22 = bk_Names_themeOf_22 := rfl
theorem bq_Names_themeOf_23 : ab_bl bt_Names_themeOf 23 = bk_Names_themeOf_23 := rfl
theorem bq_Names_setOf_0 : ab_bl bt_Names_setOf 0 = bk_Names_setOf_0 := rfl
theorem bq_Names_setOf_4 : ab_bl bt_Names_setOf 4 = bk_Names_setOf_4 := rfl
theorem bq_Names_setOf_37 : ab_bl bt_Names_setOf 37 = bk_Names_setOf_37 := rfl
theorem bq_Names_setOf_43 : ab_bl bt_Names_setOf 43 = bk_Names_setOf_43 := rfl
theorem bq_Names_add_0 : ab_bl bt_Names_add 0 = bk_Names_add_0 := rfl
theorem bq_Names_add_61 : ab_bl bt_Names_add 61 = bk_Names_add_61 := rfl
theorem bq_Names_copyFrom_0 : ab_bl bt_Names_copyFrom 0 = bk_Names_copyFrom_0 := rfl
theorem bq_Names_copyFrom_7 : ab_bl bt_Names_copyFrom 7 = bk_Names_copyFrom_7 := rfl
theorem bq_Names_copyFrom_35 : ab_bl bt_Names_copyFrom 35 = bk_Names_copyFrom_35 := rfl
theorem bq_Book_init_0 : ab_bl bt_Book_init 0 = bk_Book_init_0 := rfl
theorem bq_Book_numberAt_0 : ab_bl bt_Book_numberAt 0 = bk_Book_numberAt_0 := rfl
theorem bq_Book_numberAt_22 : ab_bl bt_Book_numberAt 22 = bk_Book_numberAt_22 := rfl
theorem bq_Book_numberAt_23 : ab_bl bt_Book_numberAt 23 = bk_Book_numberAt_23 := rfl
theorem bq_Book_kindOf_0 : ab_bl bt_Book_kindOf 0 = bk_Book_kindOf_0 := rfl
theorem bq_Book_kindOf_22 : ab_bl bt_Book_kindOf 22 = bk_Book_kindOf_22 := rfl
theorem bq_Book_kindOf_23 : ab_bl bt_Book_kindOf 23 = bk_Book_kindOf_23 := rfl
theorem bq_Book_nameOn_0 : ab_bl bt_Book_nameOn 0 = bk_Book_nameOn_0 := rfl
theorem bq_Book_nameOn_22 : ab_bl bt_Book_nameOn 22 = bk_Book_nameOn_22 := rfl
theorem bq_Book_nameOn_23 : ab_bl bt_Book_nameOn 23 = bk_Book_nameOn_23 := rfl
theorem bq_Book_friendOn_0 : ab_bl bt_Book_friendOn 0 = bk_Book_friendOn_0 := rfl
theorem bq_Book_friendOn_22 : ab_bl bt_Book_friendOn 22 = bk_Book_friendOn_22 := rfl
theorem bq_Book_friendOn_23 : ab_bl bt_Book_friendOn 23 = bk_Book_friendOn_23 := rfl
theorem bq_Book_find_0 : ab_bl bt_Book_find 0 = bk_Book_find_0 := rfl
theorem bq_Book_find_2 : ab_bl bt_Book_find 2 = bk_Book_find_2 := rfl
theorem bq_Book_find_31 : ab_bl bt_Book_find 31 = bk_Book_find_31 := rfl
theorem bq_Book_find_37 : ab_bl bt_Book_find 37 = bk_Book_find_37 := rfl
theorem bq_Book_startsEntry_0 : ab_bl bt_Book_startsEntry 0 = bk_Book_startsEntry_0 := rfl
theorem bq_Book_startsEntry_18 : ab_bl bt_Book_startsEntry 18 = bk_Book_startsEntry_18 := rfl
theorem bq_Book_startsEntry_22 : ab_bl bt_Book_startsEntry 22 = bk_Book_startsEntry_22 := rfl
theorem bq_Book_startsEntry_23 : ab_bl bt_Book_startsEntry 23 = bk_Book_startsEntry_23 := rfl
theorem bq_Book_countEntries_0 : ab_bl bt_Book_countEntries 0 = bk_Book_countEntries_0 := rfl
theorem bq_Book_countEntries_4 : ab_bl bt_Book_countEntries 4 = bk_Book_countEntries_4 := rfl
theorem bq_Book_countEntries_25 : ab_bl bt_Book_countEntries 25 = bk_Book_countEntries_25 := rfl
theorem bq_Book_countEntries_31 : ab_bl bt_Book_countEntries 31 = bk_Book_countEntries_31 := rfl
theorem bq_Book_countEntriesOf_0 : ab_bl bt_Book_countEntriesOf 0 = bk_Book_countEntriesOf_0 := rfl
theorem bq_Book_countEntriesOf_4 : ab_bl bt_Book_countEntriesOf 4 = bk_Book_countEntriesOf_4 := rfl
theorem bq_Book_countEntriesOf_34 : ab_bl bt_Book_countEntriesOf 34 = bk_Book_countEntriesOf_34 := rfl
theorem bq_Book_countEntriesOf_40 : ab_bl bt_Book_countEntriesOf 40 = bk_Book_countEntriesOf_40 := rfl
theorem bq_Book_countDedicatedTo_0 : ab_bl bt_Book_countDedicatedTo 0 = bk_Book_countDedicatedTo_0 := rfl
theorem bq_Book_countDedicatedTo_4 : ab_bl bt_Book_countDedicatedTo 4 = bk_Book_countDedicatedTo_4 := rfl
theorem bq_Book_countDedicatedTo_34 : ab_bl bt_Book_countDedicatedTo 34 = bk_Book_countDedicatedTo_34 := rfl
theorem bq_Book_countDedicatedTo_40 : ab_bl bt_Book_countDedicatedTo 40 = bk_Book_countDedicatedTo_40 := rfl
theorem bq_Book_countDedicated_0 : ab_bl bt_Book_countDedicated 0 = bk_Book_countDedicated_0 := rfl
theorem bq_Book_nameSet_0 : ab_bl bt_Book_nameSet 0 = bk_Book_nameSet_0 := rfl
theorem bq_Book_namesAhead_0 : ab_bl bt_Book_namesAhead 0 = bk_Book_namesAhead_0 := rfl
theorem bq_Book_namesAhead_4 : ab_bl bt_Book_namesAhead 4 = bk_Book_namesAhead_4 := rfl
theorem bq_Book_namesAhead_27 : ab_bl bt_Book_namesAhead 27 = bk_Book_namesAhead_27 := rfl
theorem bq_Book_namesAhead_33 : ab_bl bt_Book_namesAhead 33 = bk_Book_namesAhead_33 := rfl
theorem bq_Book_valueOn_0 : ab_bl bt_Book_valueOn 0 = bk_Book_valueOn_0 := rfl
theorem bq_Book_valueOn_15 : ab_bl bt_Book_valueOn 15 = bk_Book_valueOn_15 := rfl
theorem bq_Book_valueOn_16 : ab_bl bt_Book_valueOn 16 = bk_Book_valueOn_16 := rfl
theorem bq_Book_valueBehind_0 : ab_bl bt_Book_valueBehind 0 = bk_Book_valueBehind_0 := rfl
theorem bq_Book_valueBehind_14 : ab_bl bt_Book_valueBehind 14 = bk_Book_valueBehind_14 := rfl
theorem bq_Book_valueBehind_16 : ab_bl bt_Book_valueBehind 16 = bk_Book_valueBehind_16 := rfl
theorem bq_Book_valueBehind_57 : ab_bl bt_Book_valueBehind 57 = bk_Book_valueBehind_57 := rfl
theorem bq_Book_valueBehind_61 : ab_bl bt_Book_valueBehind 61 = bk_Book_valueBehind_61 := rfl
theorem bq_Book_valueBehind_63 : ab_bl bt_Book_valueBehind 63 = bk_Book_valueBehind_63 := rfl
theorem bq_Book_valueBehind_79 : ab_bl bt_Book_valueBehind 79 = bk_Book_valueBehind_79 := rfl
theorem bq_Book_valueBehind_80 : ab_bl bt_Book_valueBehind 80 = bk_Book_valueBehind_80 := rfl
theorem bq_Book_valueBehind_94 : ab_bl bt_Book_valueBehind 94 = bk_Book_valueBehind_94 := rfl
theorem bq_Book_valueBehind_96 : ab_bl bt_Book_valueBehind 96 = bk_Book_valueBehind_96 := rfl
theorem bq_Book_sumOfValues_0 : ab_bl bt_Book_sumOfValues 0 = bk_Book_sumOfValues_0 := rfl
theorem bq_Book_sumOfValues_7 : ab_bl bt_Book_sumOfValues 7 = bk_Book_sumOfValues_7 := rfl
theorem bq_Book_sumOfValues_49 : ab_bl bt_Book_sumOfValues 49 = bk_Book_sumOfValues_49 := rfl
theorem bq_Book_sumOfValues_55 : ab_bl bt_Book_sumOfValues 55 = bk_Book_sumOfValues_55 := rfl
theorem bq_Book_wholeThemes_0 : ab_bl bt_Book_wholeThemes 0 = bk_Book_wholeThemes_0 := rfl
theorem bq_Book_wholeThemes_16 : ab_bl bt_Book_wholeThemes 16 = bk_Book_wholeThemes_16 := rfl
theorem bq_Book_wholeThemes_51 : ab_bl bt_Book_wholeThemes 51 = bk_Book_wholeThemes_51 := rfl
theorem bq_Book_wholeThemes_57 : ab_bl bt_Book_wholeThemes 57 = bk_Book_wholeThemes_57 := rfl
theorem bq_Book_worth_0 : ab_bl bt_Book_worth 0 = bk_Book_worth_0 := rfl
theorem bq_Book_worth_15 : ab_bl bt_Book_worth 15 = bk_Book_worth_15 := rfl
theorem bq_Book_worth_45 : ab_bl bt_Book_worth 45 = bk_Book_worth_45 := rfl
theorem bq_Book_worth_51 : ab_bl bt_Book_worth 51 = bk_Book_worth_51 := rfl
theorem bq_Book_isJoined_0 : ab_bl bt_Book_isJoined 0 = bk_Book_isJoined_0 := rfl
theorem bq_Book_isJoined_33 : ab_bl bt_Book_isJoined 33 = bk_Book_isJoined_33 := rfl
theorem bq_Book_isJoined_34 : ab_bl bt_Book_isJoined 34 = bk_Book_isJoined_34 := rfl
theorem bq_Book_startsBundle_0 : ab_bl bt_Book_startsBundle 0 = bk_Book_startsBundle_0 := rfl
theorem bq_Book_startsBundle_14 : ab_bl bt_Book_startsBundle 14 = bk_Book_startsBundle_14 := rfl
theorem bq_Book_startsBundle_15 : ab_bl bt_Book_startsBundle 15 = bk_Book_startsBundle_15 := rfl
theorem bq_Book_bundleFirst_0 : ab_bl bt_Book_bundleFirst 0 = bk_Book_bundleFirst_0 := rfl
theorem bq_Book_bundleFirst_2 : ab_bl bt_Book_bundleFirst 2 = bk_Book_bundleFirst_2 := rfl
theorem bq_Book_bundleFirst_22 : ab_bl bt_Book_bundleFirst 22 = bk_Book_bundleFirst_22 := rfl
theorem bq_Book_bundleEnd_0 : ab_bl bt_Book_bundleEnd 0 = bk_Book_bundleEnd_0 := rfl
theorem bq_Book_bundleEnd_4 : ab_bl bt_Book_bundleEnd 4 = bk_Book_bundleEnd_4 := rfl
theorem bq_Book_bundleEnd_28 : ab_bl bt_Book_bundleEnd 28 = bk_Book_bundleEnd_28 := rfl
theorem bq_Book_bundleSize_0 : ab_bl bt_Book_bundleSize 0 = bk_Book_bundleSize_0 := rfl
theorem bq_Book_countBundles_0 : ab_bl bt_Book_countBundles 0 = bk_Book_countBundles_0 := rfl
theorem bq_Book_countBundles_4 : ab_bl bt_Book_countBundles 4 = bk_Book_countBundles_4 := rfl
theorem bq_Book_countBundles_23 : ab_bl bt_Book_countBundles 23 = bk_Book_countBundles_23 := rfl
theorem bq_Book_countBundles_29 : ab_bl bt_Book_countBundles 29 = bk_Book_countBundles_29 := rfl
theorem bq_Book_canShift_0 : ab_bl bt_Book_canShift 0 = bk_Book_canShift_0 := rfl
theorem bq_Book_canShift_18 : ab_bl bt_Book_canShift 18 = bk_Book_canShift_18 := rfl
theorem bq_Book_canShift_39 : ab_bl bt_Book_canShift 39 = bk_Book_canShift_39 := rfl
theorem bq_Book_canShift_43 : ab_bl bt_Book_canShift 43 = bk_Book_canShift_43 := rfl
theorem bq_Book_canShift_53 : ab_bl bt_Book_canShift 53 = bk_Book_canShift_53 := rfl
theorem bq_Book_canShift_54 : ab_bl bt_Book_canShift 54 = bk_Book_canShift_54 := rfl
theorem bq_Book_setEntry_0 : ab_bl bt_Book_setEntry 0 = bk_Book_setEntry_0 := rfl
theorem bq_Book_setEntry_53 : ab_bl bt_Book_setEntry 53 = bk_Book_setEntry_53 := rfl
theorem bq_Book_setFriend_0 : ab_bl bt_Book_setFriend 0 = bk_Book_setFriend_0 := rfl
theorem bq_Book_addLeaf_0 : ab_bl bt_Book_addLeaf 0 = bk_Book_addLeaf_0 := rfl
theorem bq_Book_addLeaf_67 : ab_bl bt_Book_addLeaf 67 = bk_Book_addLeaf_67 := rfl
theorem bq_Book_addLeaves_0 : ab_bl bt_Book_addLeaves 0 = bk_Book_addLeaves_0 := rfl
theorem bq_Book_addLeaves_3 : ab_bl bt_Book_addLeaves 3 = bk_Book_addLeaves_3 := rfl
theorem bq_Book_addLeaves_129 : ab_bl bt_Book_addLeaves 129 = bk_Book_addLeaves_129 := rfl
theorem bq_Book_clearFor_0 : ab_bl bt_Book_clearFor 0 = bk_Book_clearFor_0 := rfl
theorem bq_Book_copyFrom_0 : ab_bl bt_Book_copyFrom 0 = bk_Book_copyFrom_0 := rfl
theorem bq_Bench_init_0 : ab_bl bt_Bench_init 0 = bk_Bench_init_0 := rfl
theorem bq_Bench_takeOut_0 : ab_bl bt_Bench_takeOut 0 = bk_Bench_takeOut_0 := rfl
theorem bq_Bench_shift_0 : ab_bl bt_Bench_shift 0 = bk_Bench_shift_0 := rfl
theorem bq_Bench_layOut_0 : ab_bl bt_Bench_layOut 0 = bk_Bench_layOut_0 := rfl
theorem bq_Bench_layOutFor_0 : ab_bl bt_Bench_layOutFor 0 = bk_Bench_layOutFor_0 := rfl
theorem bq_Bench_fits_0 : ab_bl bt_Bench_fits 0 = bk_Bench_fits_0 := rfl
theorem bq_Bench_fits_28 : ab_bl bt_Bench_fits 28 = bk_Bench_fits_28 := rfl
theorem bq_Bench_fits_29 : ab_bl bt_Bench_fits 29 = bk_Bench_fits_29 := rfl
theorem bq_Bench_gainOfOne_0 : ab_bl bt_Bench_gainOfOne 0 = bk_Bench_gainOfOne_0 := rfl
theorem bq_Bench_gainOfOther_0 : ab_bl bt_Bench_gainOfOther 0 = bk_Bench_gainOfOther_0 := rfl
theorem bq_Bench_settle_0 : ab_bl bt_Bench_settle 0 = bk_Bench_settle_0 := rfl
theorem bq_State_init_0 : ab_bl bt_State_init 0 = bk_State_init_0 := rfl
theorem bq_State_copyFrom_0 : ab_bl bt_State_copyFrom 0 = bk_State_copyFrom_0 := rfl
theorem bq_State_copyFrom_13 : ab_bl bt_State_copyFrom 13 = bk_State_copyFrom_13 := rfl
theorem bq_State_copyFrom_47 : ab_bl bt_State_copyFrom 47 = bk_State_copyFrom_47 := rfl
theorem bq_State_bookOf_0 : ab_bl bt_State_bookOf 0 = bk_State_bookOf_0 := rfl
theorem bq_State_bookOf_28 : ab_bl bt_State_bookOf 28 = bk_State_bookOf_28 := rfl
theorem bq_State_bookOf_33 : ab_bl bt_State_bookOf 33 = bk_State_bookOf_33 := rfl
theorem bq_State_bookOf_38 : ab_bl bt_State_bookOf 38 = bk_State_bookOf_38 := rfl
theorem bq_State_bookOf_43 : ab_bl bt_State_bookOf 43 = bk_State_bookOf_43 := rfl
theorem bq_State_bookWith_0 : ab_bl bt_State_bookWith 0 = bk_State_bookWith_0 := rfl
theorem bq_State_bookWith_2 : ab_bl bt_State_bookWith 2 = bk_State_bookWith_2 := rfl
theorem bq_State_bookWith_26 : ab_bl bt_State_bookWith 26 = bk_State_bookWith_26 := rfl
theorem bq_State_bookWith_32 : ab_bl bt_State_bookWith 32 = bk_State_bookWith_32 := rfl
theorem bq_State_purseOf_0 : ab_bl bt_State_purseOf 0 = bk_State_purseOf_0 := rfl
theorem bq_State_purseOf_22 : ab_bl bt_State_purseOf 22 = bk_State_purseOf_22 := rfl
theorem bq_State_purseOf_23 : ab_bl bt_State_purseOf 23 = bk_State_purseOf_23 := rfl
theorem bq_State_setPurse_0 : ab_bl bt_State_setPurse 0 = bk_State_setPurse_0 := rfl
theorem bq_State_setPurse_20 : ab_bl bt_State_setPurse 20 = bk_State_setPurse_20 := rfl
theorem bq_State_addName_0 : ab_bl bt_State_addName 0 = bk_State_addName_0 := rfl
theorem bq_State_addName_18 : ab_bl bt_State_addName 18 = bk_State_addName_18 := rfl
theorem bq_State_addName_21 : ab_bl bt_State_addName 21 = bk_State_addName_21 := rfl
theorem bq_State_addName_36 : ab_bl bt_State_addName 36 = bk_State_addName_36 := rfl
theorem bq_State_addLeaf_0 : ab_bl bt_State_addLeaf 0 = bk_State_addLeaf_0 := rfl
theorem bq_State_addLeaf_10 : ab_bl bt_State_addLeaf 10 = bk_State_addLeaf_10 := rfl
theorem bq_State_addLeaf_28 : ab_bl bt_State_addLeaf 28 = bk_State_addLeaf_28 := rfl
theorem bq_State_addEntry_0 : ab_bl bt_State_addEntry 0 = bk_State_addEntry_0 := rfl
theorem bq_State_addEntry_30 : ab_bl bt_State_addEntry 30 = bk_State_addEntry_30 := rfl
theorem bq_State_addEntry_33 : ab_bl bt_State_addEntry 33 = bk_State_addEntry_33 := rfl
theorem bq_State_addEntry_58 : ab_bl bt_State_addEntry 58 = bk_State_addEntry_58 := rfl
theorem bq_State_addWideEntry_0 : ab_bl bt_State_addWideEntry 0 = bk_State_addWideEntry_0 := rfl
theorem bq_State_addWideEntry_21 : ab_bl bt_State_addWideEntry 21 = bk_State_addWideEntry_21 := rfl
theorem bq_State_addWideEntry_24 : ab_bl bt_State_addWideEntry 24 = bk_State_addWideEntry_24 := rfl
theorem bq_State_addWideEntry_70 : ab_bl bt_State_addWideEntry 70 = bk_State_addWideEntry_70 := rfl
theorem bq_State_addWideEntry_73 : ab_bl bt_State_addWideEntry 73 = bk_State_addWideEntry_73 := rfl
theorem bq_State_setFriend_0 : ab_bl bt_State_setFriend 0 = bk_State_setFriend_0 := rfl
theorem bq_State_setFriend_26 : ab_bl bt_State_setFriend 26 = bk_State_setFriend_26 := rfl
theorem bq_State_setFriend_29 : ab_bl bt_State_setFriend 29 = bk_State_setFriend_29 := rfl
theorem bq_State_setFriend_66 : ab_bl bt_State_setFriend 66 = bk_State_setFriend_66 := rfl
theorem bq_State_setFriend_69 : ab_bl bt_State_setFriend 69 = bk_State_setFriend_69 := rfl
theorem bq_State_setFriend_96 : ab_bl bt_State_setFriend 96 = bk_State_setFriend_96 := rfl
theorem bq_State_setFriend_112 : ab_bl bt_State_setFriend 112 = bk_State_setFriend_112 := rfl
theorem bq_State_shiftBundle_0 : ab_bl bt_State_shiftBundle 0 = bk_State_shiftBundle_0 := rfl
theorem bq_State_shiftBundle_16 : ab_bl bt_State_shiftBundle 16 = bk_State_shiftBundle_16 := rfl
theorem bq_State_shiftBundle_19 : ab_bl bt_State_shiftBundle 19 = bk_State_shiftBundle_19 := rfl
theorem bq_State_shiftBundle_41 : ab_bl bt_State_shiftBundle 41 = bk_State_shiftBundle_41 := rfl
theorem bq_State_exchange_0 : ab_bl bt_State_exchange 0 = bk_State_exchange_0 := rfl
theorem bq_State_exchange_31 : ab_bl bt_State_exchange 31 = bk_State_exchange_31 := rfl
theorem bq_State_exchange_34 : ab_bl bt_State_exchange 34 = bk_State_exchange_34 := rfl
theorem bq_State_exchange_83 : ab_bl bt_State_exchange 83 = bk_State_exchange_83 := rfl
theorem bq_State_exchange_86 : ab_bl bt_State_exchange 86 = bk_State_exchange_86 := rfl
theorem bq_State_exchange_131 : ab_bl bt_State_exchange 131 = bk_State_exchange_131 := rfl
theorem bq_State_exchange_134 : ab_bl bt_State_exchange 134 = bk_State_exchange_134 := rfl
theorem bq_State_takeOut_0 : ab_bl bt_State_takeOut 0 = bk_State_takeOut_0 := rfl
theorem bq_State_takeOut_13 : ab_bl bt_State_takeOut 13 = bk_State_takeOut_13 := rfl
theorem bq_State_fillPurse_0 : ab_bl bt_State_fillPurse 0 = bk_State_fillPurse_0 := rfl
theorem bq_State_fillPurse_18 : ab_bl bt_State_fillPurse 18 = bk_State_fillPurse_18 := rfl
theorem bq_State_fillPurse_21 : ab_bl bt_State_fillPurse 21 = bk_State_fillPurse_21 := rfl
theorem bq_State_wealth_0 : ab_bl bt_State_wealth 0 = bk_State_wealth_0 := rfl
theorem bq_State_richest_0 : ab_bl bt_State_richest 0 = bk_State_richest_0 := rfl
theorem bq_State_richest_4 : ab_bl bt_State_richest 4 = bk_State_richest_4 := rfl
theorem bq_State_richest_24 : ab_bl bt_State_richest 24 = bk_State_richest_24 := rfl
theorem bq_State_richest_30 : ab_bl bt_State_richest 30 = bk_State_richest_30 := rfl
theorem bq_State_sumOfWorths_0 : ab_bl bt_State_sumOfWorths 0 = bk_State_sumOfWorths_0 := rfl
theorem bq_State_sumOfWorths_4 : ab_bl bt_State_sumOfWorths 4 = bk_State_sumOfWorths_4 := rfl
theorem bq_State_sumOfWorths_30 : ab_bl bt_State_sumOfWorths 30 = bk_State_sumOfWorths_30 := rfl
theorem bq_State_countLeaves_0 : ab_bl bt_State_countLeaves 0 = bk_State_countLeaves_0 := rfl
theorem bq_State_countEntries_0 : ab_bl bt_State_countEntries 0 = bk_State_countEntries_0 := rfl
theorem bq_State_countEntries_4 : ab_bl bt_State_countEntries 4 = bk_State_countEntries_4 := rfl
theorem bq_State_countEntries_26 : ab_bl bt_State_countEntries 26 = bk_State_countEntries_26 := rfl
theorem bq_State_countDedicated_0 : ab_bl bt_State_countDedicated 0 = bk_State_countDedicated_0 := rfl
theorem bq_State_countDedicated_4 : ab_bl bt_State_countDedicated 4 = bk_State_countDedicated_4 := rfl
theorem bq_State_countDedicated_26 : ab_bl bt_State_countDedicated 26 = bk_State_countDedicated_26 := rfl
theorem bq_State_countEntriesOf_0 : ab_bl bt_State_countEntriesOf 0 = bk_State_countEntriesOf_0 := rfl
theorem bq_State_countEntriesOf_4 : ab_bl bt_State_countEntriesOf 4 = bk_State_countEntriesOf_4 := rfl
theorem bq_State_countEntriesOf_27 : ab_bl bt_State_countEntriesOf 27 = bk_State_countEntriesOf_27 := rfl
theorem bq_State_ownersOf_0 : ab_bl bt_State_ownersOf 0 = bk_State_ownersOf_0 := rfl
theorem bq_State_ownersOf_4 : ab_bl bt_State_ownersOf 4 = bk_State_ownersOf_4 := rfl
theorem bq_State_ownersOf_27 : ab_bl bt_State_ownersOf 27 = bk_State_ownersOf_27 := rfl
theorem bq_State_ownersOf_33 : ab_bl bt_State_ownersOf 33 = bk_State_ownersOf_33 := rfl
theorem bq_BestTrade_init_0 : ab_bl bt_BestTrade_init 0 = bk_BestTrade_init_0 := rfl
theorem bq_BestTrade_search_0 : ab_bl bt_BestTrade_search 0 = bk_BestTrade_search_0 := rfl
theorem bq_BestTrade_search_15 : ab_bl bt_BestTrade_search 15 = bk_BestTrade_search_15 := rfl
theorem bq_BestTrade_search_28 : ab_bl bt_BestTrade_search 28 = bk_BestTrade_search_28 := rfl
theorem bq_BestTrade_search_69 : ab_bl bt_BestTrade_search 69 = bk_BestTrade_search_69 := rfl
theorem bq_BestTrade_search_75 : ab_bl bt_BestTrade_search 75 = bk_BestTrade_search_75 := rfl
theorem bq_BestTrade_search_81 : ab_bl bt_BestTrade_search 81 = bk_BestTrade_search_81 := rfl
theorem bq_BestTrade_searchBook_0 : ab_bl bt_BestTrade_searchBook 0 = bk_BestTrade_searchBook_0 := rfl
theorem bq_BestTrade_searchBook_3 : ab_bl bt_BestTrade_searchBook 3 = bk_BestTrade_searchBook_3 := rfl
theorem bq_BestTrade_searchBook_94 : ab_bl bt_BestTrade_searchBook 94 = bk_BestTrade_searchBook_94 := rfl
theorem bq_BestTrade_searchBook_100 : ab_bl bt_BestTrade_searchBook 100 = bk_BestTrade_searchBook_100 := rfl
theorem bq_History_init_0 : ab_bl bt_History_init 0 = bk_History_init_0 := rfl
theorem bq_History_prepare_0 : ab_bl bt_History_prepare 0 = bk_History_prepare_0 := rfl
theorem bq_History_keep_0 : ab_bl bt_History_keep 0 = bk_History_keep_0 := rfl
theorem bq_History_keep_60 : ab_bl bt_History_keep 60 = bk_History_keep_60 := rfl
theorem bq_History_restore_0 : ab_bl bt_History_restore 0 = bk_History_restore_0 := rfl
theorem bq_Orders_init_0 : ab_bl bt_Orders_init 0 = bk_Orders_init_0 := rfl
theorem bq_Orders_append_0 : ab_bl bt_Orders_append 0 = bk_Orders_append_0 := rfl
theorem bq_Orders_append_39 : ab_bl bt_Orders_append 39 = bk_Orders_append_39 := rfl
theorem bq_Orders_run_0 : ab_bl bt_Orders_run 0 = bk_Orders_run_0 := rfl
theorem bq_Orders_run_23 : ab_bl bt_Orders_run 23 = bk_Orders_run_23 := rfl
theorem bq_Orders_run_75 : ab_bl bt_Orders_run 75 = bk_Orders_run_75 := rfl
theorem bq_Orders_run_100 : ab_bl bt_Orders_run 100 = bk_Orders_run_100 := rfl
theorem bq_Orders_run_116 : ab_bl bt_Orders_run 116 = bk_Orders_run_116 := rfl
theorem bq_Orders_characterAt_0 : ab_bl bt_Orders_characterAt 0 = bk_Orders_characterAt_0 := rfl
theorem bq_Orders_characterAt_30 : ab_bl bt_Orders_characterAt 30 = bk_Orders_characterAt_30 := rfl
theorem bq_Orders_characterAt_31 : ab_bl bt_Orders_characterAt 31 = bk_Orders_characterAt_31 := rfl
theorem bq_Orders_readOrder_0 : ab_bl bt_Orders_readOrder 0 = bk_Orders_readOrder_0 := rfl
theorem bq_Orders_readOrder_18 : ab_bl bt_Orders_readOrder 18 = bk_Orders_readOrder_18 := rfl
theorem bq_Orders_readOrder_30 : ab_bl bt_Orders_readOrder 30 = bk_Orders_readOrder_30 := rfl
theorem bq_Orders_readOrder_50 : ab_bl bt_Orders_readOrder 50 = bk_Orders_readOrder_50 := rfl
theorem bq_Orders_readOrder_66 : ab_bl bt_Orders_readOrder 66 = bk_Orders_readOrder_66 := rfl
theorem bq_Orders_readOrder_77 : ab_bl bt_Orders_readOrder 77 = bk_Orders_readOrder_77 := rfl
theorem bq_Orders_skip_0 : ab_bl bt_Orders_skip 0 = bk_Orders_skip_0 := rfl
theorem bq_Orders_skip_14 : ab_bl bt_Orders_skip 14 = bk_Orders_skip_14 := rfl
theorem bq_Orders_readNumber_0 : ab_bl bt_Orders_readNumber 0 = bk_Orders_readNumber_0 := rfl
theorem bq_Orders_readNumber_63 : ab_bl bt_Orders_readNumber 63 = bk_Orders_readNumber_63 := rfl
theorem bq_Orders_readNumber_83 : ab_bl bt_Orders_readNumber 83 = bk_Orders_readNumber_83 := rfl
theorem bq_Orders_number_0 : ab_bl bt_Orders_number 0 = bk_Orders_number_0 := rfl
theorem bq_Orders_number_22 : ab_bl bt_Orders_number 22 = bk_Orders_number_22 := rfl
theorem bq_Orders_number_23 : ab_bl bt_Orders_number 23 = bk_Orders_number_23 := rfl
theorem bq_Orders_doOrder_0 : ab_bl bt_Orders_doOrder 0 = bk_Orders_doOrder_0 := rfl
theorem bq_Orders_doOrder_52 : ab_bl bt_Orders_doOrder 52 = bk_Orders_doOrder_52 := rfl
theorem bq_Orders_doOrder_62 : ab_bl bt_Orders_doOrder 62 = bk_Orders_doOrder_62 := rfl
theorem bq_Orders_doOrder_83 : ab_bl bt_Orders_doOrder 83 = bk_Orders_doOrder_83 := rfl
theorem bq_Orders_doOrder_121 : ab_bl bt_Orders_doOrder 121 = bk_Orders_doOrder_121 := rfl
theorem bq_Orders_doOrder_123 : ab_bl bt_Orders_doOrder 123 = bk_Orders_doOrder_123 := rfl
theorem bq_Orders_doOrder_124 : ab_bl bt_Orders_doOrder 124 = bk_Orders_doOrder_124 := rfl
theorem bq_Orders_doOrder_139 : ab_bl bt_Orders_doOrder 139 = bk_Orders_doOrder_139 := rfl
theorem bq_Orders_howManyNumbers_0 : ab_bl bt_Orders_howManyNumbers 0 = bk_Orders_howManyNumbers_0 := rfl
theorem bq_Orders_howManyNumbers_52 : ab_bl bt_Orders_howManyNumbers 52 = bk_Orders_howManyNumbers_52 := rfl
theorem bq_Orders_howManyNumbers_54 : ab_bl bt_Orders_howManyNumbers 54 = bk_Orders_howManyNumbers_54 := rfl
theorem bq_Orders_howManyNumbers_56 : ab_bl bt_Orders_howManyNumbers 56 = bk_Orders_howManyNumbers_56 := rfl
theorem bq_Orders_howManyNumbers_58 : ab_bl bt_Orders_howManyNumbers 58 = bk_Orders_howManyNumbers_58 := rfl
theorem bq_Orders_howManyNumbers_60 : ab_bl bt_Orders_howManyNumbers 60 = bk_Orders_howManyNumbers_60 := rfl
theorem bq_Orders_isDigit_0 : ab_bl bt_Orders_isDigit 0 = bk_Orders_isDigit_0 := rfl
theorem bq_Orders_isDigit_16 : ab_bl bt_Orders_isDigit 16 = bk_Orders_isDigit_16 := rfl
theorem bq_Orders_isDigit_17 : ab_bl bt_Orders_isDigit 17 = bk_Orders_isDigit_17 := rfl
theorem bq_Fair_init_0 : ab_bl bt_Fair_init 0 = bk_Fair_init_0 := rfl
theorem bq_Fair_name_0 : ab_bl bt_Fair_name 0 = bk_Fair_name_0 := rfl
theorem bq_Fair_leaf_0 : ab_bl bt_Fair_leaf 0 = bk_Fair_leaf_0 := rfl
theorem bq_Fair_sign_0 : ab_bl bt_Fair_sign 0 = bk_Fair_sign_0 := rfl
theorem bq_Fair_over_0 : ab_bl bt_Fair_over 0 = bk_Fair_over_0 := rfl
theorem bq_Fair_dedicate_0 : ab_bl bt_Fair_dedicate 0 = bk_Fair_dedicate_0 := rfl
theorem bq_Fair_move_0 : ab_bl bt_Fair_move 0 = bk_Fair_move_0 := rfl
theorem bq_Fair_trade_0 : ab_bl bt_Fair_trade 0 = bk_Fair_trade_0 := rfl
theorem bq_Fair_tear_0 : ab_bl bt_Fair_tear 0 = bk_Fair_tear_0 := rfl
theorem bq_Fair_coins_0 : ab_bl bt_Fair_coins 0 = bk_Fair_coins_0 := rfl
theorem bq_Fair_pageOf_0 : ab_bl bt_Fair_pageOf 0 = bk_Fair_pageOf_0 := rfl
theorem bq_Fair_pageOf_31 : ab_bl bt_Fair_pageOf 31 = bk_Fair_pageOf_31 := rfl
theorem bq_Fair_pageOf_34 : ab_bl bt_Fair_pageOf 34 = bk_Fair_pageOf_34 := rfl
theorem bq_Fair_pageOf_59 : ab_bl bt_Fair_pageOf 59 = bk_Fair_pageOf_59 := rfl
theorem bq_Fair_pageOf_88 : ab_bl bt_Fair_pageOf 88 = bk_Fair_pageOf_88 := rfl
theorem bq_Fair_pageOf_96 : ab_bl bt_Fair_pageOf 96 = bk_Fair_pageOf_96 := rfl
theorem bq_Fair_pageOf_112 : ab_bl bt_Fair_pageOf 112 = bk_Fair_pageOf_112 := rfl
theorem bq_Fair_pageOf_119 : ab_bl bt_Fair_pageOf 119 = bk_Fair_pageOf_119 := rfl
theorem bq_Fair_pageOf_120 : ab_bl bt_Fair_pageOf 120 = bk_Fair_pageOf_120 := rfl
theorem bq_Fair_pageOf_135 : ab_bl bt_Fair_pageOf 135 = bk_Fair_pageOf_135 := rfl
theorem bq_Fair_pageOf_136 : ab_bl bt_Fair_pageOf 136 = bk_Fair_pageOf_136 := rfl
theorem bq_Fair_pageOf_137 : ab_bl bt_Fair_pageOf 137 = bk_Fair_pageOf_137 := rfl
theorem bq_Fair_leafOf_0 : ab_bl bt_Fair_leafOf 0 = bk_Fair_leafOf_0 := rfl
theorem bq_Fair_leafOf_22 : ab_bl bt_Fair_leafOf 22 = bk_Fair_leafOf_22 := rfl
theorem bq_Fair_leafOf_25 : ab_bl bt_Fair_leafOf 25 = bk_Fair_leafOf_25 := rfl
theorem bq_Fair_leafOf_60 : ab_bl bt_Fair_leafOf 60 = bk_Fair_leafOf_60 := rfl
theorem bq_Fair_leafOf_65 : ab_bl bt_Fair_leafOf 65 = bk_Fair_leafOf_65 := rfl
theorem bq_Fair_leafOf_68 : ab_bl bt_Fair_leafOf 68 = bk_Fair_leafOf_68 := rfl
theorem bq_Fair_leafOf_75 : ab_bl bt_Fair_leafOf 75 = bk_Fair_leafOf_75 := rfl
theorem bq_Fair_at_0 : ab_bl bt_Fair_at 0 = bk_Fair_at_0 := rfl
theorem bq_Fair_at_11 : ab_bl bt_Fair_at 11 = bk_Fair_at_11 := rfl
theorem bq_Fair_at_14 : ab_bl bt_Fair_at 14 = bk_Fair_at_14 := rfl
theorem bq_Fair_at_39 : ab_bl bt_Fair_at 39 = bk_Fair_at_39 := rfl
theorem bq_Fair_at_41 : ab_bl bt_Fair_at 41 = bk_Fair_at_41 := rfl
theorem bq_Fair_collectorOf_0 : ab_bl bt_Fair_collectorOf 0 = bk_Fair_collectorOf_0 := rfl
theorem bq_Fair_collectorOf_10 : ab_bl bt_Fair_collectorOf 10 = bk_Fair_collectorOf_10 := rfl
theorem bq_Fair_collectorOf_72 : ab_bl bt_Fair_collectorOf 72 = bk_Fair_collectorOf_72 := rfl
theorem bq_Fair_collectorOf_81 : ab_bl bt_Fair_collectorOf 81 = bk_Fair_collectorOf_81 := rfl
theorem bq_Fair_collectorOf_86 : ab_bl bt_Fair_collectorOf 86 = bk_Fair_collectorOf_86 := rfl
theorem bq_Fair_collectorOf_91 : ab_bl bt_Fair_collectorOf 91 = bk_Fair_collectorOf_91 := rfl
theorem bq_Fair_collectorOf_103 : ab_bl bt_Fair_collectorOf 103 = bk_Fair_collectorOf_103 := rfl
theorem bq_Fair_collectorOf_112 : ab_bl bt_Fair_collectorOf 112 = bk_Fair_collectorOf_112 := rfl
theorem bq_Fair_collectorOf_117 : ab_bl bt_Fair_collectorOf 117 = bk_Fair_collectorOf_117 := rfl
theorem bq_Fair_collectorOf_129 : ab_bl bt_Fair_collectorOf 129 = bk_Fair_collectorOf_129 := rfl
theorem bq_Fair_collectorOf_134 : ab_bl bt_Fair_collectorOf 134 = bk_Fair_collectorOf_134 := rfl
theorem bq_Fair_collectorOf_140 : ab_bl bt_Fair_collectorOf 140 = bk_Fair_collectorOf_140 := rfl
theorem bq_Fair_nameOf_0 : ab_bl bt_Fair_nameOf 0 = bk_Fair_nameOf_0 := rfl
theorem bq_Fair_nameOf_17 : ab_bl bt_Fair_nameOf 17 = bk_Fair_nameOf_17 := rfl
theorem bq_Fair_nameOf_48 : ab_bl bt_Fair_nameOf 48 = bk_Fair_nameOf_48 := rfl
theorem bq_Fair_nameOf_60 : ab_bl bt_Fair_nameOf 60 = bk_Fair_nameOf_60 := rfl
theorem bq_Fair_nameOf_72 : ab_bl bt_Fair_nameOf 72 = bk_Fair_nameOf_72 := rfl
theorem bq_Fair_nameOf_81 : ab_bl bt_Fair_nameOf 81 = bk_Fair_nameOf_81 := rfl
theorem bq_Fair_nameOf_90 : ab_bl bt_Fair_nameOf 90 = bk_Fair_nameOf_90 := rfl
theorem bq_Fair_gain_0 : ab_bl bt_Fair_gain 0 = bk_Fair_gain_0 := rfl
theorem bq_Fair_gain_48 : ab_bl bt_Fair_gain 48 = bk_Fair_gain_48 := rfl
theorem bq_Fair_gain_51 : ab_bl bt_Fair_gain 51 = bk_Fair_gain_51 := rfl
theorem bq_Fair_gain_67 : ab_bl bt_Fair_gain 67 = bk_Fair_gain_67 := rfl
theorem bq_Fair_gain_114 : ab_bl bt_Fair_gain 114 = bk_Fair_gain_114 := rfl
theorem bq_Fair_gain_130 : ab_bl bt_Fair_gain 130 = bk_Fair_gain_130 := rfl
theorem bq_Fair_fair_0 : ab_bl bt_Fair_fair 0 = bk_Fair_fair_0 := rfl
theorem bq_Fair_fair_28 : ab_bl bt_Fair_fair 28 = bk_Fair_fair_28 := rfl
theorem bq_Fair_fair_31 : ab_bl bt_Fair_fair 31 = bk_Fair_fair_31 := rfl
theorem bq_Fair_fair_46 : ab_bl bt_Fair_fair 46 = bk_Fair_fair_46 := rfl
theorem bq_Fair_fair_131 : ab_bl bt_Fair_fair 131 = bk_Fair_fair_131 := rfl
theorem bq_Fair_fair_133 : ab_bl bt_Fair_fair 133 = bk_Fair_fair_133 := rfl
theorem bq_Fair_best_0 : ab_bl bt_Fair_best 0 = bk_Fair_best_0 := rfl
theorem bq_Fair_best_16 : ab_bl bt_Fair_best 16 = bk_Fair_best_16 := rfl
theorem bq_Fair_best_19 : ab_bl bt_Fair_best 19 = bk_Fair_best_19 := rfl
theorem bq_Fair_best_48 : ab_bl bt_Fair_best 48 = bk_Fair_best_48 := rfl
theorem bq_Fair_best_76 : ab_bl bt_Fair_best 76 = bk_Fair_best_76 := rfl
theorem bq_Fair_best_84 : ab_bl bt_Fair_best 84 = bk_Fair_best_84 := rfl
theorem bq_Fair_best_92 : ab_bl bt_Fair_best 92 = bk_Fair_best_92 := rfl
theorem bq_Fair_missing_0 : ab_bl bt_Fair_missing 0 = bk_Fair_missing_0 := rfl
theorem bq_Fair_missing_14 : ab_bl bt_Fair_missing 14 = bk_Fair_missing_14 := rfl
theorem bq_Fair_missing_17 : ab_bl bt_Fair_missing 17 = bk_Fair_missing_17 := rfl
theorem bq_Fair_mean_0 : ab_bl bt_Fair_mean 0 = bk_Fair_mean_0 := rfl
theorem bq_Fair_mean_10 : ab_bl bt_Fair_mean 10 = bk_Fair_mean_10 := rfl
theorem bq_Fair_mean_31 : ab_bl bt_Fair_mean 31 = bk_Fair_mean_31 := rfl
theorem bq_Fair_count_0 : ab_bl bt_Fair_count 0 = bk_Fair_count_0 := rfl
theorem bq_Fair_count_56 : ab_bl bt_Fair_count 56 = bk_Fair_count_56 := rfl
theorem bq_Fair_count_67 : ab_bl bt_Fair_count 67 = bk_Fair_count_67 := rfl
theorem bq_Fair_count_75 : ab_bl bt_Fair_count 75 = bk_Fair_count_75 := rfl
theorem bq_Fair_count_83 : ab_bl bt_Fair_count 83 = bk_Fair_count_83 := rfl
theorem bq_Fair_count_91 : ab_bl bt_Fair_count 91 = bk_Fair_count_91 := rfl
theorem bq_Fair_count_99 : ab_bl bt_Fair_count 99 = bk_Fair_count_99 := rfl
theorem bq_Fair_count_107 : ab_bl bt_Fair_count 107 = bk_Fair_count_107 := rfl
theorem bq_Fair_count_115 : ab_bl bt_Fair_count 115 = bk_Fair_count_115 := rfl
theorem bq_Fair_count_123 : ab_bl bt_Fair_count 123 = bk_Fair_count_123 := rfl
theorem bq_Fair_count_131 : ab_bl bt_Fair_count 131 = bk_Fair_count_131 := rfl
theorem bq_Fair_count_139 : ab_bl bt_Fair_count 139 = bk_Fair_count_139 := rfl
theorem bq_Fair_undo_0 : ab_bl bt_Fair_undo 0 = bk_Fair_undo_0 := rfl
theorem bq_Fair_undo_13 : ab_bl bt_Fair_undo 13 = bk_Fair_undo_13 := rfl
theorem bq_Fair_type_0 : ab_bl bt_Fair_type 0 = bk_Fair_type_0 := rfl
theorem bq_Fair_type_12 : ab_bl bt_Fair_type 12 = bk_Fair_type_12 := rfl
theorem bq_Fair_type_15 : ab_bl bt_Fair_type 15 = bk_Fair_type_15 := rfl
theorem bq_Fair_type_31 : ab_bl bt_Fair_type 31 = bk_Fair_type_31 := rfl
theorem bq_Fair_clearText_0 : ab_bl bt_Fair_clearText 0 = bk_Fair_clearText_0 := rfl
theorem bq_Fair_fault_0 : ab_bl bt_Fair_fault 0 = bk_Fair_fault_0 := rfl
theorem bq_Fair_fault_9 : ab_bl bt_Fair_fault 9 = bk_Fair_fault_9 := rfl
theorem bq_Fair_fault_12 : ab_bl bt_Fair_fault 12 = bk_Fair_fault_12 := rfl
theorem bq_Fair_fault_44 : ab_bl bt_Fair_fault 44 = bk_Fair_fault_44 := rfl
theorem bq_Fair_fault_72 : ab_bl bt_Fair_fault 72 = bk_Fair_fault_72 := rfl
theorem bq_Fair_fault_80 : ab_bl bt_Fair_fault 80 = bk_Fair_fault_80 := rfl
theorem bq_Fair_fault_88 : ab_bl bt_Fair_fault 88 = bk_Fair_fault_88 := rfl
theorem bq_Fair_play_0 : ab_bl bt_Fair_play 0 = bk_Fair_play_0 := rfl
theorem bq_Fair_play_32 : ab_bl bt_Fair_play 32 = bk_Fair_play_32 := rfl
theorem bq_Fair_isCollector_0 : ab_bl bt_Fair_isCollector 0 = bk_Fair_isCollector_0 := rfl
theorem bq_Fair_isCollector_13 : ab_bl bt_Fair_isCollector 13 = bk_Fair_isCollector_13 := rfl
theorem bq_Fair_isCollector_14 : ab_bl bt_Fair_isCollector 14 = bk_Fair_isCollector_14 := rfl
theorem bq_Fair_isTheme_0 : ab_bl bt_Fair_isTheme 0 = bk_Fair_isTheme_0 := rfl
theorem bq_Fair_isTheme_13 : ab_bl bt_Fair_isTheme 13 = bk_Fair_isTheme_13 := rfl
theorem bq_Fair_isTheme_14 : ab_bl bt_Fair_isTheme 14 = bk_Fair_isTheme_14 := rfl
theorem bq_Fair_isSide_0 : ab_bl bt_Fair_isSide 0 = bk_Fair_isSide_0 := rfl
theorem bq_Fair_isSide_9 : ab_bl bt_Fair_isSide 9 = bk_Fair_isSide_9 := rfl
theorem bq_Fair_isSide_13 : ab_bl bt_Fair_isSide 13 = bk_Fair_isSide_13 := rfl
theorem bq_Fair_isSide_14 : ab_bl bt_Fair_isSide 14 = bk_Fair_isSide_14 := rfl
theorem bq_Fair_arePaid_0 : ab_bl bt_Fair_arePaid 0 = bk_Fair_arePaid_0 := rfl
theorem bq_Fair_arePaid_18 : ab_bl bt_Fair_arePaid 18 = bk_Fair_arePaid_18 := rfl
theorem bq_Fair_arePaid_19 : ab_bl bt_Fair_arePaid 19 = bk_Fair_arePaid_19 := rfl
theorem bq_Fair_bitsOf_0 : ab_bl bt_Fair_bitsOf 0 = bk_Fair_bitsOf_0 := rfl
theorem bq_Fair_bitsOf_8 : ab_bl bt_Fair_bitsOf 8 = bk_Fair_bitsOf_8 := rfl
theorem bq_Fair_bitsOf_35 : ab_bl bt_Fair_bitsOf 35 = bk_Fair_bitsOf_35 := rfl
