/-! ===== THE WEAKEST PRECONDITION of straight code (printed by wip/p28/mkstep.py) ===== -/
abbrev ab_O : Type := Instr × Nat × List Nat × Int
abbrev ab_K : Type := Nat → Nat → Nat → List (Option Value) → List Value → ab_H → Prop
def ab_d0 (l : List Nat) : Nat := match l with | a :: _ => a | _ => 0
def ab_d1 (l : List Nat) : Nat := match l with | _ :: a :: _ => a | _ => 0
def ab_d2 (l : List Nat) : Nat := match l with | _ :: _ :: a :: _ => a | _ => 0
def ab_d3 (l : List Nat) : Nat := match l with | _ :: _ :: _ :: a :: _ => a | _ => 0
def ab_d4 (l : List Nat) : Nat := match l with | _ :: _ :: _ :: _ :: a :: _ => a | _ => 0
def ab_d5 (l : List Nat) : Nat := match l with | _ :: _ :: _ :: _ :: _ :: a :: _ => a | _ => 0
def ab_d6 (l : List Nat) : Nat := match l with | _ :: _ :: _ :: _ :: _ :: _ :: a :: _ => a | _ => 0
def ab_d7 (l : List Nat) : Nat := match l with | _ :: _ :: _ :: _ :: _ :: _ :: _ :: a :: _ => a | _ => 0
def ab_d8 (l : List Nat) : Nat := match l with | _ :: _ :: _ :: _ :: _ :: _ :: _ :: _ :: a :: _ => a | _ => 0
def ab_p1 (st : List Value) (f : Int32 → List Value → Prop) : Prop := match st with | .int x :: r => f x r | _ => False
def ab_p2 (st : List Value) (f : Int32 → Int32 → List Value → Prop) : Prop := match st with | .int y :: .int x :: r => f x y r | _ => False
def ab_p3 (st : List Value) (f : Int32 → Int32 → Nat → List Value → Prop) : Prop := match st with | .int x :: .int i :: .ref b :: r => f x i b r | _ => False
def ab_pa (st : List Value) (f : Int32 → Nat → List Value → Prop) : Prop := match st with | .int i :: .ref b :: r => f i b r | _ => False
def ab_pr (st : List Value) (f : Nat → List Value → Prop) : Prop := match st with | .ref b :: r => f b r | _ => False
def ab_prr (st : List Value) (f : Nat → Nat → List Value → Prop) : Prop := match st with | .ref a :: .ref b :: r => f a b r | _ => False
def ab_pf (st : List Value) (f : UInt32 → List Value → Prop) : Prop := match st with | .float x :: r => f x r | _ => False
def ab_pff (st : List Value) (f : UInt32 → UInt32 → List Value → Prop) : Prop := match st with | .float y :: .float x :: r => f x y r | _ => False
def ab_pq (st : List Value) (f : Value → List Value → Prop) : Prop := match st with | .ref b :: r => f (.ref b) r | .null :: r => f .null r | _ => False
def ab_pn (st : List Value) (f g : List Value → Prop) : Prop := match st with | .ref _ :: r => f r | .null :: r => g r | _ => False
def ab_pv (st : List Value) (f : Value → List Value → Prop) : Prop := match st with | .int x :: r => f (.int x) r | .ref b :: r => f (.ref b) r | _ => False
def ab_pvv (st : List Value) (f : Value → Value → List Value → Prop) : Prop := match st with | .int x :: .ref b :: r => f (.int x) (.ref b) r | _ => False
def ab_pl (st : List Value) (f : Int64 → List Value → Prop) : Prop := match st with | .long x :: r => f x r | _ => False
def ab_pll (st : List Value) (f : Int64 → Int64 → List Value → Prop) : Prop := match st with | .long y :: .long x :: r => f x y r | _ => False
def ab_pil (st : List Value) (f : Int64 → Int32 → List Value → Prop) : Prop := match st with | .int y :: .long x :: r => f x y r | _ => False
def ab_ol (v : Option Value) (f : Int64 → Prop) : Prop := match v with | some (.long x) => f x | _ => False
def ab_oi (v : Option Value) (f : Int32 → Prop) : Prop := match v with | some (.int x) => f x | _ => False
def ab_of' (v : Option Value) (f : UInt32 → Prop) : Prop := match v with | some (.float x) => f x | _ => False
def ab_or (v : Option Value) (f : Value → Prop) : Prop := match v with | some (.ref x) => f (.ref x) | some .null => f .null | _ => False
def ab_cb (c : Jvm.ClassFile.Cond) (x y : Int32) (A B : Prop) : Prop := match c with
  | .eq => (x = y → A) ∧ (¬ x = y → B)
  | .ne => (¬ x = y → A) ∧ (x = y → B)
  | .lt => (x < y → A) ∧ (¬ x < y → B)
  | .ge => (y ≤ x → A) ∧ (¬ y ≤ x → B)
  | .gt => (y < x → A) ∧ (¬ y < x → B)
  | .le => (x ≤ y → A) ∧ (¬ x ≤ y → B)
def ab_sw (x : Int32) (f : Nat → Prop) : Int → List Nat → Prop
  | _, [] => True
  | lo, t :: ts => (x = Int32.ofInt lo → f t) ∧ ab_sw x f (lo + 1) ts
def ab_lk2 (x : Int32) (f : Nat → Prop) (df : Nat) : List (Int × Int) → List Nat → Prop
  | p :: ps, t :: ts => (x = Int32.ofInt p.1 → f t) ∧ (¬ x = Int32.ofInt p.1 → ab_lk2 x f df ps ts)
  | _, _ => f df
def ab_pop : Nat → List Value → List Value → (List Value → List Value → Prop) → Prop
  | 0, acc, st, f => f acc st
  | n + 1, acc, v :: st, f => ab_pop n (v :: acc) st f
  | _ + 1, _, [], _ => False
def ab_ac (n b c : Nat) : Prop := b < n ∧ ab_sh b = c
def ab_ar (n b : Nat) : Prop := b < n ∧ 100 ≤ ab_sh b
def ab_hd (as : List Value) (n ci : Nat) : Prop := match as with | .ref b :: _ => ab_ac n b ci | _ => False
def ab_call (d : Nat) (dt : List Nat) (n bc bs : Nat) (ls : List (Option Value)) (st : List Value) (h : ab_H) (K : ab_K) : Prop := match ab_d2 dt with
  | 0 => ab_pop (ab_d1 dt) [] st fun as r => 1 ≤ d ∧ ab_st1 r = true ∧ ab_hd as n (ab_d8 dt) ∧ ab_C (d - 1) (ab_d0 dt) n as h (fun rv h' => K n bc bs ls (rv.toList ++ r) h')
  | 1 => ab_pop (ab_d1 dt) [] st fun as r => 1 ≤ d ∧ ab_st1 r = true ∧ ab_C (d - 1) (ab_d0 dt) n as h (fun rv h' => K n bc bs ls (rv.toList ++ r) h')
  | 2 => ab_pop (ab_d1 dt) [] st fun as r => 1 ≤ d ∧ ab_st1 r = true ∧ (match as with | .ref _ :: _ => True | _ => False) ∧ ab_mc (ab_d0 dt) ≤ bc ∧ ab_ms (ab_d0 dt) ≤ bs ∧ ab_C (d - 1) (ab_d0 dt) n as h (fun rv h' => K (n + ab_mc (ab_d0 dt)) (bc - ab_mc (ab_d0 dt)) (bs - ab_ms (ab_d0 dt)) ls (rv.toList ++ r) h')
  | 3 => ab_pr st fun _ r => 1 ≤ d ∧ ab_st1 r = true ∧ K n bc bs ls r h
  | 4 => ab_pf st fun x r => 1 ≤ d ∧ ab_st1 r = true ∧ K n bc bs ls (.int x.toInt32 :: r) h
  | 5 => ab_p2 st fun x y r => 1 ≤ d ∧ ab_st1 r = true ∧ K n bc bs ls (.int (if x < y then y else x) :: r) h
  | 6 => ab_p2 st fun x y r => 1 ≤ d ∧ ab_st1 r = true ∧ K n bc bs ls (.int (if y < x then y else x) :: r) h
  | _ => False
def ab_step (d : Nat) (J : Nat → ab_K) (Q : Option Value → ab_H → Prop) (i : Instr) (dt : List Nat) (v : Int) (n bc bs : Nat) (ls : List (Option Value)) (st : List Value) (h : ab_H) (K : ab_K) : Prop := match i with
  | .nop => J (ab_d0 dt) n bc bs ls st h
  | .iadd => ab_p2 st fun x y r => K n bc bs ls (.int (x + y) :: r) h
  | .isub => ab_p2 st fun x y r => K n bc bs ls (.int (x - y) :: r) h
  | .imul => ab_p2 st fun x y r => K n bc bs ls (.int (x * y) :: r) h
  | .iand => ab_p2 st fun x y r => K n bc bs ls (.int (x &&& y) :: r) h
  | .ior => ab_p2 st fun x y r => K n bc bs ls (.int (x ||| y) :: r) h
  | .ixor => ab_p2 st fun x y r => K n bc bs ls (.int (x ^^^ y) :: r) h
  | .ishl => ab_p2 st fun x y r => K n bc bs ls (.int (x <<< (y &&& 31)) :: r) h
  | .ishr => ab_p2 st fun x y r => K n bc bs ls (.int (x >>> (y &&& 31)) :: r) h
  | .iushr => ab_p2 st fun x y r => K n bc bs ls (.int ((x.toUInt32 >>> (y.toUInt32 &&& Int32.toUInt32 31)).toInt32) :: r) h
  | .idiv => ab_p2 st fun x y r => ¬ y = 0 ∧ K n bc bs ls (.int (x / y) :: r) h
  | .irem => ab_p2 st fun x y r => ¬ y = 0 ∧ K n bc bs ls (.int (x - x / y * y) :: r) h
  | .ineg => ab_p1 st fun x r => K n bc bs ls (.int (-x) :: r) h
  | .i2f => ab_p1 st fun x r => K n bc bs ls (.float (FP.i2f x) :: r) h
  | .fdiv => ab_pff st fun x y r => vf_n32 (FP.fdiv x y) ∧ K n bc bs ls (.float (FP.fdiv x y) :: r) h
  | .fmul => ab_pff st fun x y r => vf_n32 (FP.fmul x y) ∧ K n bc bs ls (.float (FP.fmul x y) :: r) h
  | .f2i => ab_pf st fun x r => K n bc bs ls (.int (FP.f2i x) :: r) h
  | .fcmp op => ab_pff st fun x y r => K n bc bs ls (.int (Op.cmpValue (FP.fcmp x y) op) :: r) h
  | .fconst _ => K n bc bs ls (.float FP.fconst2 :: st) h
  | .lconst _ => K n bc bs ls (.long (Int64.ofInt v) :: st) h
  | .ldc2_w _ => K n bc bs ls (.long (Int64.ofInt v) :: st) h
  | .lload_n _ => ab_ol (ab_lg ls (ab_d0 dt)) fun x => K n bc bs ls (.long x :: st) h
  | .lload _ => ab_ol (ab_lg ls (ab_d0 dt)) fun x => K n bc bs ls (.long x :: st) h
  | .lstore_n _ => ab_pl st fun x r => K n bc bs (ab_ls (ab_ln ls (ab_d0 dt + 1)) (ab_d0 dt) (.long x)) r h
  | .lstore _ => ab_pl st fun x r => K n bc bs (ab_ls (ab_ln ls (ab_d0 dt + 1)) (ab_d0 dt) (.long x)) r h
  | .ladd => ab_pll st fun x y r => K n bc bs ls (.long (x + y) :: r) h
  | .lmul => ab_pll st fun x y r => K n bc bs ls (.long (x * y) :: r) h
  | .land => ab_pll st fun x y r => K n bc bs ls (.long (x &&& y) :: r) h
  | .lcmp => ab_pll st fun x y r => K n bc bs ls (.int (lg_cmp x y) :: r) h
  | .lshr => ab_pil st fun x y r => K n bc bs ls (.long (x >>> (y.toInt64 &&& 63)) :: r) h
  | .i2l => ab_p1 st fun x r => K n bc bs ls (.long x.toInt64 :: r) h
  | .l2i => ab_pl st fun x r => K n bc bs ls (.int x.toInt32 :: r) h
  | .lreturn => (match st with | [.long x] => bc = 0 ∧ Q (some (.long x)) h | _ => False)
  | .aconst_null => K n bc bs ls (.null :: st) h
  | .iconst _ => K n bc bs ls (.int (Int32.ofInt v) :: st) h
  | .bipush _ => K n bc bs ls (.int (Int32.ofInt v) :: st) h
  | .sipush _ => K n bc bs ls (.int (Int32.ofInt v) :: st) h
  | .ldc _ => (match ab_d1 dt with | 1 => K n bc bs ls (.float (UInt32.ofNat v.toNat) :: st) h | _ => K n bc bs ls (.int (Int32.ofInt v) :: st) h)
  | .ldc_w _ => (match ab_d1 dt with | 1 => K n bc bs ls (.float (UInt32.ofNat v.toNat) :: st) h | _ => K n bc bs ls (.int (Int32.ofInt v) :: st) h)
  | .iload_n _ => ab_oi (ab_lg ls (ab_d0 dt)) fun x => K n bc bs ls (.int x :: st) h
  | .iload _ => ab_oi (ab_lg ls (ab_d0 dt)) fun x => K n bc bs ls (.int x :: st) h
  | .fload_n _ => ab_of' (ab_lg ls (ab_d0 dt)) fun x => K n bc bs ls (.float x :: st) h
  | .aload_n _ => ab_or (ab_lg ls (ab_d0 dt)) fun w => K n bc bs ls (w :: st) h
  | .aload _ => ab_or (ab_lg ls (ab_d0 dt)) fun w => K n bc bs ls (w :: st) h
  | .istore_n _ => ab_p1 st fun x r => K n bc bs (ab_ls ls (ab_d0 dt) (.int x)) r h
  | .istore _ => ab_p1 st fun x r => K n bc bs (ab_ls ls (ab_d0 dt) (.int x)) r h
  | .fstore_n _ => ab_pf st fun x r => K n bc bs (ab_ls ls (ab_d0 dt) (.float x)) r h
  | .astore_n _ => ab_pq st fun w r => K n bc bs (ab_ls ls (ab_d0 dt) w) r h
  | .astore _ => ab_pq st fun w r => K n bc bs (ab_ls ls (ab_d0 dt) w) r h
  | .iinc _ _ => ab_oi (ab_lg ls (ab_d0 dt)) fun x => K n bc bs (ab_ls ls (ab_d0 dt) (.int (x + Int32.ofInt v))) st h
  | .dup => ab_pv st fun w r => K n bc bs ls (w :: w :: r) h
  | .dup2 => ab_pvv st fun w u r => K n bc bs ls (w :: u :: w :: u :: r) h
  | .if_icmp c _ => ab_p2 st fun x y r => ab_cb c x y (J (ab_d0 dt) n bc bs ls r h) (K n bc bs ls r h)
  | .ifCond c _ => ab_p1 st fun x r => ab_cb c x 0 (J (ab_d0 dt) n bc bs ls r h) (K n bc bs ls r h)
  | .goto _ => J (ab_d0 dt) n bc bs ls st h
  | .ifnull _ => ab_pn st (fun r => K n bc bs ls r h) (fun r => J (ab_d0 dt) n bc bs ls r h)
  | .ifnonnull _ => ab_pn st (fun r => J (ab_d0 dt) n bc bs ls r h) (fun r => K n bc bs ls r h)
  | .tableswitch _ lo hi _ => ab_p1 st fun x r => (x.toInt < lo ∨ hi < x.toInt → J (ab_d0 dt) n bc bs ls r h) ∧ ab_sw x (fun t => J t n bc bs ls r h) lo dt.tail
  | .lookupswitch _ ps => ab_p1 st fun x r => ab_lk2 x (fun t => J t n bc bs ls r h) (ab_d0 dt) ps.toList dt.tail
  | .getfield _ => ab_pr st fun b r => ab_ac n b (ab_d0 dt) ∧ (match ab_d2 dt with | 1 => h.2 b (ab_d1 dt) < 1000 ∧ K n bc bs ls (.ref (h.2 b (ab_d1 dt)) :: r) h | _ => K n bc bs ls (.int (h.1 b (ab_d1 dt)) :: r) h)
  | .putfield _ => (match ab_d2 dt with
    | 1 => ab_prr st fun a b r => ab_ac n b (ab_d0 dt) ∧ a < 1000 ∧ K n bc bs ls r (ab_hr h b (ab_d1 dt) a)
    | 2 => ab_pa st fun x b r => ab_ac n b (ab_d0 dt) ∧ (x = 0 ∨ x = 1) ∧ K n bc bs ls r (ab_hi h b (ab_d1 dt) x)
    | _ => ab_pa st fun x b r => ab_ac n b (ab_d0 dt) ∧ K n bc bs ls r (ab_hi h b (ab_d1 dt) x))
  | .arraylength => ab_pr st fun b r => ab_ar n b ∧ K n bc bs ls (.int (Int32.ofInt ((ab_sh b - 100 : Nat) : Int)) :: r) h
  | .iaload => ab_pa st fun i b r => ab_ar n b ∧ vp_in i (ab_sh b - 100) ∧ K n bc bs ls (.int (h.1 b i.toNatClampNeg) :: r) h
  | .iastore => ab_p3 st fun x i b r => ab_ar n b ∧ vp_in i (ab_sh b - 100) ∧ K n bc bs ls r (ab_hi h b i.toNatClampNeg x)
  | .new _ => ab_sh n = ab_d0 dt ∧ 1 ≤ bc ∧ ab_nf (ab_d0 dt) ≤ bs ∧ K (n + 1) (bc - 1) (bs - ab_nf (ab_d0 dt)) ls (.ref n :: st) (ab_hn h n)
  | .newarray _ => ab_p1 st fun x r => ¬ x < 0 ∧ x.toNatClampNeg ≤ 1000 ∧ ab_sh n = 100 + x.toNatClampNeg ∧ 1 ≤ bc ∧ x.toNatClampNeg ≤ bs ∧ K (n + 1) (bc - 1) (bs - x.toNatClampNeg) ls (.ref n :: r) (ab_hn h n)
  | .invokevirtual _ => ab_call d dt n bc bs ls st h K
  | .invokestatic _ => ab_call d dt n bc bs ls st h K
  | .invokespecial _ => ab_call d dt n bc bs ls st h K
  | .ireturn => (match st with | [.int x] => bc = 0 ∧ (match ab_d0 dt with | 1 => (x = 0 ∨ x = 1) ∧ Q (some (.int x)) h | _ => Q (some (.int x)) h) | _ => False)
  | .areturn => (match st with | [.ref x] => bc = 0 ∧ Q (some (.ref x)) h | [.null] => bc = 0 ∧ Q (some .null) h | _ => False)
  | .return_ => (match st with | [] => bc = 0 ∧ Q none h | _ => False)
  | _ => False
def ab_wp (d : Nat) (J : Nat → ab_K) (Q : Option Value → ab_H → Prop) : List ab_O → ab_K
  | [], _, _, _, _, _, _ => False
  | o :: os, n, bc, bs, ls, st, h => ab_step d J Q o.1 o.2.2.1 o.2.2.2 n bc bs ls st h (ab_wp d J Q os)
def ab_dc (k pc : Nat) (i : Instr) (len : Nat) : Bool := decide (decode (ab_cod k) pc = .ok (i, len))
def ab_cklink (k idx ci f p nest : Nat) : Bool := match nest with
  | 0 => ab_w p (.fieldLink (ab_yn k).cls idx (ab_tx ci f).1 (ab_tx ci f).2.1 (ab_tx ci f).2.2.1)
  | _ => ab_wn p (.fieldLinkNest (ab_yn k).cls idx (ab_tx ci f).1 (ab_tx ci f).2.1 (ab_tx ci f).2.2.1 "FairBooks")
def ab_ckcall (k idx : Nat) (dt : List Nat) : Bool := match ab_d2 dt with
  | 0 => decide (2 ≤ ab_d0 dt) && (decide (ab_d0 dt < 131) && (decide (ab_mc (ab_d0 dt) = 0) && (decide (ab_ms (ab_d0 dt) = 0) && (ab_w (ab_d4 dt) (.methodLink (ab_yn k).cls idx (ab_yn (ab_d0 dt))) && (ab_w (ab_d5 dt) (.instanceMethod (ab_yn (ab_d0 dt))) && (ab_w (ab_d6 dt) (.selects (ab_yn (ab_d0 dt)).cls (ab_yn (ab_d0 dt)) (ab_yn (ab_d0 dt))) && (ab_w (ab_d7 dt) (.initialized (ab_yn (ab_d0 dt)).cls) && (decide (ab_d8 dt < 8) && (decide (ab_cn (ab_d8 dt) = (ab_yn (ab_d0 dt)).cls) && (decide ((parseMethodDescriptor (ab_yn (ab_d0 dt)).desc).map (fun d => d.parameters.length) = some (ab_d1 dt - 1)) && decide (1 ≤ ab_d1 dt)))))))))))
  | 1 => decide (2 ≤ ab_d0 dt) && (decide (ab_d0 dt < 131) && (decide (ab_mc (ab_d0 dt) = 0) && (decide (ab_ms (ab_d0 dt) = 0) && ((match ab_d3 dt with | 0 => ab_w (ab_d4 dt) (.methodLink (ab_yn k).cls idx (ab_yn (ab_d0 dt))) | _ => ab_wn (ab_d4 dt) (.methodLinkNest (ab_yn k).cls idx (ab_yn (ab_d0 dt)) "FairBooks")) && (ab_w (ab_d5 dt) (.static (ab_yn (ab_d0 dt))) && (ab_w (ab_d7 dt) (.initialized (ab_yn (ab_d0 dt)).cls) && decide ((parseMethodDescriptor (ab_yn (ab_d0 dt)).desc).map (fun d => d.parameters.length) = some (ab_d1 dt))))))))
  | 2 => decide (2 ≤ ab_d0 dt) && (decide (ab_d0 dt < 131) && ((match ab_d3 dt with | 0 => ab_w (ab_d4 dt) (.methodLink (ab_yn k).cls idx (ab_yn (ab_d0 dt))) | _ => ab_wn (ab_d4 dt) (.methodLinkNest (ab_yn k).cls idx (ab_yn (ab_d0 dt)) "FairBooks")) && (ab_w (ab_d5 dt) (.instanceMethod (ab_yn (ab_d0 dt))) && (ab_w (ab_d7 dt) (.initialized (ab_yn (ab_d0 dt)).cls) && (decide ((ab_yn (ab_d0 dt)).name = "<init>") && (decide (ab_rt (ab_d0 dt) = none) && (decide ((parseMethodDescriptor (ab_yn (ab_d0 dt)).desc).map (fun d => d.parameters.length) = some (ab_d1 dt - 1)) && decide (1 ≤ ab_d1 dt))))))))
  | 3 => ab_w (ab_d4 dt) (.methodLink (ab_yn k).cls idx objectInit) && (ab_w (ab_d5 dt) (.instanceMethod objectInit) && ab_w (ab_d6 dt) (.code objectInit ⟨#[0xb1]⟩ 1 none))
  | 4 => ab_w (ab_d4 dt) (.methodLink (ab_yn k).cls idx ⟨"java/lang/Float", "floatToRawIntBits", "(F)I"⟩) && (ab_w (ab_d5 dt) (.native ⟨"java/lang/Float", "floatToRawIntBits", "(F)I"⟩) && (ab_w (ab_d6 dt) (.static ⟨"java/lang/Float", "floatToRawIntBits", "(F)I"⟩) && ab_w (ab_d7 dt) (.initialized "java/lang/Float")))
  | 5 => ab_w (ab_d4 dt) (.methodLink (ab_yn k).cls idx Lib.Math.max.name) && (ab_w (ab_d5 dt) (.static Lib.Math.max.name) && (ab_w (ab_d6 dt) (.initialized "java/lang/Math") && ab_w (ab_d7 dt) (.code Lib.Math.max.name Lib.Math.max.code 2 (some .int))))
  | 6 => ab_w (ab_d4 dt) (.methodLink (ab_yn k).cls idx Lib.Math.min.name) && (ab_w (ab_d5 dt) (.static Lib.Math.min.name) && (ab_w (ab_d6 dt) (.initialized "java/lang/Math") && ab_w (ab_d7 dt) (.code Lib.Math.min.name Lib.Math.min.code 2 (some .int))))
  | _ => false
def ab_cksw (pc : Nat) : List Int → List Nat → Bool
  | [], [] => true
  | o :: os, t :: ts => decide ((pc : Int) + o = (t : Int)) && ab_cksw pc os ts
  | _, _ => false
/-- no long ends in front of the slot i -/
def ab_nl (k i : Nat) : Bool := (ab_lo k).all (fun z => decide (z + 1 ≠ i))
theorem ab_nl_in {k i : Nat} (h : ab_nl k i = true) : ∀ z, z + 1 = i → z ∉ ab_lo k := fun z hz hm => absurd hz (of_decide_eq_true (List.all_eq_true.mp h z hm))
def ab_ck (k pc : Nat) (i : Instr) (len : Nat) (dt : List Nat) (v : Int) : Bool := match i with
  | .nop => decide (ab_d0 dt = pc)
  | .fconst f => decide (f = 2) && (ab_dc k pc i len && decide (len = 1))
  | .iconst j => decide (j = v) && (ab_dc k pc i len && decide (len = 1))
  | .bipush j => decide (j = v) && (decide ((Int8.ofInt j).toInt32 = Int32.ofInt j) && (ab_dc k pc i len && decide (len = 2)))
  | .sipush j => decide (j = v) && (decide ((Int16.ofInt j).toInt32 = Int32.ofInt j) && (ab_dc k pc i len && decide (len = 3)))
  | .ldc j => ab_dc k pc i len && (decide (len = 2) && (match ab_d1 dt with | 1 => ab_w (ab_d0 dt) (.constantFloat (ab_yn k).cls j (UInt32.ofNat v.toNat)) | _ => ab_w (ab_d0 dt) (.constant (ab_yn k).cls j (Int32.ofInt v))))
  | .ldc_w j => ab_dc k pc i len && (decide (len = 3) && (match ab_d1 dt with | 1 => ab_w (ab_d0 dt) (.constantFloat (ab_yn k).cls j (UInt32.ofNat v.toNat)) | _ => ab_w (ab_d0 dt) (.constant (ab_yn k).cls j (Int32.ofInt v))))
  | .iload_n j => decide (j.val = ab_d0 dt) && (ab_dc k pc i len && decide (len = 1))
  | .fload_n j => decide (j.val = ab_d0 dt) && (ab_dc k pc i len && decide (len = 1))
  | .aload_n j => decide (j.val = ab_d0 dt) && (ab_dc k pc i len && decide (len = 1))
  | .iload j => decide (j = ab_d0 dt) && (ab_dc k pc i len && decide (len = 2))
  | .aload j => decide (j = ab_d0 dt) && (ab_dc k pc i len && decide (len = 2))
  | .istore_n j => decide (j.val = ab_d0 dt) && (decide (j.val < ab_ml k) && (ab_nl k j.val && (ab_dc k pc i len && decide (len = 1))))
  | .fstore_n j => decide (j.val = ab_d0 dt) && (decide (j.val < ab_ml k) && (ab_nl k j.val && (ab_dc k pc i len && decide (len = 1))))
  | .astore_n j => decide (j.val = ab_d0 dt) && (decide (j.val < ab_ml k) && (ab_nl k j.val && (ab_dc k pc i len && decide (len = 1))))
  | .istore j => decide (j = ab_d0 dt) && (decide (j < ab_ml k) && (ab_nl k j && (ab_dc k pc i len && decide (len = 2))))
  | .astore j => decide (j = ab_d0 dt) && (decide (j < ab_ml k) && (ab_nl k j && (ab_dc k pc i len && decide (len = 2))))
  | .iinc j c => decide (j = ab_d0 dt) && (decide (c = v) && (decide (j < ab_ml k) && (ab_nl k j && (ab_dc k pc i len && decide (len = 3)))))
  | .lconst j => decide (Int64.ofNat (j : Nat) = Int64.ofInt v) && (ab_dc k pc i len && decide (len = 1))
  | .ldc2_w j => ab_dc k pc i len && (decide (len = 3) && ab_w (ab_d0 dt) (.constantLong (ab_yn k).cls j (Int64.ofInt v)))
  | .lload_n j => decide (j.val = ab_d0 dt) && (ab_dc k pc i len && decide (len = 1))
  | .lload j => decide (j = ab_d0 dt) && (ab_dc k pc i len && decide (len = 2))
  | .lstore_n j => decide (j.val = ab_d0 dt) && (decide (j.val + 1 < ab_ml k) && (decide (j.val ∈ ab_lo k) && (ab_nl k j.val && (ab_dc k pc i len && decide (len = 1)))))
  | .lstore j => decide (j = ab_d0 dt) && (decide (j + 1 < ab_ml k) && (decide (j ∈ ab_lo k) && (ab_nl k j && (ab_dc k pc i len && decide (len = 2)))))
  | .lreturn => decide (ab_rt k = some .long) && (ab_dc k pc i len && decide (len = 1))
  | .if_icmp _ off => decide ((pc : Int) + off = (ab_d0 dt : Int)) && (ab_dc k pc i len && decide (len = 3))
  | .ifCond _ off => decide ((pc : Int) + off = (ab_d0 dt : Int)) && (ab_dc k pc i len && decide (len = 3))
  | .goto off => decide ((pc : Int) + off = (ab_d0 dt : Int)) && (ab_dc k pc i len && decide (len = 3))
  | .ifnull off => decide ((pc : Int) + off = (ab_d0 dt : Int)) && (ab_dc k pc i len && decide (len = 3))
  | .ifnonnull off => decide ((pc : Int) + off = (ab_d0 dt : Int)) && (ab_dc k pc i len && decide (len = 3))
  | .tableswitch df lo hi offs => ab_cksw pc (df :: offs.toList) dt && (decide (hi = lo + offs.toList.length - 1) && ab_dc k pc i len)
  | .lookupswitch df ps => ab_cksw pc (df :: ps.toList.map Prod.snd) dt && ((ps.toList.zip (ps.toList.drop 1)).all (fun (a, next) => a.1 < next.1) && (ab_dc k pc i len && ps.toList.all (fun p => decide (-2147483648 ≤ p.1) && decide (p.1 < 2147483648))))
  | .getfield j => ab_cklink k j (ab_d0 dt) (ab_d1 dt) (ab_d3 dt) (ab_d4 dt) && (decide (ab_d0 dt < 8) && (decide (ab_d1 dt < ab_nf (ab_d0 dt)) && ((match ab_d2 dt with | 1 => decide (ab_fk (ab_d0 dt) (ab_d1 dt) = 1) | _ => decide (ab_fk (ab_d0 dt) (ab_d1 dt) ≠ 1)) && (ab_dc k pc i len && decide (len = 3)))))
  | .putfield j => ab_cklink k j (ab_d0 dt) (ab_d1 dt) (ab_d3 dt) (ab_d4 dt) && (decide (ab_d0 dt < 8) && (decide (ab_d1 dt < ab_nf (ab_d0 dt)) && ((match ab_d2 dt with | 1 => decide (ab_fk (ab_d0 dt) (ab_d1 dt) = 1) | 2 => decide (ab_fk (ab_d0 dt) (ab_d1 dt) = 2) | _ => decide (ab_fk (ab_d0 dt) (ab_d1 dt) = 0)) && ((match ab_d5 dt with | 0 => decide ((ab_tx (ab_d0 dt) (ab_d1 dt)).2.2.2 = false) | _ => decide ((ab_tx (ab_d0 dt) (ab_d1 dt)).2.2.2 = true) && (decide ((ab_yn k).name = "<init>") && (decide ((ab_tx (ab_d0 dt) (ab_d1 dt)).1 = (ab_yn k).cls) && ab_cklink k j (ab_d0 dt) (ab_d1 dt) (ab_d3 dt) 0))) && (ab_dc k pc i len && decide (len = 3))))))
  | .new j => decide (ab_d0 dt < 8) && (ab_w (ab_d1 dt) (.classLink (ab_yn k).cls j (ab_cn (ab_d0 dt))) && (ab_w (ab_d2 dt) (.instantiable (ab_cn (ab_d0 dt)) (ab_nf (ab_d0 dt))) && (ab_w (ab_d3 dt) (.initialized (ab_cn (ab_d0 dt))) && (ab_dc k pc i len && decide (len = 3)))))
  | .newarray t => decide (t = .int) && (ab_w (ab_d0 dt) (.arrayClass .int) && (ab_dc k pc i len && decide (len = 2)))
  | .invokevirtual j => decide (ab_d2 dt = 0) && (ab_ckcall k j dt && (ab_dc k pc i len && decide (len = 3)))
  | .invokestatic j => decide (ab_d2 dt = 1 ∨ 4 ≤ ab_d2 dt) && (ab_ckcall k j dt && (ab_dc k pc i len && decide (len = 3)))
  | .invokespecial j => decide (ab_d2 dt = 2 ∨ ab_d2 dt = 3) && (ab_ckcall k j dt && (ab_dc k pc i len && decide (len = 3)))
  | .ireturn => (match ab_d0 dt with | 1 => decide (ab_rt k = some .boolean) | _ => decide (ab_rt k = some .int)) && (ab_dc k pc i len && decide (len = 1))
  | .areturn => decide (ab_rt k = some (.object "FairBooks$Book")) && (ab_dc k pc i len && decide (len = 1))
  | .return_ => decide (ab_rt k = none) && (ab_dc k pc i len && decide (len = 1))
  | _ => ab_dc k pc i len && decide (len = 1)
def ab_chk (k : Nat) : Nat → List ab_O → Bool
  | _, [] => true
  | pc, o :: os => ab_ck k pc o.1 o.2.1 o.2.2.1 o.2.2.2 && ab_chk k (pc + o.2.1) os
