/-! ===== an evaluator of the law's methods over the mathematical world (printed by wip/p28/mk71.py) ===== -/
abbrev lx_R : Type := Int32 × Wd × Nat
def lx_i (st : List Value) (f : Int32 → List Value → Option lx_R) : Option lx_R := match st with | .int x :: r => f x r | _ => none
def lx_ii (st : List Value) (f : Int32 → Int32 → List Value → Option lx_R) : Option lx_R := match st with | .int y :: .int x :: r => f x y r | _ => none
def lx_l (st : List Value) (f : Int64 → List Value → Option lx_R) : Option lx_R := match st with | .long x :: r => f x r | _ => none
def lx_ll (st : List Value) (f : Int64 → Int64 → List Value → Option lx_R) : Option lx_R := match st with | .long y :: .long x :: r => f x y r | _ => none
def lx_il (st : List Value) (f : Int64 → Int32 → List Value → Option lx_R) : Option lx_R := match st with | .int y :: .long x :: r => f x y r | _ => none
def lx_gi (v : Option Value) (f : Int32 → Option lx_R) : Option lx_R := match v with | some (.int x) => f x | _ => none
def lx_gl (v : Option Value) (f : Int64 → Option lx_R) : Option lx_R := match v with | some (.long x) => f x | _ => none
def lx_gr (v : Option Value) (f : Nat → Option lx_R) : Option lx_R := match v with | some (.ref x) => f x | _ => none
def lx_c (c : Jvm.ClassFile.Cond) (x y : Int32) : Bool := match c with
  | .eq => decide (x = y)
  | .ne => !decide (x = y)
  | .lt => decide (x < y)
  | .ge => decide (y ≤ x)
  | .gt => decide (y < x)
  | .le => decide (x ≤ y)
def lx_pop : Nat → List Int32 → List Value → Option (List Int32 × List Value)
  | 0, acc, st => some (acc, st)
  | n + 1, acc, .int x :: st => lx_pop n (x :: acc) st
  | _ + 1, _, _ => none
/-- what is left of a stack of arguments: the object, and the rest -/
def lx_ob (q : Option (List Int32 × List Value)) (f : List Int32 → List Value → Option lx_R) : Option lx_R := match q with | some (as, .ref 0 :: r) => f as r | _ => none
def lx_an (q : Option (Int32 × Wd)) (c : Nat) (f : Int32 → Wd → Nat → Option lx_R) : Option lx_R := match q, c with | some (x, w), c + 1 => f x w c | _, _ => none
def lx_th (q : Option lx_R) (f : Int32 → Wd → Nat → Option lx_R) : Option lx_R := match q with | some (x, w, c) => f x w c | _ => none
def lx_r1 (st : List Value) (g : Nat) (f : List Value → Option lx_R) : Option lx_R := match st, g with | .ref 0 :: r, _ + 1 => f r | _, _ => none
def lx_r2 (st : List Value) (g : Nat) (f : Int64 → Nat → List Value → Option lx_R) : Option lx_R := match st, g with | .long x :: .ref 0 :: r, g' + 1 => f x g' r | _, _ => none
def lx : Nat → Nat → List (Nat × List ab_O) → List ab_O → List (Option Value) → List Value → Wd → Nat → Option lx_R
  | 0, _, _, _, _, _, _, _ => none
  | _ + 1, _, _, [], _, _, _, _ => none
  | f + 1, g, bt, (i, _, dt, v) :: os, ls, st, w, c => match i with
    | .nop => lx f g bt (ab_bl bt (ab_d0 dt)) ls st w c
    | .goto _ => lx f g bt (ab_bl bt (ab_d0 dt)) ls st w c
    | .iconst _ => lx f g bt os ls (.int (Int32.ofInt v) :: st) w c
    | .bipush _ => lx f g bt os ls (.int (Int32.ofInt v) :: st) w c
    | .sipush _ => lx f g bt os ls (.int (Int32.ofInt v) :: st) w c
    | .ldc _ => if ab_d1 dt = 1 then none else lx f g bt os ls (.int (Int32.ofInt v) :: st) w c
    | .lconst _ => lx f g bt os ls (.long (Int64.ofInt v) :: st) w c
    | .ldc2_w _ => lx f g bt os ls (.long (Int64.ofInt v) :: st) w c
    | .iload_n _ => lx_gi (ab_lg ls (ab_d0 dt)) fun x => lx f g bt os ls (.int x :: st) w c
    | .iload _ => lx_gi (ab_lg ls (ab_d0 dt)) fun x => lx f g bt os ls (.int x :: st) w c
    | .aload_n _ => lx_gr (ab_lg ls (ab_d0 dt)) fun x => lx f g bt os ls (.ref x :: st) w c
    | .aload _ => lx_gr (ab_lg ls (ab_d0 dt)) fun x => lx f g bt os ls (.ref x :: st) w c
    | .lload_n _ => lx_gl (ab_lg ls (ab_d0 dt)) fun x => lx f g bt os ls (.long x :: st) w c
    | .istore_n _ => lx_i st fun x r => lx f g bt os (ab_ls ls (ab_d0 dt) (.int x)) r w c
    | .istore _ => lx_i st fun x r => lx f g bt os (ab_ls ls (ab_d0 dt) (.int x)) r w c
    | .iinc _ _ => lx_gi (ab_lg ls (ab_d0 dt)) fun x => lx f g bt os (ab_ls ls (ab_d0 dt) (.int (x + Int32.ofInt v))) st w c
    | .iadd => lx_ii st fun x y r => lx f g bt os ls (.int (x + y) :: r) w c
    | .land => lx_ll st fun x y r => lx f g bt os ls (.long (x &&& y) :: r) w c
    | .lshr => lx_il st fun x y r => lx f g bt os ls (.long (x >>> (y.toInt64 &&& 63)) :: r) w c
    | .l2i => lx_l st fun x r => lx f g bt os ls (.int x.toInt32 :: r) w c
    | .if_icmp k _ => lx_ii st fun x y r => if lx_c k x y = true then lx f g bt (ab_bl bt (ab_d0 dt)) ls r w c else lx f g bt os ls r w c
    | .ifCond k _ => lx_i st fun x r => if lx_c k x 0 = true then lx f g bt (ab_bl bt (ab_d0 dt)) ls r w c else lx f g bt os ls r w c
    | .invokevirtual _ => lx_ob (lx_pop (ab_d1 dt - 1) [] st) fun as r => if ab_st1 r = true ∧ ab_d1 dt ≠ 0 ∧ ab_d2 dt = 0 ∧ ab_d8 dt = 7 then lx_an (fc_do (ab_d0 dt) as w) c fun x w' c' => lx f g bt os ls (.int x :: r) w' c' else none
    | .invokestatic _ => if ab_d2 dt = 1 ∧ ab_d0 dt = yn_Law_refused ∧ ab_d1 dt = 1 then lx_r1 st g fun r => if ab_st1 r = true ∧ (st_fi w.1.2.1 (Int32.ofInt 0)).isSome = true then lx f g bt os ls (.int 1 :: r) w c else none
      else if ab_d2 dt = 1 ∧ ab_d0 dt = yn_Law_types ∧ ab_d1 dt = 2 then lx_r2 st g fun x g' r => if ab_st1 r = true then lx_th (lx f g' bt_Law_types (ab_bl bt_Law_types 0) [some (.ref 0), some (.long x), none, none, none, none] [] w c) fun z w' c' => lx f g bt os ls (.int z :: r) w' c' else none
      else none
    | .ireturn => (match st with | [.int x] => if ab_d0 dt = 1 then (if x = 0 ∨ x = 1 then some (x, w, c) else none) else none | _ => none)
    | _ => none
theorem lx_cb {c : Jvm.ClassFile.Cond} {x y : Int32} {A B : Prop} (h1 : lx_c c x y = true → A) (h2 : ¬ lx_c c x y = true → B) : ab_cb c x y A B := by
  cases c <;> simp only [lx_c, Bool.not_eq_true', decide_eq_true_eq, decide_eq_false_iff_not, Classical.not_not] at h1 h2 <;> exact ⟨h1, h2⟩
theorem lx_pop_ok : ∀ {n : Nat} {acc as : List Int32} {st r : List Value} {f : List Value → List Value → Prop}, lx_pop n acc st = some (as, .ref 0 :: r) → f (.ref 0 :: as.map .int) r → ab_pop (n + 1) (acc.map .int) st f
  | 0, acc, as, st, r, f, h, hf => by
    simp only [lx_pop, Option.some.injEq, Prod.mk.injEq] at h
    obtain ⟨rfl, rfl⟩ := h
    exact hf
  | n + 1, acc, as, [], r, f, h, hf => by cases h
  | n + 1, acc, as, v :: st, r, f, h, hf => by
    cases v with
    | int x => exact lx_pop_ok (n := n) (acc := x :: acc) (st := st) h hf
    | long _ => cases h
    | float _ => cases h
    | double _ => cases h
    | ref _ => cases h
    | null => cases h
    | retAddr _ => cases h
theorem ty_Lv {x : Int64} (base : Nat) (lsr : Array Slot) (h : lv_has lsr (ab_ml yn_Law_types) (lv_args 0 ([.ref 0, .long x].map (ab_em base)))) : ab_Lv base (ab_lo yn_Law_types) lsr (ab_ml yn_Law_types) [some (.ref 0), some (.long x), none, none, none, none] := by
  refine ⟨h.1, h.2.1, fun i v hi => ?_⟩
  match i, hi with
  | 0, hi => cases hi; exact ⟨Or.inl rfl, h.2.2 (0, _) List.mem_cons_self⟩
  | 1, hi => cases hi; exact ⟨Or.inr (by decide), h.2.2 (1, _) (List.mem_cons_of_mem _ List.mem_cons_self)⟩
  | 2, hi => cases hi
  | 3, hi => cases hi
  | 4, hi => cases hi
  | 5, hi => cases hi
  | i + 6, hi => simp [ab_lg] at hi
theorem ty_mc : ab_mc yn_Law_types = 0 ∧ ab_ms yn_Law_types = 0 := by decide +kernel
theorem ty_slen {x : Int64} : ∀ base, (lg_sl ([.ref 0, .long x].map (ab_em base))).length ≤ ab_ml yn_Law_types := fun _ => Nat.le_of_ble_eq_true rfl
theorem lx_i_i {st : List Value} {f : Int32 → List Value → Option lx_R} {z : lx_R} (h : lx_i st f = some z) : ∃ x r, st = .int x :: r ∧ f x r = some z := by
  unfold lx_i at h; split at h
  · exact ⟨_, _, rfl, h⟩
  · cases h
theorem lx_ii_i {st : List Value} {f : Int32 → Int32 → List Value → Option lx_R} {z : lx_R} (h : lx_ii st f = some z) : ∃ x y r, st = .int y :: .int x :: r ∧ f x y r = some z := by
  unfold lx_ii at h; split at h
  · exact ⟨_, _, _, rfl, h⟩
  · cases h
theorem lx_l_i {st : List Value} {f : Int64 → List Value → Option lx_R} {z : lx_R} (h : lx_l st f = some z) : ∃ x r, st = .long x :: r ∧ f x r = some z := by
  unfold lx_l at h; split at h
  · exact ⟨_, _, rfl, h⟩
  · cases h
theorem lx_ll_i {st : List Value} {f : Int64 → Int64 → List Value → Option lx_R} {z : lx_R} (h : lx_ll st f = some z) : ∃ x y r, st = .long y :: .long x :: r ∧ f x y r = some z := by
  unfold lx_ll at h; split at h
  · exact ⟨_, _, _, rfl, h⟩
  · cases h
theorem lx_il_i {st : List Value} {f : Int64 → Int32 → List Value → Option lx_R} {z : lx_R} (h : lx_il st f = some z) : ∃ x y r, st = .int y :: .long x :: r ∧ f x y r = some z := by
  unfold lx_il at h; split at h
  · exact ⟨_, _, _, rfl, h⟩
  · cases h
theorem lx_gi_i {v : Option Value} {f : Int32 → Option lx_R} {z : lx_R} (h : lx_gi v f = some z) : ∃ x, v = some (.int x) ∧ f x = some z := by
  unfold lx_gi at h; split at h
  · exact ⟨_, rfl, h⟩
  · cases h
theorem lx_gl_i {v : Option Value} {f : Int64 → Option lx_R} {z : lx_R} (h : lx_gl v f = some z) : ∃ x, v = some (.long x) ∧ f x = some z := by
  unfold lx_gl at h; split at h
  · exact ⟨_, rfl, h⟩
  · cases h
theorem lx_gr_i {v : Option Value} {f : Nat → Option lx_R} {z : lx_R} (h : lx_gr v f = some z) : ∃ x, v = some (.ref x) ∧ f x = some z := by
  unfold lx_gr at h; split at h
  · exact ⟨_, rfl, h⟩
  · cases h
theorem lx_ob_i {q : Option (List Int32 × List Value)} {f : List Int32 → List Value → Option lx_R} {z : lx_R} (h : lx_ob q f = some z) : ∃ as r, q = some (as, .ref 0 :: r) ∧ f as r = some z := by
  unfold lx_ob at h; split at h
  · exact ⟨_, _, rfl, h⟩
  · cases h
theorem lx_an_i {q : Option (Int32 × Wd)} {c : Nat} {f : Int32 → Wd → Nat → Option lx_R} {z : lx_R} (h : lx_an q c f = some z) : ∃ x w c', q = some (x, w) ∧ c = c' + 1 ∧ f x w c' = some z := by
  unfold lx_an at h; split at h
  · exact ⟨_, _, _, rfl, rfl, h⟩
  · cases h
theorem lx_th_i {q : Option lx_R} {f : Int32 → Wd → Nat → Option lx_R} {z : lx_R} (h : lx_th q f = some z) : ∃ x w c, q = some (x, w, c) ∧ f x w c = some z := by
  unfold lx_th at h; split at h
  · exact ⟨_, _, _, rfl, h⟩
  · cases h
theorem lx_r1_i {st : List Value} {g : Nat} {f : List Value → Option lx_R} {z : lx_R} (h : lx_r1 st g f = some z) : ∃ r g', st = .ref 0 :: r ∧ g = g' + 1 ∧ f r = some z := by
  unfold lx_r1 at h; split at h
  · exact ⟨_, _, rfl, rfl, h⟩
  · cases h
theorem lx_r2_i {st : List Value} {g : Nat} {f : Int64 → Nat → List Value → Option lx_R} {z : lx_R} (h : lx_r2 st g f = some z) : ∃ x r g', st = .long x :: .ref 0 :: r ∧ g = g' + 1 ∧ f x g' r = some z := by
  unfold lx_r2 at h; split at h
  · exact ⟨_, _, _, rfl, rfl, h⟩
  · cases h
set_option maxHeartbeats 4000000 in
set_option maxRecDepth 100000 in
theorem lx_ok : ∀ (f g : Nat) (bt : List (Nat × List ab_O)) (os : List ab_O) (ls : List (Option Value)) (st : List Value) (w : Wd) (c : Nat) (z : Int32) (q' : Wd × Nat), lx f g bt os ls st w c = some (z, q') → ∀ {M : Int}, lw_I w M → 0 ≤ M → M + 61 * c ≤ 900000 →
    (∃ M' : Int, lw_I q'.1 M' ∧ 0 ≤ M' ∧ M' + 61 * q'.2 ≤ 900000) ∧ ∀ (d k F : Nat) (h : ab_H) (Q : Option Value → ab_H → Prop), 9 + g ≤ d → f ≤ F → sp_CW h w → (∀ h', sp_CW h' q'.1 → Q (some (.int z)) h') → ab_wp d (ab_rn d k bt [] Q F) Q os 192 0 0 ls st h := by
  intro f
  induction f with
  | zero => intro g bt os ls st w c z q' e; simp only [lx] at e; cases e
  | succ f ih =>
  intro g bt os ls st w c z q' e M I m0 m1
  cases os with
  | nil => simp only [lx] at e; cases e
  | cons o os =>
    obtain ⟨i, len, dt, v⟩ := o
    cases i
    case nop =>
      simp only [lx] at e
      obtain ⟨i1, i2⟩ := ih _ _ _ _ _ _ _ _ _ e I m0 m1
      refine ⟨i1, fun d k F h Q hd hF V hq => ?_⟩
      cases F with
      | zero => omega
      | succ F => exact i2 d k F h Q hd (by omega) V hq
    case goto off =>
      simp only [lx] at e
      obtain ⟨i1, i2⟩ := ih _ _ _ _ _ _ _ _ _ e I m0 m1
      refine ⟨i1, fun d k F h Q hd hF V hq => ?_⟩
      cases F with
      | zero => omega
      | succ F => exact i2 d k F h Q hd (by omega) V hq
    case iconst j =>
      simp only [lx] at e
      obtain ⟨i1, i2⟩ := ih _ _ _ _ _ _ _ _ _ e I m0 m1
      exact ⟨i1, fun d k F h Q hd hF V hq => i2 d k F h Q hd (by omega) V hq⟩
    case bipush j =>
      simp only [lx] at e
      obtain ⟨i1, i2⟩ := ih _ _ _ _ _ _ _ _ _ e I m0 m1
      exact ⟨i1, fun d k F h Q hd hF V hq => i2 d k F h Q hd (by omega) V hq⟩
    case sipush j =>
      simp only [lx] at e
      obtain ⟨i1, i2⟩ := ih _ _ _ _ _ _ _ _ _ e I m0 m1
      exact ⟨i1, fun d k F h Q hd hF V hq => i2 d k F h Q hd (by omega) V hq⟩
    case lconst j =>
      simp only [lx] at e
      obtain ⟨i1, i2⟩ := ih _ _ _ _ _ _ _ _ _ e I m0 m1
      exact ⟨i1, fun d k F h Q hd hF V hq => i2 d k F h Q hd (by omega) V hq⟩
    case ldc2_w j =>
      simp only [lx] at e
      obtain ⟨i1, i2⟩ := ih _ _ _ _ _ _ _ _ _ e I m0 m1
      exact ⟨i1, fun d k F h Q hd hF V hq => i2 d k F h Q hd (by omega) V hq⟩
    case ldc j =>
      simp only [lx] at e
      split at e
      · cases e
      · next hne =>
        obtain ⟨i1, i2⟩ := ih _ _ _ _ _ _ _ _ _ e I m0 m1
        refine ⟨i1, fun d k F h Q hd hF V hq => ?_⟩
        have g2 := i2 d k F h Q hd (by omega) V hq
        simp only [ab_wp, ab_step]
        first
        | exact g2
        | (split
           · next h1 => exact absurd h1 hne
           · exact g2)
    case iload_n j =>
      simp only [lx] at e
      obtain ⟨x, hx, e⟩ := lx_gi_i e
      obtain ⟨i1, i2⟩ := ih _ _ _ _ _ _ _ _ _ e I m0 m1
      refine ⟨i1, fun d k F h Q hd hF V hq => ?_⟩
      have g2 := i2 d k F h Q hd (by omega) V hq
      show ab_oi (ab_lg ls (ab_d0 dt)) _
      rw [hx]
      exact g2
    case iload j =>
      simp only [lx] at e
      obtain ⟨x, hx, e⟩ := lx_gi_i e
      obtain ⟨i1, i2⟩ := ih _ _ _ _ _ _ _ _ _ e I m0 m1
      refine ⟨i1, fun d k F h Q hd hF V hq => ?_⟩
      have g2 := i2 d k F h Q hd (by omega) V hq
      show ab_oi (ab_lg ls (ab_d0 dt)) _
      rw [hx]
      exact g2
    case aload_n j =>
      simp only [lx] at e
      obtain ⟨x, hx, e⟩ := lx_gr_i e
      obtain ⟨i1, i2⟩ := ih _ _ _ _ _ _ _ _ _ e I m0 m1
      refine ⟨i1, fun d k F h Q hd hF V hq => ?_⟩
      have g2 := i2 d k F h Q hd (by omega) V hq
      have g3 : ab_or (ab_lg ls (ab_d0 dt)) (fun u => ab_wp d (ab_rn d k bt [] Q F) Q os 192 0 0 ls (u :: st) h) := by rw [hx]; exact g2
      exact g3
    case aload j =>
      simp only [lx] at e
      obtain ⟨x, hx, e⟩ := lx_gr_i e
      obtain ⟨i1, i2⟩ := ih _ _ _ _ _ _ _ _ _ e I m0 m1
      refine ⟨i1, fun d k F h Q hd hF V hq => ?_⟩
      have g2 := i2 d k F h Q hd (by omega) V hq
      have g3 : ab_or (ab_lg ls (ab_d0 dt)) (fun u => ab_wp d (ab_rn d k bt [] Q F) Q os 192 0 0 ls (u :: st) h) := by rw [hx]; exact g2
      exact g3
    case lload_n j =>
      simp only [lx] at e
      obtain ⟨x, hx, e⟩ := lx_gl_i e
      obtain ⟨i1, i2⟩ := ih _ _ _ _ _ _ _ _ _ e I m0 m1
      refine ⟨i1, fun d k F h Q hd hF V hq => ?_⟩
      have g2 := i2 d k F h Q hd (by omega) V hq
      show ab_ol (ab_lg ls (ab_d0 dt)) _
      rw [hx]
      exact g2
    case iinc j q =>
      simp only [lx] at e
      obtain ⟨x, hx, e⟩ := lx_gi_i e
      obtain ⟨i1, i2⟩ := ih _ _ _ _ _ _ _ _ _ e I m0 m1
      refine ⟨i1, fun d k F h Q hd hF V hq => ?_⟩
      have g2 := i2 d k F h Q hd (by omega) V hq
      show ab_oi (ab_lg ls (ab_d0 dt)) _
      rw [hx]
      exact g2
    case istore_n j =>
      simp only [lx] at e
      obtain ⟨x, r, rfl, e0⟩ := lx_i_i e
      have e := e0
      obtain ⟨i1, i2⟩ := ih _ _ _ _ _ _ _ _ _ e I m0 m1
      exact ⟨i1, fun d k F h Q hd hF V hq => i2 d k F h Q hd (by omega) V hq⟩
    case istore j =>
      simp only [lx] at e
      obtain ⟨x, r, rfl, e0⟩ := lx_i_i e
      have e := e0
      obtain ⟨i1, i2⟩ := ih _ _ _ _ _ _ _ _ _ e I m0 m1
      exact ⟨i1, fun d k F h Q hd hF V hq => i2 d k F h Q hd (by omega) V hq⟩
    case iadd =>
      simp only [lx] at e
      obtain ⟨x, y, r, rfl, e0⟩ := lx_ii_i e
      have e := e0
      obtain ⟨i1, i2⟩ := ih _ _ _ _ _ _ _ _ _ e I m0 m1
      exact ⟨i1, fun d k F h Q hd hF V hq => i2 d k F h Q hd (by omega) V hq⟩
    case land =>
      simp only [lx] at e
      obtain ⟨x, y, r, rfl, e0⟩ := lx_ll_i e
      have e := e0
      obtain ⟨i1, i2⟩ := ih _ _ _ _ _ _ _ _ _ e I m0 m1
      exact ⟨i1, fun d k F h Q hd hF V hq => i2 d k F h Q hd (by omega) V hq⟩
    case lshr =>
      simp only [lx] at e
      obtain ⟨x, y, r, rfl, e0⟩ := lx_il_i e
      have e := e0
      obtain ⟨i1, i2⟩ := ih _ _ _ _ _ _ _ _ _ e I m0 m1
      exact ⟨i1, fun d k F h Q hd hF V hq => i2 d k F h Q hd (by omega) V hq⟩
    case l2i =>
      simp only [lx] at e
      obtain ⟨x, r, rfl, e0⟩ := lx_l_i e
      have e := e0
      obtain ⟨i1, i2⟩ := ih _ _ _ _ _ _ _ _ _ e I m0 m1
      exact ⟨i1, fun d k F h Q hd hF V hq => i2 d k F h Q hd (by omega) V hq⟩
    case if_icmp q off =>
      simp only [lx] at e
      obtain ⟨x, y, r, rfl, e0⟩ := lx_ii_i e
      have e := e0
      split at e
      · next hc =>
        obtain ⟨i1, i2⟩ := ih _ _ _ _ _ _ _ _ _ e I m0 m1
        refine ⟨i1, fun d k F h Q hd hF V hq => ?_⟩
        cases F with
        | zero => omega
        | succ F => exact lx_cb (fun _ => i2 d k F h Q hd (by omega) V hq) (fun h9 => absurd hc h9)
      · next hc =>
        obtain ⟨i1, i2⟩ := ih _ _ _ _ _ _ _ _ _ e I m0 m1
        exact ⟨i1, fun d k F h Q hd hF V hq => lx_cb (fun h9 => absurd h9 hc) (fun _ => i2 d k F h Q hd (by omega) V hq)⟩
    case ifCond q off =>
      simp only [lx] at e
      obtain ⟨x, r, rfl, e0⟩ := lx_i_i e
      have e := e0
      split at e
      · next hc =>
        obtain ⟨i1, i2⟩ := ih _ _ _ _ _ _ _ _ _ e I m0 m1
        refine ⟨i1, fun d k F h Q hd hF V hq => ?_⟩
        cases F with
        | zero => omega
        | succ F => exact lx_cb (fun _ => i2 d k F h Q hd (by omega) V hq) (fun h9 => absurd hc h9)
      · next hc =>
        obtain ⟨i1, i2⟩ := ih _ _ _ _ _ _ _ _ _ e I m0 m1
        exact ⟨i1, fun d k F h Q hd hF V hq => lx_cb (fun h9 => absurd h9 hc) (fun _ => i2 d k F h Q hd (by omega) V hq)⟩
    case invokevirtual j =>
      simp only [lx] at e
      obtain ⟨as, r, hp, e0⟩ := lx_ob_i e
      have e := e0
      split at e
      · next hs =>
        obtain ⟨s1, s2, s3, s4⟩ := hs
        obtain ⟨x, w1, c1, hf, rfl, e7⟩ := lx_an_i e
        have e := e7
        have I1 : lw_I w1 (M + 61) := fc_I I m0 (by omega) hf
        obtain ⟨i1, i2⟩ := ih _ _ _ _ _ _ _ _ _ e I1 (by omega) (by omega)
        refine ⟨i1, fun d k F h Q hd hF V hq => ?_⟩
        show ab_call d dt 192 0 0 ls st h (ab_wp d (ab_rn d k bt [] Q F) Q os)
        unfold ab_call
        rw [s3]
        show ab_pop (ab_d1 dt) [] st _
        rw [show ab_d1 dt = (ab_d1 dt - 1) + 1 by omega]
        refine lx_pop_ok (acc := []) hp ⟨by omega, s1, ?_, ?_⟩
        · rw [s4]; exact ⟨by omega, hh_0⟩
        · exact ab_C.up (fc_ok V I m0 (by omega) hf (fun h1 V1 => i2 d k F h1 Q hd (by omega) V1 hq)) (by omega)
      · cases e
    case invokestatic j =>
      simp only [lx] at e
      split at e
      · next hs =>
        obtain ⟨s1, s2, s3⟩ := hs
        obtain ⟨r, g', rfl, rfl, e0⟩ := lx_r1_i e
        have e := e0
        split at e
        · next hs2 =>
          obtain ⟨i1, i2⟩ := ih _ _ _ _ _ _ _ _ _ e I m0 m1
          refine ⟨i1, fun d k F h Q hd hF V hq => ?_⟩
          show ab_call d dt 192 0 0 ls (.ref 0 :: r) h (ab_wp d (ab_rn d k bt [] Q F) Q os)
          unfold ab_call
          rw [s1]
          show ab_pop (ab_d1 dt) [] (.ref 0 :: r) _
          rw [s3]
          refine ⟨by omega, hs2.1, ?_⟩
          rw [s2]
          exact ab_C.up (sp_Law_refused V I m0 (by omega) hs2.2 (fun h1 V1 => i2 d k F h1 Q hd (by omega) V1 hq)) (by omega)
        · cases e
      · split at e
        · next hs =>
          obtain ⟨s1, s2, s3⟩ := hs
          obtain ⟨x, r, g', rfl, rfl, e0⟩ := lx_r2_i e
          have e := e0
          split at e
          · next hs2 =>
            obtain ⟨y, w1, c1, e1, e0⟩ := lx_th_i e
            have e := e0
            obtain ⟨⟨M1, I1, m2, m3⟩, j2⟩ := ih _ _ _ _ _ _ _ _ _ e1 I m0 m1
            obtain ⟨i1, i2⟩ := ih _ _ _ _ _ _ _ _ _ e I1 m2 m3
            refine ⟨i1, fun d k F h Q hd hF V hq => ?_⟩
            show ab_call d dt 192 0 0 ls (.long x :: .ref 0 :: r) h (ab_wp d (ab_rn d k bt [] Q F) Q os)
            unfold ab_call
            rw [s1]
            show ab_pop (ab_d1 dt) [] (.long x :: .ref 0 :: r) _
            rw [s3]
            refine ⟨by omega, hs2, ?_⟩
            rw [s2]
            refine ab_ofL (by decide) ty_slen ty_Lv ?_
            rw [ty_mc.1, ty_mc.2]
            exact ab_go [] f bo_Law_types (j2 (d - 1) yn_Law_types f h _ (by omega) (Nat.le_refl _) V (fun h1 V1 => i2 d k F h1 Q hd (by omega) V1 hq))
          · cases e
        · cases e
    case ireturn =>
      simp only [lx] at e
      split at e
      · next x =>
        split at e
        · next hd1 =>
          split at e
          · next hx =>
            have e2 := Option.some.inj e
            simp only [Prod.mk.injEq] at e2
            obtain ⟨rfl, rfl⟩ := e2
            refine ⟨⟨M, I, m0, m1⟩, fun d k F h Q hd hF V hq => ?_⟩
            simp only [ab_wp, ab_step, hd1]
            exact ⟨trivial, hx, hq h V⟩
          · cases e
        · cases e
      · cases e
    all_goals (simp only [lx] at e; cases e)
