/-! ===== THE ABSTRACT MACHINE: a heap of 192 cells at fixed numbers, and some cells more behind them; a weakest precondition of bytecode over it ===== -/
abbrev ab_H : Type := (Nat → Nat → Int32) × (Nat → Nat → Nat)
def ab_nul : Nat := 1000000
def ab_em (base : Nat) (v : Value) : Value := match v with
  | .ref k => .ref (base + k)
  | v => v
def ab_fv (base : Nat) (h : ab_H) (k ci f : Nat) : Value := if ab_fk ci f = 1 then (if h.2 k f = ab_nul then .null else .ref (base + h.2 k f)) else .int (h.1 k f)
def ab_ob (base : Nat) (h : ab_H) (k ci : Nat) : List Value := (List.range (ab_nf ci)).map (ab_fv base h k ci)
def ab_ce (cA : ClassId) (base : Nat) (h : ab_H) (k : Nat) : va_E := if 100 ≤ ab_sh k then .inl (cA, ab_sh k - 100, .inl (h.1 k)) else .inr (ab_sh k, ab_ob base h k (ab_sh k))
theorem ab_shl_len : ab_shl.length = 192 := by decide +kernel
theorem ab_sh_lt {b : Nat} (h : ab_sh b ≠ 9999) : b < 192 := by
  rcases Nat.lt_or_ge b 192 with g | g
  · exact g
  · exact absurd (by unfold ab_sh; rw [List.getD_eq_getElem?_getD, List.getElem?_eq_none (by rw [ab_shl_len]; exact g)]; rfl) h
/-- the cells 0 to n - 1 of the world, and x cells behind them of which nothing is said -/
def ab_Wd (D : va_G) (cA : ClassId) (base n x : Nat) (h : ab_H) (H : Heap) : Prop := (n ≤ 192 ∧ H.size = base + n + x) ∧ ∀ k, k < n → va_at D vwCl (base + k, ab_ce cA base h k) H
/-- the addresses of a world -/
def ab_A (base : Nat) : Nat → Prop := fun q => base ≤ q ∧ q < base + 192
-- words
def ab_isN (w : Jvm.Cond) : Bool := match w with
  | .fieldLinkNest _ _ _ _ _ _ => true
  | .methodLinkNest _ _ _ _ => true
  | _ => false
def ab_nw : List Jvm.Cond := lw_tbl.filter ab_isN
def ab_w (pos : Nat) (w : Jvm.Cond) : Bool := decide (lw_tbl[pos]? = some w) && goodWord w
def ab_wn (pos : Nat) (w : Jvm.Cond) : Bool := decide (lw_tbl[pos]? = some w) && ab_isN w
theorem ab_w_in {pos : Nat} {w : Jvm.Cond} (h : ab_w pos w = true) : w ∈ ab_Tg := by
  simp only [ab_w, Bool.and_eq_true, decide_eq_true_eq] at h
  exact List.mem_filter.mpr ⟨List.mem_of_getElem? h.1, h.2⟩
theorem ab_wn_in {pos : Nat} {w : Jvm.Cond} (h : ab_wn pos w = true) : w ∈ ab_nw := by
  simp only [ab_wn, Bool.and_eq_true, decide_eq_true_eq] at h
  exact List.mem_filter.mpr ⟨List.mem_of_getElem? h.1, h.2⟩
theorem ab_nw_tab {w : Jvm.Cond} (hw : w ∈ ab_nw) : w.onTables = true := by
  have h := (List.mem_filter.mp hw).2
  cases w <;> first | rfl | cases h
theorem ab_nw_warm {s U : State} (hW : s.WarmedH U.vm) {w : Jvm.Cond} (hw : w ∈ ab_nw) (hZ : va_Nw w s) : va_Nw w U := by
  have h := (List.mem_filter.mp hw).2
  cases w <;> first | exact va_Nw.warmF hW hZ | exact va_Nw.warmM hW hZ | cases h
theorem ab_good {c : Jvm.Cond} (hc : c ∈ ab_Tg) : GoodIn ab_Tg (c :: ab_Tg) := by
  intro w hw
  have h1 : w ∈ ab_Tg := by
    rcases List.mem_cons.mp hw with rfl | h
    · exact hc
    · exact h
  exact ⟨h1, good_of_word (List.mem_filter.mp h1).2⟩
-- locals
def ab_lg : List (Option Value) → Nat → Option Value
  | [], _ => none
  | v :: _, 0 => v
  | _ :: t, n + 1 => ab_lg t n
def ab_ls : List (Option Value) → Nat → Value → List (Option Value)
  | [], _, _ => []
  | _ :: t, 0, v => some v :: t
  | a :: t, n + 1, v => a :: ab_ls t n v
def ab_lp (base : Nat) : List (Option Value) → Nat → List (Nat × Value)
  | [], _ => []
  | some v :: t, i => (i, ab_em base v) :: ab_lp base t (i + 1)
  | none :: t, i => ab_lp base t (i + 1)
def ab_c1 (ls : List (Option Value)) : Prop := ∀ i v, ab_lg ls i = some v → v.category = 1
def ab_Lv (base : Nat) (lo : List Nat) (lsr : Array Slot) (nL : Nat) (ls : List (Option Value)) : Prop := lsr.size = nL ∧ lv_wf lsr ∧ ∀ i v, ab_lg ls i = some v → (v.category = 1 ∨ i ∈ lo) ∧ lsr[i]? = some (.val (ab_em base v))
def ab_ln : List (Option Value) → Nat → List (Option Value)
  | [], _ => []
  | _ :: t, 0 => none :: t
  | a :: t, n + 1 => a :: ab_ln t n
theorem ab_em_cat {base : Nat} {v : Value} : (ab_em base v).category = v.category := by cases v <;> rfl
theorem ab_lp_mem {base : Nat} : ∀ {ls : List (Option Value)} {i j : Nat} {w : Value}, (j, w) ∈ ab_lp base ls i ↔ ∃ v, i ≤ j ∧ ab_lg ls (j - i) = some v ∧ w = ab_em base v
  | [], i, j, w => by simp [ab_lp, ab_lg]
  | none :: t, i, j, w => by
    rw [ab_lp, ab_lp_mem]
    constructor
    · rintro ⟨v, h1, h2, h3⟩
      refine ⟨v, by omega, ?_, h3⟩
      rw [show j - i = (j - (i + 1)) + 1 by omega]; exact h2
    · rintro ⟨v, h1, h2, h3⟩
      rcases Nat.eq_or_lt_of_le h1 with rfl | h
      · rw [Nat.sub_self] at h2; cases h2
      · refine ⟨v, h, ?_, h3⟩
        rw [show j - i = (j - (i + 1)) + 1 by omega] at h2; exact h2
  | some x :: t, i, j, w => by
    rw [ab_lp, List.mem_cons, ab_lp_mem]
    constructor
    · rintro (h | ⟨v, h1, h2, h3⟩)
      · cases h
        exact ⟨x, Nat.le_refl _, by rw [Nat.sub_self]; rfl, rfl⟩
      · refine ⟨v, by omega, ?_, h3⟩
        rw [show j - i = (j - (i + 1)) + 1 by omega]; exact h2
    · rintro ⟨v, h1, h2, h3⟩
      rcases Nat.eq_or_lt_of_le h1 with rfl | h
      · rw [Nat.sub_self] at h2
        cases h2
        exact Or.inl (by rw [h3])
      · refine Or.inr ⟨v, h, ?_, h3⟩
        rw [show j - i = (j - (i + 1)) + 1 by omega] at h2; exact h2
theorem ab_Lv.has {base : Nat} {lo : List Nat} {lsr : Array Slot} {nL : Nat} {ls : List (Option Value)} (h : ab_Lv base lo lsr nL ls) : lv_has lsr nL (ab_lp base ls 0) := by
  refine ⟨h.1, h.2.1, fun q hq => ?_⟩
  obtain ⟨v, -, h2, h3⟩ := (ab_lp_mem (j := q.1) (w := q.2)).mp hq
  rw [h3]
  exact (h.2.2 _ _ h2).2
theorem ab_lg_ls : ∀ {ls : List (Option Value)} {i j : Nat} {v w : Value}, ab_lg (ab_ls ls i v) j = some w → (j = i ∧ w = v) ∨ (j ≠ i ∧ ab_lg ls j = some w)
  | [], i, j, v, w, h => by simp [ab_ls, ab_lg] at h
  | a :: t, 0, 0, v, w, h => by simp [ab_ls, ab_lg] at h; exact Or.inl ⟨rfl, h.symm⟩
  | a :: t, 0, j + 1, v, w, h => Or.inr ⟨by omega, h⟩
  | a :: t, i + 1, 0, v, w, h => Or.inr ⟨by omega, h⟩
  | a :: t, i + 1, j + 1, v, w, h => by
    rcases ab_lg_ls (ls := t) (i := i) (j := j) h with ⟨h1, h2⟩ | ⟨h1, h2⟩
    · exact Or.inl ⟨by omega, h2⟩
    · exact Or.inr ⟨by omega, h2⟩
theorem ab_Lv.set {base : Nat} {lo : List Nat} {lsr lsr' : Array Slot} {nL i : Nat} {ls : List (Option Value)} {v : Value} (h : ab_Lv base lo lsr nL ls) (hc : v.category = 1) (hn : ∀ j, j + 1 = i → j ∉ lo)
    (h' : lv_has lsr' nL ((i, ab_em base v) :: (ab_lp base ls 0).filter (fun q => !(q.1 == i) && !(q.1 + 1 == i && q.2.category == 2)))) : ab_Lv base lo lsr' nL (ab_ls ls i v) := by
  refine ⟨h'.1, h'.2.1, fun j w hj => ?_⟩
  rcases ab_lg_ls hj with ⟨rfl, rfl⟩ | ⟨h1, h2⟩
  · exact ⟨Or.inl hc, h'.2.2 (j, ab_em base w) List.mem_cons_self⟩
  · have hw := (h.2.2 j w h2).1
    refine ⟨hw, h'.2.2 (j, ab_em base w) (List.mem_cons_of_mem _ (List.mem_filter.mpr ⟨(ab_lp_mem (j := j)).mpr ⟨w, Nat.zero_le _, h2, rfl⟩, ?_⟩))⟩
    by_cases hz : j + 1 = i
    · have hc2 : (ab_em base w).category = 1 := by rw [ab_em_cat]; exact hw.resolve_right (hn j hz)
      simp [h1, hc2]
    · simp [h1, hz]
theorem ab_lg_ln : ∀ {ls : List (Option Value)} {i j : Nat} {w : Value}, ab_lg (ab_ln ls i) j = some w → j ≠ i ∧ ab_lg ls j = some w
  | [], i, j, w, h => by simp [ab_ln, ab_lg] at h
  | a :: t, 0, 0, w, h => by simp [ab_ln, ab_lg] at h
  | a :: t, 0, j + 1, w, h => ⟨by omega, h⟩
  | a :: t, i + 1, 0, w, h => ⟨by omega, h⟩
  | a :: t, i + 1, j + 1, w, h => by
    obtain ⟨h1, h2⟩ := ab_lg_ln (ls := t) (i := i) (j := j) h
    exact ⟨by omega, h2⟩
theorem ab_Lv.setl {base : Nat} {lo : List Nat} {lsr lsr' : Array Slot} {nL i : Nat} {ls : List (Option Value)} {x : Int64} (h : ab_Lv base lo lsr nL ls) (hc : i ∈ lo) (hn : ∀ j, j + 1 = i → j ∉ lo)
    (h' : lv_has lsr' nL ((i, .long x) :: (ab_lp base ls 0).filter (fun q => !(q.1 == i) && (!(q.1 == i + 1) && !(q.1 + 1 == i && q.2.category == 2))))) : ab_Lv base lo lsr' nL (ab_ls (ab_ln ls (i + 1)) i (.long x)) := by
  refine ⟨h'.1, h'.2.1, fun j w hj => ?_⟩
  rcases ab_lg_ls hj with ⟨rfl, rfl⟩ | ⟨h1, h0⟩
  · exact ⟨Or.inr hc, h'.2.2 (j, .long x) List.mem_cons_self⟩
  · obtain ⟨h3, h2⟩ := ab_lg_ln h0
    have hw := (h.2.2 j w h2).1
    refine ⟨hw, h'.2.2 (j, ab_em base w) (List.mem_cons_of_mem _ (List.mem_filter.mpr ⟨(ab_lp_mem (j := j)).mpr ⟨w, Nat.zero_le _, h2, rfl⟩, ?_⟩))⟩
    by_cases hz : j + 1 = i
    · have hc2 : (ab_em base w).category = 1 := by rw [ab_em_cat]; exact hw.resolve_right (hn j hz)
      simp [h1, h3, hc2]
    · simp [h1, h3, hz]
-- heap writes
def ab_hi (h : ab_H) (k i : Nat) (v : Int32) : ab_H := (fun a j => if a = k ∧ j = i then v else h.1 a j, h.2)
def ab_hr (h : ab_H) (k i r : Nat) : ab_H := (h.1, fun a j => if a = k ∧ j = i then r else h.2 a j)
def ab_hn (h : ab_H) (k : Nat) : ab_H := (fun a j => if a = k then 0 else h.1 a j, fun a j => if a = k then ab_nul else h.2 a j)
-- contexts
def ab_Cx (d k : Nat) (p : Program) (R : Room) (s : State) (m : MethodId) (args : Array Value) (meth : Method) (c : Code) (D : va_G) (cA : ClassId) (base mcT msT : Nat) : Prop :=
  p.tables.exec = Jvm.exec ∧ c.code = ab_cod k ∧ meth.sig.returnType = ab_rt k ∧ c.maxLocals = ab_ml k ∧ s.vm.findClass (ab_yn k).cls = some m.cls ∧ (∀ w ∈ ab_Tg, w.before args s = true) ∧ (∀ w ∈ ab_nw, va_Nw w s) ∧
  meth.locks = false ∧ meth.name = (ab_yn k).name ∧ va_K D vwCl [(cA, .int)] s ∧ True ∧ d ≤ R.frames ∧ 40 * d ≤ R.locals ∧ mcT ≤ R.cells ∧ msT ≤ R.slots
def ab_rI (k pc : Nat) (r : Option Value) : Prop := match r with
  | none => decode (ab_cod k) pc = .ok (.return_, 1) ∧ ab_rt k = none
  | some (.int v) => decode (ab_cod k) pc = .ok (.ireturn, 1) ∧ ∃ ty, ab_rt k = some ty ∧ narrow ty (.int v) = .int v
  | some (.long _) => decode (ab_cod k) pc = .ok (.lreturn, 1) ∧ ab_rt k = some .long
  | some v => decode (ab_cod k) pc = .ok (.areturn, 1) ∧ (∃ C, ab_rt k = some (.object C)) ∧ (v = .null ∨ ∃ a, v = .ref a)
def ab_S (base : Nat) (H0 H : Heap) (locs : List Loc) : Prop := va_S (ab_A base) H0 H locs
def ab_W (d k pc n bc bs : Nat) (ls : List (Option Value)) (st : List Value) (h : ab_H) (Q : Option Value → ab_H → Prop) : Prop :=
  ∀ (p : Program) (l : Launch) (e : Env) (R : Room) (s : State) (m : MethodId) (args : Array Value) (below : List Frame) (meth : Method) (c : Code) (D : va_G) (cA : ClassId) (base mcT msT : Nat) (H : Heap) (locs : List Loc) (cells slots xx : Nat) (Z : State → Prop) (lsr : Array Slot),
    ab_Cx d k p R s m args meth c D cA base mcT msT → (bc ≠ 0 → xx = 0) → cells + bc ≤ mcT → slots + bs ≤ msT → ab_Wd D cA base n xx h H → ab_S base s.heap H locs → ab_Lv base (ab_lo k) lsr (ab_ml k) ls →
    (∀ (r : Option Value) (h' : ab_H) (H' : Heap) (locs' : List Loc) (cells' slots' pc' : Nat) (ls' : Array Slot), Q r h' → ab_Wd D cA base (n + bc) xx h' H' → ab_S base s.heap H' locs' → cells' ≤ mcT → slots' ≤ msT → ab_rI k pc' r →
      W p l e R s m args below meth c H' locs' cells' slots' Z (F0 m pc' ls' (r.toList.map (ab_em base)))) →
    W p l e R s m args below meth c H locs cells slots Z (F0 m pc lsr (st.map (ab_em base)))
def ab_C (d y n : Nat) (as : List Value) (h : ab_H) (Q : Option Value → ab_H → Prop) : Prop :=
  ∀ (d' : Nat), d ≤ d' → ∀ (l : Launch) (D : va_G) (cA : ClassId) (base xx : Nat), (ab_mc y ≠ 0 → xx = 0) →
    Met l (ab_yn y) (.code (ab_yn y) (ab_cod y) (ab_ml y) (ab_rt y) :: ab_Tg) { frames := d', cells := ab_mc y, slots := ab_ms y, locals := 40 * d' }
      (fun a U => a = (as.map (ab_em base)).toArray ∧ base ≤ U.heap.size ∧ ab_Wd D cA base n xx h U.heap ∧ va_K D vwCl [(cA, .int)] U ∧ ∀ w ∈ ab_nw, va_Nw w U)
      (fun _ st o t => ∃ (r : Option Value) (h' : ab_H), o = .returned (r.map (ab_em base)) ∧ Q r h' ∧ ab_Wd D cA base (n + ab_mc y) xx h' t.heap ∧ ∀ q, q < st.heap.size → (q < base ∨ base + 192 ≤ q) → t.heap[q]? = st.heap[q]?)
      (ab_mc y) (ab_ms y) (ab_A base)
theorem ab_C.up {d d2 y n : Nat} {as : List Value} {h : ab_H} {Q : Option Value → ab_H → Prop} (hC : ab_C d y n as h Q) (hd : d ≤ d2) : ab_C d2 y n as h Q := fun d' h' => hC d' (Nat.le_trans hd h')
