/-! ===== FairBooks$State: the state, where a leaf is ===== -/
abbrev St : Type := Nm × (Nat → Bk) × (Nat → Int) × Int × Int
def sp_St (I : Nat → Nat → Int32) (a : Nat) (s : St) : Prop :=
  sp_Nm I (a + 1) s.1 ∧ (∀ c, c < 4 → sp_Bk I (a + 4 + 5 * c) (Int32.ofInt c) (s.2.1 c)) ∧ (∀ c, c < 4 → I (a + 24) c = Int32.ofInt (s.2.2.1 c)) ∧ I a 6 = Int32.ofInt s.2.2.2.1 ∧ I a 7 = Int32.ofInt s.2.2.2.2
theorem sp_St.frame {I I' : Nat → Nat → Int32} {a : Nat} {s : St} (h : sp_St I a s) (e : ∀ k, a ≤ k → k < a + 25 → I' k = I k) : sp_St I' a s := by
  obtain ⟨h1, h2, h3, h4, h5⟩ := h
  refine ⟨h1.frame (fun k k1 k2 => e k (by omega) (by omega)), fun c hc => (h2 c hc).frame (fun k k1 k2 => e k (by omega) (by omega)), fun c hc => ?_, ?_, ?_⟩
  · rw [e (a + 24) (by omega) (by omega)]; exact h3 c hc
  · rw [e a (by omega) (by omega)]; exact h4
  · rw [e a (by omega) (by omega)]; exact h5
theorem sp_bks {a c : Nat} (ha : a ∈ ab_states) (hc : c < 4) : a + 4 + 5 * c ∈ ab_books ∧ a + 4 + 5 * c ≠ 181 ∧ a + 4 + 5 * c ≠ 186 := by
  have key : ∀ a ∈ ab_states, ∀ c, c < 4 → (a + 4 + 5 * c ∈ ab_books ∧ a + 4 + 5 * c ≠ 181 ∧ a + 4 + 5 * c ≠ 186) := by decide +kernel
  exact key a ha c hc
theorem st_apart : ∀ a ∈ ab_states, ∀ b ∈ ab_states, a ≠ b → a + 25 ≤ b ∨ b + 25 ≤ a := by decide +kernel
/-- the first place of a leaf's number in a book -/
def bk_fa (L : Bk) (x : Int32) : Nat → Option Nat
  | 0 => none
  | k + 1 => match bk_fa L x k with
    | some p => some p
    | none => if lf_num (lf_at L k) = x then some k else none
def bk_fi (L : Bk) (x : Int32) : Option Nat := bk_fa L x L.length
theorem bk_fa_some {L : Bk} {x : Int32} : ∀ {k p : Nat}, bk_fa L x k = some p → p < k ∧ lf_num (lf_at L p) = x ∧ ∀ j, j < p → lf_num (lf_at L j) ≠ x
  | 0, p, h => by cases h
  | k + 1, p, h => by
    rw [bk_fa] at h
    have none_all : ∀ k, bk_fa L x k = none → ∀ j, j < k → lf_num (lf_at L j) ≠ x := by
      intro k
      induction k with
      | zero => intro _ j hj; omega
      | succ k ih =>
        intro hk j hj
        rw [bk_fa] at hk
        cases e : bk_fa L x k with
        | some q => rw [e] at hk; cases hk
        | none =>
          rw [e] at hk
          rcases Nat.lt_succ_iff_lt_or_eq.mp hj with g | rfl
          · exact ih e j g
          · intro c; simp only [c, if_true] at hk; cases hk
    cases e : bk_fa L x k with
    | some q =>
      rw [e] at h
      cases h
      obtain ⟨h1, h2⟩ := bk_fa_some e
      exact ⟨by omega, h2⟩
    | none =>
      rw [e] at h
      by_cases c : lf_num (lf_at L k) = x
      · simp only [c, if_true] at h
        cases h
        exact ⟨by omega, c, none_all k e⟩
      · simp only [c, if_false] at h; cases h
theorem bk_fa_none {L : Bk} {x : Int32} : ∀ {k : Nat}, (∀ j, j < k → lf_num (lf_at L j) ≠ x) → bk_fa L x k = none
  | 0, _ => rfl
  | k + 1, h => by
    rw [bk_fa, bk_fa_none (k := k) (fun j hj => h j (by omega))]
    simp only [h k (by omega), if_false]
theorem bk_fa_first {L : Bk} {x : Int32} {k p : Nat} (hp : p < k) (h1 : lf_num (lf_at L p) = x) (h2 : ∀ j, j < p → lf_num (lf_at L j) ≠ x) : bk_fa L x k = some p := by
  induction k with
  | zero => omega
  | succ k ih =>
    rw [bk_fa]
    rcases Nat.lt_succ_iff_lt_or_eq.mp hp with g | rfl
    · rw [ih g]
    · rw [bk_fa_none h2]; simp only [h1, if_true]
def bk_fz (L : Bk) (x : Int32) : Int := match bk_fi L x with | some p => p | none => -1
theorem sp_Book_findz {b : Nat} {own x : Int32} {L : Bk} {h : ab_H} {Q : Option Value → ab_H → Prop} (hF : sp_F h) (hb : b ∈ ab_books) (hB : sp_Bk h.1 b own L)
    (hq : Q (some (.int (Int32.ofInt (bk_fz L x)))) h) : ab_C 0 yn_Book_find 192 [.ref b, .int x] h Q := by
  refine sp_Book_find hF hb hB (fun p hp h1 h2 => ?_) (fun h1 => ?_)
  · have e : bk_fz L x = p := by unfold bk_fz bk_fi; rw [bk_fa_first hp h1 h2]
    rw [e] at hq; exact hq
  · have e : bk_fz L x = -1 := by unfold bk_fz bk_fi; rw [bk_fa_none h1]
    rw [e] at hq; exact hq
/-- whose book a leaf is in, and its place -/
def st_fi (B : Nat → Bk) (x : Int32) : Option (Nat × Nat) :=
  match bk_fi (B 0) x with
  | some p => some (0, p)
  | none => match bk_fi (B 1) x with
    | some p => some (1, p)
    | none => match bk_fi (B 2) x with
      | some p => some (2, p)
      | none => match bk_fi (B 3) x with
        | some p => some (3, p)
        | none => none
theorem st_fi_some {B : Nat → Bk} {x : Int32} {c p : Nat} (h : st_fi B x = some (c, p)) : c < 4 ∧ bk_fi (B c) x = some p ∧ p < (B c).length := by
  unfold st_fi at h
  have key : ∀ c p, bk_fi (B c) x = some p → p < (B c).length := fun c p e => (bk_fa_some e).1
  split at h
  · cases h; exact ⟨by omega, by assumption, key _ _ (by assumption)⟩
  · split at h
    · cases h; exact ⟨by omega, by assumption, key _ _ (by assumption)⟩
    · split at h
      · cases h; exact ⟨by omega, by assumption, key _ _ (by assumption)⟩
      · split at h
        · cases h; exact ⟨by omega, by assumption, key _ _ (by assumption)⟩
        · cases h
set_option maxRecDepth 100000 in
set_option maxHeartbeats 4000000 in
theorem sp_State_bookOf {a c : Nat} {h : ab_H} {Q : Option Value → ab_H → Prop} (hF : sp_F h) (ha : a ∈ ab_states) (hc : c < 4)
    (hq : Q (some (.ref (a + 4 + 5 * c))) h) : ab_C 0 yn_State_bookOf 192 [.ref a, .int (Int32.ofInt c)] h Q := by
  refine ab_of ⟨Nat.le_of_ble_eq_true rfl, Nat.le_of_ble_eq_true rfl⟩ (by simp [Value.category]) (Nat.le_of_ble_eq_true rfl) ?_
  show ab_W 0 yn_State_bookOf 0 192 0 0 [some (.ref a), some (.int (Int32.ofInt c))] [] h Q
  obtain ⟨r0, r1, r2, r3, r4, r5, s0, s1, hl, -⟩ := sp_S hF ha
  refine ab_go [] 9 bo_State_bookOf ?_
  match c, hc, hq with
  | 0, _, hq =>
    simp (disch := omega) only [↓ev_rn, ↓ev_aload_0, ↓ev_aload_0N, ↓ev_areturn, ↓ev_areturnN, ↓ev_getfield_1, ↓ev_iload_1, ↓ev_nop, ↓ev_tableswitch, bq_State_bookOf_0, bk_State_bookOf_0, bq_State_bookOf_28, bk_State_bookOf_28, bq_State_bookOf_33, bk_State_bookOf_33, bq_State_bookOf_38, bk_State_bookOf_38, bq_State_bookOf_43, bk_State_bookOf_43, ↓reduceIte, false_and, and_false, List.not_mem_nil, List.mem_cons, or_false, or_true, true_or, false_or, Nat.reduceEqDiff, ab_ac, ab_ar, Nat.reduceSub, Nat.reduceLeDiff, Nat.reduceAdd, Nat.reduceLT, Int.cast_ofNat_Int, Int.ofNat_toNat, Int.toNat_natCast, ii_0, ii_1, ii_add, ii_sub, ii_mul, ii_neg, ii_lt, ii_le, ii_eq, ii_cl, ii_in, dc_lt_t, dc_lt_f, dc_le_t, dc_le_f, dc_eq_t, dc_eq_f, dn_lt_t, dn_le_t, dn_eq_t, dn_eq_f, hi_1, hi_2, and_self, Option.isSome_none, Option.isSome_some, Bool.false_eq_true, ii_s, ii_m, ii_mn, ii_2, st1_, st1_i, st1_r, st1_ii, st1_ir, st1_ri, st1_rr, st1_iii, st1_iir, st1_iri, st1_irr, st1_rii, st1_rir, st1_rri, st1_rrr, st1_iiii, st1_iiir, st1_iiri, st1_iirr, st1_irii, st1_irir, st1_irri, st1_irrr, st1_riii, st1_riir, st1_riri, st1_rirr, st1_rrii, st1_rrir, st1_rrri, st1_rrrr, st1_iiiii, st1_iiiir, st1_iiiri, st1_iiirr, st1_iirii, st1_iirir, st1_iirri, st1_iirrr, st1_iriii, st1_iriir, st1_iriri, st1_irirr, st1_irrii, st1_irrir, st1_irrri, st1_irrrr, st1_riiii, st1_riiir, st1_riiri, st1_riirr, st1_ririi, st1_ririr, st1_rirri, st1_rirrr, st1_rriii, st1_rriir, st1_rriri, st1_rrirr, st1_rrrii, st1_rrrir, st1_rrrri, st1_rrrrr, Option.toList_some, Option.toList_none, List.cons_append, List.nil_append, true_and, and_true, true_implies, false_implies, not_true_eq_false, not_false_eq_true, implies_true, eq_self, r1, r2, r3, r4, s0, ii_toInt, ab_sw, Int.reduceAdd, Int.reduceNeg, Int.reduceLT, Int.reduceEq, Int.reduceLE, zn_0, zn_1, zn_2, zn_3]
    exact hq
  | 1, _, hq =>
    simp (disch := omega) only [↓ev_rn, ↓ev_aload_0, ↓ev_aload_0N, ↓ev_areturn, ↓ev_areturnN, ↓ev_getfield_1, ↓ev_iload_1, ↓ev_nop, ↓ev_tableswitch, bq_State_bookOf_0, bk_State_bookOf_0, bq_State_bookOf_28, bk_State_bookOf_28, bq_State_bookOf_33, bk_State_bookOf_33, bq_State_bookOf_38, bk_State_bookOf_38, bq_State_bookOf_43, bk_State_bookOf_43, ↓reduceIte, false_and, and_false, List.not_mem_nil, List.mem_cons, or_false, or_true, true_or, false_or, Nat.reduceEqDiff, ab_ac, ab_ar, Nat.reduceSub, Nat.reduceLeDiff, Nat.reduceAdd, Nat.reduceLT, Int.cast_ofNat_Int, Int.ofNat_toNat, Int.toNat_natCast, ii_0, ii_1, ii_add, ii_sub, ii_mul, ii_neg, ii_lt, ii_le, ii_eq, ii_cl, ii_in, dc_lt_t, dc_lt_f, dc_le_t, dc_le_f, dc_eq_t, dc_eq_f, dn_lt_t, dn_le_t, dn_eq_t, dn_eq_f, hi_1, hi_2, and_self, Option.isSome_none, Option.isSome_some, Bool.false_eq_true, ii_s, ii_m, ii_mn, ii_2, st1_, st1_i, st1_r, st1_ii, st1_ir, st1_ri, st1_rr, st1_iii, st1_iir, st1_iri, st1_irr, st1_rii, st1_rir, st1_rri, st1_rrr, st1_iiii, st1_iiir, st1_iiri, st1_iirr, st1_irii, st1_irir, st1_irri, st1_irrr, st1_riii, st1_riir, st1_riri, st1_rirr, st1_rrii, st1_rrir, st1_rrri, st1_rrrr, st1_iiiii, st1_iiiir, st1_iiiri, st1_iiirr, st1_iirii, st1_iirir, st1_iirri, st1_iirrr, st1_iriii, st1_iriir, st1_iriri, st1_irirr, st1_irrii, st1_irrir, st1_irrri, st1_irrrr, st1_riiii, st1_riiir, st1_riiri, st1_riirr, st1_ririi, st1_ririr, st1_rirri, st1_rirrr, st1_rriii, st1_rriir, st1_rriri, st1_rrirr, st1_rrrii, st1_rrrir, st1_rrrri, st1_rrrrr, Option.toList_some, Option.toList_none, List.cons_append, List.nil_append, true_and, and_true, true_implies, false_implies, not_true_eq_false, not_false_eq_true, implies_true, eq_self, r1, r2, r3, r4, s0, ii_toInt, ab_sw, Int.reduceAdd, Int.reduceNeg, Int.reduceLT, Int.reduceEq, Int.reduceLE, zn_0, zn_1, zn_2, zn_3]
    exact hq
  | 2, _, hq =>
    simp (disch := omega) only [↓ev_rn, ↓ev_aload_0, ↓ev_aload_0N, ↓ev_areturn, ↓ev_areturnN, ↓ev_getfield_1, ↓ev_iload_1, ↓ev_nop, ↓ev_tableswitch, bq_State_bookOf_0, bk_State_bookOf_0, bq_State_bookOf_28, bk_State_bookOf_28, bq_State_bookOf_33, bk_State_bookOf_33, bq_State_bookOf_38, bk_State_bookOf_38, bq_State_bookOf_43, bk_State_bookOf_43, ↓reduceIte, false_and, and_false, List.not_mem_nil, List.mem_cons, or_false, or_true, true_or, false_or, Nat.reduceEqDiff, ab_ac, ab_ar, Nat.reduceSub, Nat.reduceLeDiff, Nat.reduceAdd, Nat.reduceLT, Int.cast_ofNat_Int, Int.ofNat_toNat, Int.toNat_natCast, ii_0, ii_1, ii_add, ii_sub, ii_mul, ii_neg, ii_lt, ii_le, ii_eq, ii_cl, ii_in, dc_lt_t, dc_lt_f, dc_le_t, dc_le_f, dc_eq_t, dc_eq_f, dn_lt_t, dn_le_t, dn_eq_t, dn_eq_f, hi_1, hi_2, and_self, Option.isSome_none, Option.isSome_some, Bool.false_eq_true, ii_s, ii_m, ii_mn, ii_2, st1_, st1_i, st1_r, st1_ii, st1_ir, st1_ri, st1_rr, st1_iii, st1_iir, st1_iri, st1_irr, st1_rii, st1_rir, st1_rri, st1_rrr, st1_iiii, st1_iiir, st1_iiri, st1_iirr, st1_irii, st1_irir, st1_irri, st1_irrr, st1_riii, st1_riir, st1_riri, st1_rirr, st1_rrii, st1_rrir, st1_rrri, st1_rrrr, st1_iiiii, st1_iiiir, st1_iiiri, st1_iiirr, st1_iirii, st1_iirir, st1_iirri, st1_iirrr, st1_iriii, st1_iriir, st1_iriri, st1_irirr, st1_irrii, st1_irrir, st1_irrri, st1_irrrr, st1_riiii, st1_riiir, st1_riiri, st1_riirr, st1_ririi, st1_ririr, st1_rirri, st1_rirrr, st1_rriii, st1_rriir, st1_rriri, st1_rrirr, st1_rrrii, st1_rrrir, st1_rrrri, st1_rrrrr, Option.toList_some, Option.toList_none, List.cons_append, List.nil_append, true_and, and_true, true_implies, false_implies, not_true_eq_false, not_false_eq_true, implies_true, eq_self, r1, r2, r3, r4, s0, ii_toInt, ab_sw, Int.reduceAdd, Int.reduceNeg, Int.reduceLT, Int.reduceEq, Int.reduceLE, zn_0, zn_1, zn_2, zn_3]
    exact hq
  | 3, _, hq =>
    simp (disch := omega) only [↓ev_rn, ↓ev_aload_0, ↓ev_aload_0N, ↓ev_areturn, ↓ev_areturnN, ↓ev_getfield_1, ↓ev_iload_1, ↓ev_nop, ↓ev_tableswitch, bq_State_bookOf_0, bk_State_bookOf_0, bq_State_bookOf_28, bk_State_bookOf_28, bq_State_bookOf_33, bk_State_bookOf_33, bq_State_bookOf_38, bk_State_bookOf_38, bq_State_bookOf_43, bk_State_bookOf_43, ↓reduceIte, false_and, and_false, List.not_mem_nil, List.mem_cons, or_false, or_true, true_or, false_or, Nat.reduceEqDiff, ab_ac, ab_ar, Nat.reduceSub, Nat.reduceLeDiff, Nat.reduceAdd, Nat.reduceLT, Int.cast_ofNat_Int, Int.ofNat_toNat, Int.toNat_natCast, ii_0, ii_1, ii_add, ii_sub, ii_mul, ii_neg, ii_lt, ii_le, ii_eq, ii_cl, ii_in, dc_lt_t, dc_lt_f, dc_le_t, dc_le_f, dc_eq_t, dc_eq_f, dn_lt_t, dn_le_t, dn_eq_t, dn_eq_f, hi_1, hi_2, and_self, Option.isSome_none, Option.isSome_some, Bool.false_eq_true, ii_s, ii_m, ii_mn, ii_2, st1_, st1_i, st1_r, st1_ii, st1_ir, st1_ri, st1_rr, st1_iii, st1_iir, st1_iri, st1_irr, st1_rii, st1_rir, st1_rri, st1_rrr, st1_iiii, st1_iiir, st1_iiri, st1_iirr, st1_irii, st1_irir, st1_irri, st1_irrr, st1_riii, st1_riir, st1_riri, st1_rirr, st1_rrii, st1_rrir, st1_rrri, st1_rrrr, st1_iiiii, st1_iiiir, st1_iiiri, st1_iiirr, st1_iirii, st1_iirir, st1_iirri, st1_iirrr, st1_iriii, st1_iriir, st1_iriri, st1_irirr, st1_irrii, st1_irrir, st1_irrri, st1_irrrr, st1_riiii, st1_riiir, st1_riiri, st1_riirr, st1_ririi, st1_ririr, st1_rirri, st1_rirrr, st1_rriii, st1_rriir, st1_rriri, st1_rrirr, st1_rrrii, st1_rrrir, st1_rrrri, st1_rrrrr, Option.toList_some, Option.toList_none, List.cons_append, List.nil_append, true_and, and_true, true_implies, false_implies, not_true_eq_false, not_false_eq_true, implies_true, eq_self, r1, r2, r3, r4, s0, ii_toInt, ab_sw, Int.reduceAdd, Int.reduceNeg, Int.reduceLT, Int.reduceEq, Int.reduceLE, zn_0, zn_1, zn_2, zn_3]
    exact hq
