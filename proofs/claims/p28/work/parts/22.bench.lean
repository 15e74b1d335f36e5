/-! ===== FairBooks$Bench ===== -/
theorem bu_f_cut (L : Bk) : ∀ p, ¬ (0 < bu_f L p ∧ lf_ov (lf_at L (bu_f L p - 1)) = Int32.ofInt 1)
  | 0 => fun h => absurd h.1 (by rw [bu_f]; omega)
  | p + 1 => by
    rw [bu_f]
    split
    · exact bu_f_cut L p
    · rename_i c
      exact fun h => c h.2
theorem bu_ea_cut (L : Bk) : ∀ k e, lf_ov (lf_at L (bu_ea L e k - 1)) ≠ Int32.ofInt 1 ∨ bu_ea L e k = e + k
  | 0, e => Or.inr rfl
  | k + 1, e => by
    rw [bu_ea]
    split
    · rcases bu_ea_cut L k (e + 1) with h | h
      · exact Or.inl h
      · exact Or.inr (by omega)
    · rename_i c
      exact Or.inl c
theorem bu_e_cut {L : Bk} {p : Nat} (hp : p < L.length) : lf_ov (lf_at L (bu_e L p - 1)) ≠ Int32.ofInt 1 ∨ bu_e L p = L.length := by
  rcases bu_ea_cut L (L.length - (p + 1)) (p + 1) with h | h
  · exact Or.inl h
  · exact Or.inr (by unfold bu_e; omega)
theorem bk_end {n : Nat} {L : Bk} (hw : bk_ok n L) : ¬ (0 < L.length ∧ lf_ov (lf_at L (L.length - 1)) = Int32.ofInt 1) := by
  rintro ⟨h1, h2⟩
  have := (hw.2.2 (L.length - 1) (by omega) h2).1
  omega
theorem bu_e_cut2 {n : Nat} {L : Bk} {p : Nat} (hw : bk_ok n L) (hp : p < L.length) : ¬ (0 < bu_e L p ∧ lf_ov (lf_at L (bu_e L p - 1)) = Int32.ofInt 1) := by
  rcases bu_e_cut hp with h | h
  · exact fun q => h q.2
  · rw [h]; exact bk_end hw
theorem sl_at {S : Bk} {i j p : Nat} (h : i + p < j) (h2 : j ≤ S.length) : lf_at (sl S i j) p = lf_at S (i + p) := by
  unfold lf_at sl
  rw [List.getD_eq_getElem?_getD, List.getD_eq_getElem?_getD, List.getElem?_take_of_lt (by omega), List.getElem?_drop]
theorem lf_app_l {A B : Bk} {p : Nat} (h : p < A.length) : lf_at (A ++ B) p = lf_at A p := by
  unfold lf_at; rw [List.getD_eq_getElem?_getD, List.getD_eq_getElem?_getD, List.getElem?_append_left h]
theorem lf_app_r {A B : Bk} {p : Nat} (h : A.length ≤ p) : lf_at (A ++ B) p = lf_at B (p - A.length) := by
  unfold lf_at; rw [List.getD_eq_getElem?_getD, List.getD_eq_getElem?_getD, List.getElem?_append_right h]
/-- the last leaf of a list is no first half -/
def bk_shut (L : Bk) : Prop := ¬ (0 < L.length ∧ lf_ov (lf_at L (L.length - 1)) = Int32.ofInt 1)
theorem bk_shut_nil : bk_shut [] := fun h => absurd h.1 (by simp)
theorem bk_shut_sl {S : Bk} {i j : Nat} (h : j ≤ S.length) (hc : ¬ (0 < j ∧ lf_ov (lf_at S (j - 1)) = Int32.ofInt 1)) : bk_shut (sl S i j) := by
  rintro ⟨h1, h2⟩
  rw [sl_len h] at h1 h2
  rw [sl_at (by omega) h, show i + (j - i - 1) = j - 1 by omega] at h2
  exact hc ⟨by omega, h2⟩
theorem bk_shut_app {A B : Bk} (hA : bk_shut A) (hB : bk_shut B) : bk_shut (A ++ B) := by
  rintro ⟨h1, h2⟩
  rw [List.length_append] at h1 h2
  by_cases c : B.length = 0
  · have : B = [] := List.length_eq_zero_iff.mp c
    subst this
    rw [List.append_nil] at h2
    exact hA ⟨by simpa using h1, by simpa using h2⟩
  · rw [lf_app_r (by omega), show A.length + B.length - 1 - A.length = B.length - 1 by omega] at h2
    exact hB ⟨by omega, h2⟩
/-- a book without a bundle; with another bundle in its place -/
def bk_cut (L : Bk) (p : Nat) : Bk := sl L 0 (bu_f L p) ++ sl L (bu_e L p) L.length
def bk_tr (L : Bk) (p : Nat) (M : Bk) (q : Nat) : Bk := sl L 0 (bu_f L p) ++ sl M (bu_f M q) (bu_e M q) ++ sl L (bu_e L p) L.length
def bk_mv (L : Bk) (p z : Nat) : Bk := sl (bk_cut L p) 0 z ++ sl L (bu_f L p) (bu_e L p) ++ sl (bk_cut L p) z (bk_cut L p).length
theorem bk_cut_len {L : Bk} {p : Nat} (hp : p < L.length) : (bk_cut L p).length = L.length - (bu_e L p - bu_f L p) := by
  have := bu_f_le L p
  have := bu_e_le L hp
  unfold bk_cut
  rw [List.length_append, sl_len (by omega), sl_len (by omega)]
  omega
theorem bk_tr_len {L M : Bk} {p q : Nat} (hp : p < L.length) (hq : q < M.length) : (bk_tr L p M q).length = L.length - (bu_e L p - bu_f L p) + (bu_e M q - bu_f M q) := by
  have := bu_f_le L p
  have := bu_e_le L hp
  have := bu_f_le M q
  have := bu_e_le M hq
  unfold bk_tr
  rw [List.length_append, List.length_append, sl_len (by omega), sl_len (by omega), sl_len (by omega)]
  omega
theorem sp_F.hr {h : ab_H} {f r : Nat} (hF : sp_F h) (hf : f = 2 ∨ f = 3) : sp_F (ab_hr h 180 f r) := by
  have key : ∀ q ∈ ab_fr, ¬ (q.1 = 180 ∧ (q.2.1 = 2 ∨ q.2.1 = 3)) := by decide +kernel
  intro q hq
  have e : (ab_hr h 180 f r).2 q.1 q.2.1 = h.2 q.1 q.2.1 := by
    show (if q.1 = 180 ∧ q.2.1 = f then r else h.2 q.1 q.2.1) = _
    rw [if_neg]
    rintro ⟨h1, h2⟩
    exact key q hq ⟨h1, by rcases hf with rfl | rfl <;> omega⟩
  rw [e]; exact hF q hq
theorem sp_be {h : ab_H} (hF : sp_F h) : h.2 180 0 = 181 ∧ h.2 180 1 = 186 ∧ ab_sh 180 = 0 ∧ 181 ∈ ab_books ∧ 186 ∈ ab_books :=
  ⟨hF (180, 0, 181) (by decide +kernel), hF (180, 1, 186) (by decide +kernel), by decide +kernel, by decide +kernel, by decide +kernel⟩
set_option maxRecDepth 100000 in
set_option maxHeartbeats 4000000 in
theorem sp_Bench_takeOut {b p n : Nat} {own : Int32} {L : Bk} {h : ab_H} {Q : Option Value → ab_H → Prop} (hF : sp_F h) (hb : b ∈ ab_books) (hb1 : b ≠ 181) (hB : sp_Bk h.1 b own L) (hw : bk_ok n L) (hp : p < L.length)
    (hq : ∀ h', h'.2 = h.2 → sp_Bk h'.1 b own (bk_cut L p) → (∀ k, (k < b ∨ b + 5 ≤ k) → (k < 181 ∨ 186 ≤ k) → h'.1 k = h.1 k) → Q none h') : ab_C 3 yn_Bench_takeOut 192 [.ref 180, .ref b, .int (Int32.ofInt p)] h Q := by
  refine ab_of ⟨Nat.le_of_ble_eq_true rfl, Nat.le_of_ble_eq_true rfl⟩ (by simp [Value.category]) (Nat.le_of_ble_eq_true rfl) ?_
  show ab_W 3 yn_Bench_takeOut 0 192 0 0 [some (.ref 180), some (.ref b), some (.int (Int32.ofInt p))] [] h Q
  have hap := bk_apart b hb 181 (by decide +kernel) hb1
  obtain ⟨v0, v1, v2, hb181, hb186⟩ := sp_be hF
  obtain ⟨r0, r1, r2, r3, s0, s1, s2, s3, s4, hl5⟩ := sp_B hF hb
  have f1 := bu_f_le L p
  have f2 := bu_e_le L hp
  obtain ⟨b0, b1, b2, b3, b4⟩ := id hB
  have g0 : Int32.ofInt 0 = Int32.ofInt ((0 : Nat) : Int) := rfl
  have s181 : ab_sh 181 = 2 := by decide +kernel
  refine ab_go [] 9 bo_Bench_takeOut ?_
  simp (disch := omega) only [↓ev_rn, ↓ev_aload_0, ↓ev_aload_0N, ↓ev_aload_1, ↓ev_aload_1N, ↓ev_callv_2, ↓ev_callv_4, ↓ev_getfield_0, ↓ev_getfield_1, ↓ev_iconst, ↓ev_iload_2, ↓ev_nop, ↓ev_return_, bq_Bench_takeOut_0, bk_Bench_takeOut_0, ↓reduceIte, false_and, and_false, List.not_mem_nil, List.mem_cons, or_false, or_true, true_or, false_or, Nat.reduceEqDiff, ab_ac, ab_ar, Nat.reduceSub, Nat.reduceLeDiff, Nat.reduceAdd, Nat.reduceLT, Int.cast_ofNat_Int, Int.ofNat_toNat, Int.toNat_natCast, ii_0, ii_1, ii_add, ii_sub, ii_mul, ii_neg, ii_lt, ii_le, ii_eq, ii_cl, ii_in, dc_lt_t, dc_lt_f, dc_le_t, dc_le_f, dc_eq_t, dc_eq_f, dn_lt_t, dn_le_t, dn_eq_t, dn_eq_f, hi_1, hi_2, and_self, Option.isSome_none, Option.isSome_some, Bool.false_eq_true, ii_s, ii_m, ii_mn, ii_2, st1_, st1_i, st1_r, st1_ii, st1_ir, st1_ri, st1_rr, st1_iii, st1_iir, st1_iri, st1_irr, st1_rii, st1_rir, st1_rri, st1_rrr, st1_iiii, st1_iiir, st1_iiri, st1_iirr, st1_irii, st1_irir, st1_irri, st1_irrr, st1_riii, st1_riir, st1_riri, st1_rirr, st1_rrii, st1_rrir, st1_rrri, st1_rrrr, st1_iiiii, st1_iiiir, st1_iiiri, st1_iiirr, st1_iirii, st1_iirir, st1_iirri, st1_iirrr, st1_iriii, st1_iriir, st1_iriri, st1_irirr, st1_irrii, st1_irrir, st1_irrri, st1_irrrr, st1_riiii, st1_riiir, st1_riiri, st1_riirr, st1_ririi, st1_ririr, st1_rirri, st1_rirrr, st1_rriii, st1_rriir, st1_rriri, st1_rrirr, st1_rrrii, st1_rrrir, st1_rrrri, st1_rrrrr, Option.toList_some, Option.toList_none, List.cons_append, List.nil_append, true_and, and_true, true_implies, false_implies, not_true_eq_false, not_false_eq_true, implies_true, eq_self, r0, r1, r2, r3, s0, s1, s2, s3, s4, v0, v1, v2, s181]
  refine ab_C.up (d := 0) (sp_Book_clearFor hF hb181 (fun h1 e1 e2 e3 => ?_)) (Nat.le_of_ble_eq_true rfl)
  have hF1 : sp_F h1 := hF.of e1
  have hB1 : sp_Bk h1.1 b own L := hB.frame (fun k k1 k2 => e3 k (by omega))
  obtain ⟨v0, v1, v2, -, -⟩ := sp_be hF1
  simp (disch := omega) only [↓ev_rn, ↓ev_aload_0, ↓ev_aload_0N, ↓ev_aload_1, ↓ev_aload_1N, ↓ev_callv_2, ↓ev_callv_4, ↓ev_getfield_0, ↓ev_getfield_1, ↓ev_iconst, ↓ev_iload_2, ↓ev_nop, ↓ev_return_, bq_Bench_takeOut_0, bk_Bench_takeOut_0, ↓reduceIte, false_and, and_false, List.not_mem_nil, List.mem_cons, or_false, or_true, true_or, false_or, Nat.reduceEqDiff, ab_ac, ab_ar, Nat.reduceSub, Nat.reduceLeDiff, Nat.reduceAdd, Nat.reduceLT, Int.cast_ofNat_Int, Int.ofNat_toNat, Int.toNat_natCast, ii_0, ii_1, ii_add, ii_sub, ii_mul, ii_neg, ii_lt, ii_le, ii_eq, ii_cl, ii_in, dc_lt_t, dc_lt_f, dc_le_t, dc_le_f, dc_eq_t, dc_eq_f, dn_lt_t, dn_le_t, dn_eq_t, dn_eq_f, hi_1, hi_2, and_self, Option.isSome_none, Option.isSome_some, Bool.false_eq_true, ii_s, ii_m, ii_mn, ii_2, st1_, st1_i, st1_r, st1_ii, st1_ir, st1_ri, st1_rr, st1_iii, st1_iir, st1_iri, st1_irr, st1_rii, st1_rir, st1_rri, st1_rrr, st1_iiii, st1_iiir, st1_iiri, st1_iirr, st1_irii, st1_irir, st1_irri, st1_irrr, st1_riii, st1_riir, st1_riri, st1_rirr, st1_rrii, st1_rrir, st1_rrri, st1_rrrr, st1_iiiii, st1_iiiir, st1_iiiri, st1_iiirr, st1_iirii, st1_iirir, st1_iirri, st1_iirrr, st1_iriii, st1_iriir, st1_iriri, st1_irirr, st1_irrii, st1_irrir, st1_irrri, st1_irrrr, st1_riiii, st1_riiir, st1_riiri, st1_riirr, st1_ririi, st1_ririr, st1_rirri, st1_rirrr, st1_rriii, st1_rriir, st1_rriri, st1_rrirr, st1_rrrii, st1_rrrir, st1_rrrri, st1_rrrrr, Option.toList_some, Option.toList_none, List.cons_append, List.nil_append, true_and, and_true, true_implies, false_implies, not_true_eq_false, not_false_eq_true, implies_true, eq_self, r0, r1, r2, r3, s0, s1, s2, s3, s4, v0, v1, v2, s181]
  refine ab_C.up (d := 1) (sp_Book_bundleFirst hF1 hb hB1 hp ?_) (Nat.le_of_ble_eq_true rfl)
  simp (disch := omega) only [↓ev_rn, ↓ev_aload_0, ↓ev_aload_0N, ↓ev_aload_1, ↓ev_aload_1N, ↓ev_callv_2, ↓ev_callv_4, ↓ev_getfield_0, ↓ev_getfield_1, ↓ev_iconst, ↓ev_iload_2, ↓ev_nop, ↓ev_return_, bq_Bench_takeOut_0, bk_Bench_takeOut_0, ↓reduceIte, false_and, and_false, List.not_mem_nil, List.mem_cons, or_false, or_true, true_or, false_or, Nat.reduceEqDiff, ab_ac, ab_ar, Nat.reduceSub, Nat.reduceLeDiff, Nat.reduceAdd, Nat.reduceLT, Int.cast_ofNat_Int, Int.ofNat_toNat, Int.toNat_natCast, ii_0, ii_1, ii_add, ii_sub, ii_mul, ii_neg, ii_lt, ii_le, ii_eq, ii_cl, ii_in, dc_lt_t, dc_lt_f, dc_le_t, dc_le_f, dc_eq_t, dc_eq_f, dn_lt_t, dn_le_t, dn_eq_t, dn_eq_f, hi_1, hi_2, and_self, Option.isSome_none, Option.isSome_some, Bool.false_eq_true, ii_s, ii_m, ii_mn, ii_2, st1_, st1_i, st1_r, st1_ii, st1_ir, st1_ri, st1_rr, st1_iii, st1_iir, st1_iri, st1_irr, st1_rii, st1_rir, st1_rri, st1_rrr, st1_iiii, st1_iiir, st1_iiri, st1_iirr, st1_irii, st1_irir, st1_irri, st1_irrr, st1_riii, st1_riir, st1_riri, st1_rirr, st1_rrii, st1_rrir, st1_rrri, st1_rrrr, st1_iiiii, st1_iiiir, st1_iiiri, st1_iiirr, st1_iirii, st1_iirir, st1_iirri, st1_iirrr, st1_iriii, st1_iriir, st1_iriri, st1_irirr, st1_irrii, st1_irrir, st1_irrri, st1_irrrr, st1_riiii, st1_riiir, st1_riiri, st1_riirr, st1_ririi, st1_ririr, st1_rirri, st1_rirrr, st1_rriii, st1_rriir, st1_rriri, st1_rrirr, st1_rrrii, st1_rrrir, st1_rrrri, st1_rrrrr, Option.toList_some, Option.toList_none, List.cons_append, List.nil_append, true_and, and_true, true_implies, false_implies, not_true_eq_false, not_false_eq_true, implies_true, eq_self, r0, r1, r2, r3, s0, s1, s2, s3, s4, v0, v1, v2, s181]
  rw [g0]
  refine ab_C.up (d := 1) (sp_Book_addLeaves hF1 hb181 hb hb1.symm e2 hB1 (Nat.zero_le _) (by omega) (by simp; omega) (Or.inl (Or.inl ⟨bk_shut_nil, fun q => absurd q.1 (by omega)⟩)) (fun h2 f1' f2' f3' => ?_)) (Nat.le_of_ble_eq_true rfl)
  rw [List.nil_append] at f2'
  have hF2 : sp_F h2 := hF1.of f1'
  have hB2 : sp_Bk h2.1 b own L := hB1.frame (fun k k1 k2 => f3' k (by omega))
  obtain ⟨v0, v1, v2, -, -⟩ := sp_be hF2
  obtain ⟨r0, r1, r2, r3, s0, s1, s2, s3, s4, hl5⟩ := sp_B hF2 hb
  obtain ⟨d0, d1, d2, d3, d4⟩ := id hB2
  simp (disch := omega) only [↓ev_rn, ↓ev_aload_0, ↓ev_aload_0N, ↓ev_aload_1, ↓ev_aload_1N, ↓ev_callv_2, ↓ev_callv_4, ↓ev_getfield_0, ↓ev_getfield_1, ↓ev_iconst, ↓ev_iload_2, ↓ev_nop, ↓ev_return_, bq_Bench_takeOut_0, bk_Bench_takeOut_0, ↓reduceIte, false_and, and_false, List.not_mem_nil, List.mem_cons, or_false, or_true, true_or, false_or, Nat.reduceEqDiff, ab_ac, ab_ar, Nat.reduceSub, Nat.reduceLeDiff, Nat.reduceAdd, Nat.reduceLT, Int.cast_ofNat_Int, Int.ofNat_toNat, Int.toNat_natCast, ii_0, ii_1, ii_add, ii_sub, ii_mul, ii_neg, ii_lt, ii_le, ii_eq, ii_cl, ii_in, dc_lt_t, dc_lt_f, dc_le_t, dc_le_f, dc_eq_t, dc_eq_f, dn_lt_t, dn_le_t, dn_eq_t, dn_eq_f, hi_1, hi_2, and_self, Option.isSome_none, Option.isSome_some, Bool.false_eq_true, ii_s, ii_m, ii_mn, ii_2, st1_, st1_i, st1_r, st1_ii, st1_ir, st1_ri, st1_rr, st1_iii, st1_iir, st1_iri, st1_irr, st1_rii, st1_rir, st1_rri, st1_rrr, st1_iiii, st1_iiir, st1_iiri, st1_iirr, st1_irii, st1_irir, st1_irri, st1_irrr, st1_riii, st1_riir, st1_riri, st1_rirr, st1_rrii, st1_rrir, st1_rrri, st1_rrrr, st1_iiiii, st1_iiiir, st1_iiiri, st1_iiirr, st1_iirii, st1_iirir, st1_iirri, st1_iirrr, st1_iriii, st1_iriir, st1_iriri, st1_irirr, st1_irrii, st1_irrir, st1_irrri, st1_irrrr, st1_riiii, st1_riiir, st1_riiri, st1_riirr, st1_ririi, st1_ririr, st1_rirri, st1_rirrr, st1_rriii, st1_rriir, st1_rriri, st1_rrirr, st1_rrrii, st1_rrrir, st1_rrrri, st1_rrrrr, Option.toList_some, Option.toList_none, List.cons_append, List.nil_append, true_and, and_true, true_implies, false_implies, not_true_eq_false, not_false_eq_true, implies_true, eq_self, r0, r1, r2, r3, s0, s1, s2, s3, s4, v0, v1, v2, s181]
  refine ab_C.up (d := 1) (sp_Book_bundleEnd hF2 hb hB2 hp ?_) (Nat.le_of_ble_eq_true rfl)
  simp (disch := omega) only [↓ev_rn, ↓ev_aload_0, ↓ev_aload_0N, ↓ev_aload_1, ↓ev_aload_1N, ↓ev_callv_2, ↓ev_callv_4, ↓ev_getfield_0, ↓ev_getfield_1, ↓ev_iconst, ↓ev_iload_2, ↓ev_nop, ↓ev_return_, bq_Bench_takeOut_0, bk_Bench_takeOut_0, ↓reduceIte, false_and, and_false, List.not_mem_nil, List.mem_cons, or_false, or_true, true_or, false_or, Nat.reduceEqDiff, ab_ac, ab_ar, Nat.reduceSub, Nat.reduceLeDiff, Nat.reduceAdd, Nat.reduceLT, Int.cast_ofNat_Int, Int.ofNat_toNat, Int.toNat_natCast, ii_0, ii_1, ii_add, ii_sub, ii_mul, ii_neg, ii_lt, ii_le, ii_eq, ii_cl, ii_in, dc_lt_t, dc_lt_f, dc_le_t, dc_le_f, dc_eq_t, dc_eq_f, dn_lt_t, dn_le_t, dn_eq_t, dn_eq_f, hi_1, hi_2, and_self, Option.isSome_none, Option.isSome_some, Bool.false_eq_true, ii_s, ii_m, ii_mn, ii_2, st1_, st1_i, st1_r, st1_ii, st1_ir, st1_ri, st1_rr, st1_iii, st1_iir, st1_iri, st1_irr, st1_rii, st1_rir, st1_rri, st1_rrr, st1_iiii, st1_iiir, st1_iiri, st1_iirr, st1_irii, st1_irir, st1_irri, st1_irrr, st1_riii, st1_riir, st1_riri, st1_rirr, st1_rrii, st1_rrir, st1_rrri, st1_rrrr, st1_iiiii, st1_iiiir, st1_iiiri, st1_iiirr, st1_iirii, st1_iirir, st1_iirri, st1_iirrr, st1_iriii, st1_iriir, st1_iriri, st1_irirr, st1_irrii, st1_irrir, st1_irrri, st1_irrrr, st1_riiii, st1_riiir, st1_riiri, st1_riirr, st1_ririi, st1_ririr, st1_rirri, st1_rirrr, st1_rriii, st1_rriir, st1_rriri, st1_rrirr, st1_rrrii, st1_rrrir, st1_rrrri, st1_rrrrr, Option.toList_some, Option.toList_none, List.cons_append, List.nil_append, true_and, and_true, true_implies, false_implies, not_true_eq_false, not_false_eq_true, implies_true, eq_self, r0, r1, r2, r3, s0, s1, s2, s3, s4, v0, v1, v2, s181, d1]
  refine ab_C.up (d := 1) (sp_Book_addLeaves hF2 hb181 hb hb1.symm f2' hB2 (by omega) (Nat.le_refl _) (by rw [sl_len (by omega)]; omega) (Or.inl (Or.inl ⟨bk_shut_sl (by omega) (bu_f_cut L p), bu_e_cut2 hw hp⟩)) (fun h3 i1 i2 i3 => ?_)) (Nat.le_of_ble_eq_true rfl)
  have hF3 : sp_F h3 := hF2.of i1
  have hB3 : sp_Bk h3.1 b own L := hB2.frame (fun k k1 k2 => i3 k (by omega))
  obtain ⟨v0, v1, v2, -, -⟩ := sp_be hF3
  simp (disch := omega) only [↓ev_rn, ↓ev_aload_0, ↓ev_aload_0N, ↓ev_aload_1, ↓ev_aload_1N, ↓ev_callv_2, ↓ev_callv_4, ↓ev_getfield_0, ↓ev_getfield_1, ↓ev_iconst, ↓ev_iload_2, ↓ev_nop, ↓ev_return_, bq_Bench_takeOut_0, bk_Bench_takeOut_0, ↓reduceIte, false_and, and_false, List.not_mem_nil, List.mem_cons, or_false, or_true, true_or, false_or, Nat.reduceEqDiff, ab_ac, ab_ar, Nat.reduceSub, Nat.reduceLeDiff, Nat.reduceAdd, Nat.reduceLT, Int.cast_ofNat_Int, Int.ofNat_toNat, Int.toNat_natCast, ii_0, ii_1, ii_add, ii_sub, ii_mul, ii_neg, ii_lt, ii_le, ii_eq, ii_cl, ii_in, dc_lt_t, dc_lt_f, dc_le_t, dc_le_f, dc_eq_t, dc_eq_f, dn_lt_t, dn_le_t, dn_eq_t, dn_eq_f, hi_1, hi_2, and_self, Option.isSome_none, Option.isSome_some, Bool.false_eq_true, ii_s, ii_m, ii_mn, ii_2, st1_, st1_i, st1_r, st1_ii, st1_ir, st1_ri, st1_rr, st1_iii, st1_iir, st1_iri, st1_irr, st1_rii, st1_rir, st1_rri, st1_rrr, st1_iiii, st1_iiir, st1_iiri, st1_iirr, st1_irii, st1_irir, st1_irri, st1_irrr, st1_riii, st1_riir, st1_riri, st1_rirr, st1_rrii, st1_rrir, st1_rrri, st1_rrrr, st1_iiiii, st1_iiiir, st1_iiiri, st1_iiirr, st1_iirii, st1_iirir, st1_iirri, st1_iirrr, st1_iriii, st1_iriir, st1_iriri, st1_irirr, st1_irrii, st1_irrir, st1_irrri, st1_irrrr, st1_riiii, st1_riiir, st1_riiri, st1_riirr, st1_ririi, st1_ririr, st1_rirri, st1_rirrr, st1_rriii, st1_rriir, st1_rriri, st1_rrirr, st1_rrrii, st1_rrrir, st1_rrrri, st1_rrrrr, Option.toList_some, Option.toList_none, List.cons_append, List.nil_append, true_and, and_true, true_implies, false_implies, not_true_eq_false, not_false_eq_true, implies_true, eq_self, r0, r1, r2, r3, s0, s1, s2, s3, s4, v0, v1, v2, s181]
  refine ab_C.up (d := 2) (sp_Book_copyFrom hF3 hb hb181 hb1 i2 (fun h4 j1 j2 j3 => ?_)) (Nat.le_of_ble_eq_true rfl)
  simp (disch := omega) only [↓ev_rn, ↓ev_aload_0, ↓ev_aload_0N, ↓ev_aload_1, ↓ev_aload_1N, ↓ev_callv_2, ↓ev_callv_4, ↓ev_getfield_0, ↓ev_getfield_1, ↓ev_iconst, ↓ev_iload_2, ↓ev_nop, ↓ev_return_, bq_Bench_takeOut_0, bk_Bench_takeOut_0, ↓reduceIte, false_and, and_false, List.not_mem_nil, List.mem_cons, or_false, or_true, true_or, false_or, Nat.reduceEqDiff, ab_ac, ab_ar, Nat.reduceSub, Nat.reduceLeDiff, Nat.reduceAdd, Nat.reduceLT, Int.cast_ofNat_Int, Int.ofNat_toNat, Int.toNat_natCast, ii_0, ii_1, ii_add, ii_sub, ii_mul, ii_neg, ii_lt, ii_le, ii_eq, ii_cl, ii_in, dc_lt_t, dc_lt_f, dc_le_t, dc_le_f, dc_eq_t, dc_eq_f, dn_lt_t, dn_le_t, dn_eq_t, dn_eq_f, hi_1, hi_2, and_self, Option.isSome_none, Option.isSome_some, Bool.false_eq_true, ii_s, ii_m, ii_mn, ii_2, st1_, st1_i, st1_r, st1_ii, st1_ir, st1_ri, st1_rr, st1_iii, st1_iir, st1_iri, st1_irr, st1_rii, st1_rir, st1_rri, st1_rrr, st1_iiii, st1_iiir, st1_iiri, st1_iirr, st1_irii, st1_irir, st1_irri, st1_irrr, st1_riii, st1_riir, st1_riri, st1_rirr, st1_rrii, st1_rrir, st1_rrri, st1_rrrr, st1_iiiii, st1_iiiir, st1_iiiri, st1_iiirr, st1_iirii, st1_iirir, st1_iirri, st1_iirrr, st1_iriii, st1_iriir, st1_iriri, st1_irirr, st1_irrii, st1_irrir, st1_irrri, st1_irrrr, st1_riiii, st1_riiir, st1_riiri, st1_riirr, st1_ririi, st1_ririr, st1_rirri, st1_rirrr, st1_rriii, st1_rriir, st1_rriri, st1_rrirr, st1_rrrii, st1_rrrir, st1_rrrri, st1_rrrrr, Option.toList_some, Option.toList_none, List.cons_append, List.nil_append, true_and, and_true, true_implies, false_implies, not_true_eq_false, not_false_eq_true, implies_true, eq_self]
  rw [b0] at j2
  exact hq h4 (j1.trans (i1.trans (f1'.trans e1))) j2 (fun k k1 k2 => (j3 k k1).trans ((i3 k (by omega)).trans ((f3' k (by omega)).trans (e3 k (by omega)))))
