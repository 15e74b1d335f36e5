/-! ===== FairBooksModel: changes (3): books laid anew ===== -/
def sp_Old (h : ab_H) (o : Nat) (L : Bk) : Prop := ∀ p, p < L.length → ∀ j, j < 6 → h.1 195 (49 * o + 1 + 6 * p + j) = lf_j (lf_at L p) j
def sp_Px (h : ab_H) (c : Nat) (P : Bk) : Prop := ∀ p, p < P.length → ∀ j, j < 6 → h.1 193 (pl c p + j) = lf_j (lf_at P p) j
def sp_wc (c : Nat) (h h' : ab_H) : Prop := h'.2 = h.2 ∧ (∀ k, k ≠ 193 → h'.1 k = h.1 k) ∧ ∀ j, (j < bo c + 1 ∨ bo c + 49 ≤ j) → h'.1 193 j = h.1 193 j
theorem sp_wc.tr {c : Nat} {h h1 h2 : ab_H} (a : sp_wc c h h1) (b : sp_wc c h1 h2) : sp_wc c h h2 := ⟨b.1.trans a.1, fun k k1 => (b.2.1 k k1).trans (a.2.1 k k1), fun j hj => (b.2.2 j hj).trans (a.2.2 j hj)⟩
theorem sp_Old.fr {h h' : ab_H} {o : Nat} {L : Bk} (a : sp_Old h o L) (e : h'.1 195 = h.1 195) : sp_Old h' o L := fun p hp j hj => by rw [e]; exact a p hp j hj
set_option maxRecDepth 100000 in
set_option maxHeartbeats 4000000 in
theorem sp_Model_laysOld {c o : Nat} {s : St} {h : ab_H} {Q : Option Value → ab_H → Prop} (hF : sp_F h) (hR : sp_R (h.1 193) s) (hz : st_sz s) (hc : c < 4) (ho : o < 2)
    (hq : ∀ h', h'.2 = h.2 → (∀ k, k ≠ 195 → h'.1 k = h.1 k) → (∀ j, (j < 49 * o ∨ 49 * o + 49 ≤ j) → h'.1 195 j = h.1 195 j) → sp_Old h' o (s.2.1 c) → Q none h') : ab_C 0 yn_Model_laysOld 200 [.ref 192, .int (Int32.ofInt c), .int (Int32.ofInt o)] h Q := by
  refine ab_of ⟨Nat.le_of_ble_eq_true rfl, Nat.le_of_ble_eq_true rfl⟩ (by simp [Value.category]) (Nat.le_of_ble_eq_true rfl) ?_
  show ab_W 0 yn_Model_laysOld 0 200 0 0 [some (.ref 192), some (.int (Int32.ofInt c)), some (.int (Int32.ofInt o)), none] [] h Q
  have loop : ∀ (k i : Nat) (h1 : ab_H), i + k = 49 → h1.2 = h.2 → (∀ k, k ≠ 195 → h1.1 k = h.1 k) → (∀ j, h1.1 195 j = if 49 * o ≤ j ∧ j < 49 * o + i then h.1 193 (bo c + (j - 49 * o)) else h.1 195 j) → ab_W 0 yn_Model_laysOld 2 200 0 0 [some (.ref 192), some (.int (Int32.ofInt c)), some (.int (Int32.ofInt o)), some (.int (Int32.ofInt i))] [] h1 Q := by
    intro k
    induction k with
    | zero =>
      intro i h1 hi f0 f1 f2
      obtain rfl : i = 49 := by omega
      obtain ⟨q0, q1, q2, q3, q6, q8, q23⟩ := sp_M (hF.of f0)
      refine ab_go [2] 12 bo_Model_laysOld ?_
      simp -implicitDefEqProofs (disch := omega) only [ii_b, ↓ev_rn, ↓ev_aload_0, ↓ev_aload_0N, ↓ev_bipush, ↓ev_getfield_1, ↓ev_goto, ↓ev_iadd, ↓ev_iaload, ↓ev_iastore, ↓ev_icmp_ge, ↓ev_iconst, ↓ev_iinc_3, ↓ev_iload_1, ↓ev_iload_2, ↓ev_iload_3, ↓ev_imul, ↓ev_istore_3, ↓ev_nop, ↓ev_return_, bq_Model_laysOld_0, bk_Model_laysOld_0, bq_Model_laysOld_2, bk_Model_laysOld_2, bq_Model_laysOld_39, bk_Model_laysOld_39, ↓reduceIte, false_and, and_false, List.not_mem_nil, List.mem_cons, or_false, or_true, true_or, false_or, Nat.reduceEqDiff, ab_ac, ab_ar, Nat.reduceSub, Nat.reduceLeDiff, Nat.reduceAdd, Nat.reduceLT, Int.cast_ofNat_Int, Int.ofNat_toNat, Int.toNat_natCast, ii_0, ii_1, ii_add, ii_sub, ii_mul, ii_neg, ii_lt, ii_le, ii_eq, ii_cl, ii_in, dc_lt_t, dc_lt_f, dc_le_t, dc_le_f, dc_eq_t, dc_eq_f, dn_lt_t, dn_le_t, dn_eq_t, dn_eq_f, hi_1, hi_2, and_self, Option.isSome_none, Option.isSome_some, Bool.false_eq_true, ii_s, ii_m, ii_mn, ii_2, st1_, st1_i, st1_r, st1_ii, st1_ir, st1_ri, st1_rr, st1_iii, st1_iir, st1_iri, st1_irr, st1_rii, st1_rir, st1_rri, st1_rrr, st1_iiii, st1_iiir, st1_iiri, st1_iirr, st1_irii, st1_irir, st1_irri, st1_irrr, st1_riii, st1_riir, st1_riri, st1_rirr, st1_rrii, st1_rrir, st1_rrri, st1_rrrr, st1_iiiii, st1_iiiir, st1_iiiri, st1_iiirr, st1_iirii, st1_iirir, st1_iirri, st1_iirrr, st1_iriii, st1_iriir, st1_iriri, st1_irirr, st1_irrii, st1_irrir, st1_irrri, st1_irrrr, st1_riiii, st1_riiir, st1_riiri, st1_riirr, st1_ririi, st1_ririr, st1_rirri, st1_rirrr, st1_rriii, st1_rriir, st1_rriri, st1_rrirr, st1_rrrii, st1_rrrir, st1_rrrri, st1_rrrrr, Option.toList_some, Option.toList_none, List.cons_append, List.nil_append, true_and, and_true, true_implies, false_implies, not_true_eq_false, not_false_eq_true, implies_true, eq_self, q0, q1, q2, q3, q6, q8, q23, hh_192, hh_193, hh_194, hh_195, hh_196, hh_197, hh_198, hh_199, Int.add_zero, ii_p2, ii_p3, ii_p4, ii_p5]
      refine hq h1 f0 f1 (fun j hj => by rw [f2, if_neg (by omega)]) (fun p hp j hj => ?_)
      have h8 := hz.2 c hc
      rw [f2, if_pos (by omega), show bo c + (49 * o + 1 + 6 * p + j - 49 * o) = pl c p + j by unfold bo pl; omega]
      exact (hR.2.2.2 c hc).2 p hp j hj
    | succ k ih =>
      intro i h1 hi f0 f1 f2
      obtain ⟨q0, q1, q2, q3, q6, q8, q23⟩ := sp_M (hF.of f0)
      have b1 : 39 + 49 * c = bo c := rfl
      have b2 := bo_le hc
      have e193 : h1.1 193 = h.1 193 := f1 193 (by omega)
      have g := ih (i + 1) (ab_hi h1 195 (49 * o + i) (h1.1 193 (bo c + i))) (by omega) f0 (fun k k1 => by rw [hi_o k1]; exact f1 k k1) (fun j => by
        rw [hi_1]
        by_cases g : j = 49 * o + i
        · rw [if_pos ⟨rfl, g⟩, if_pos (by omega), e193, g, show 49 * o + i - 49 * o = i by omega]
        · rw [if_neg (fun q => g q.2), f2]
          by_cases g2 : 49 * o ≤ j ∧ j < 49 * o + i
          · rw [if_pos g2, if_pos (by omega)]
          · rw [if_neg g2, if_neg (by omega)])
      refine ab_go [2] 12 bo_Model_laysOld ?_
      simp -implicitDefEqProofs (disch := omega) only [ii_b, ↓ev_rn, ↓ev_aload_0, ↓ev_aload_0N, ↓ev_bipush, ↓ev_getfield_1, ↓ev_goto, ↓ev_iadd, ↓ev_iaload, ↓ev_iastore, ↓ev_icmp_ge, ↓ev_iconst, ↓ev_iinc_3, ↓ev_iload_1, ↓ev_iload_2, ↓ev_iload_3, ↓ev_imul, ↓ev_istore_3, ↓ev_nop, ↓ev_return_, bq_Model_laysOld_0, bk_Model_laysOld_0, bq_Model_laysOld_2, bk_Model_laysOld_2, bq_Model_laysOld_39, bk_Model_laysOld_39, ↓reduceIte, false_and, and_false, List.not_mem_nil, List.mem_cons, or_false, or_true, true_or, false_or, Nat.reduceEqDiff, ab_ac, ab_ar, Nat.reduceSub, Nat.reduceLeDiff, Nat.reduceAdd, Nat.reduceLT, Int.cast_ofNat_Int, Int.ofNat_toNat, Int.toNat_natCast, ii_0, ii_1, ii_add, ii_sub, ii_mul, ii_neg, ii_lt, ii_le, ii_eq, ii_cl, ii_in, dc_lt_t, dc_lt_f, dc_le_t, dc_le_f, dc_eq_t, dc_eq_f, dn_lt_t, dn_le_t, dn_eq_t, dn_eq_f, hi_1, hi_2, and_self, Option.isSome_none, Option.isSome_some, Bool.false_eq_true, ii_s, ii_m, ii_mn, ii_2, st1_, st1_i, st1_r, st1_ii, st1_ir, st1_ri, st1_rr, st1_iii, st1_iir, st1_iri, st1_irr, st1_rii, st1_rir, st1_rri, st1_rrr, st1_iiii, st1_iiir, st1_iiri, st1_iirr, st1_irii, st1_irir, st1_irri, st1_irrr, st1_riii, st1_riir, st1_riri, st1_rirr, st1_rrii, st1_rrir, st1_rrri, st1_rrrr, st1_iiiii, st1_iiiir, st1_iiiri, st1_iiirr, st1_iirii, st1_iirir, st1_iirri, st1_iirrr, st1_iriii, st1_iriir, st1_iriri, st1_irirr, st1_irrii, st1_irrir, st1_irrri, st1_irrrr, st1_riiii, st1_riiir, st1_riiri, st1_riirr, st1_ririi, st1_ririr, st1_rirri, st1_rirrr, st1_rriii, st1_rriir, st1_rriri, st1_rrirr, st1_rrrii, st1_rrrir, st1_rrrri, st1_rrrrr, Option.toList_some, Option.toList_none, List.cons_append, List.nil_append, true_and, and_true, true_implies, false_implies, not_true_eq_false, not_false_eq_true, implies_true, eq_self, q0, q1, q2, q3, q6, q8, q23, hh_192, hh_193, hh_194, hh_195, hh_196, hh_197, hh_198, hh_199, Int.add_zero, ii_p2, ii_p3, ii_p4, ii_p5, ii_49, ii_39, ii_nn, b1]
      exact g
  refine ab_go [2] 12 bo_Model_laysOld ?_
  have g := loop 49 0 h (by omega) rfl (fun _ _ => rfl) (fun j => by rw [if_neg (by omega)])
  simp -implicitDefEqProofs (disch := omega) only [ii_b, ↓ev_rn, ↓ev_aload_0, ↓ev_aload_0N, ↓ev_bipush, ↓ev_getfield_1, ↓ev_goto, ↓ev_iadd, ↓ev_iaload, ↓ev_iastore, ↓ev_icmp_ge, ↓ev_iconst, ↓ev_iinc_3, ↓ev_iload_1, ↓ev_iload_2, ↓ev_iload_3, ↓ev_imul, ↓ev_istore_3, ↓ev_nop, ↓ev_return_, bq_Model_laysOld_0, bk_Model_laysOld_0, bq_Model_laysOld_2, bk_Model_laysOld_2, bq_Model_laysOld_39, bk_Model_laysOld_39, ↓reduceIte, false_and, and_false, List.not_mem_nil, List.mem_cons, or_false, or_true, true_or, false_or, Nat.reduceEqDiff, ab_ac, ab_ar, Nat.reduceSub, Nat.reduceLeDiff, Nat.reduceAdd, Nat.reduceLT, Int.cast_ofNat_Int, Int.ofNat_toNat, Int.toNat_natCast, ii_0, ii_1, ii_add, ii_sub, ii_mul, ii_neg, ii_lt, ii_le, ii_eq, ii_cl, ii_in, dc_lt_t, dc_lt_f, dc_le_t, dc_le_f, dc_eq_t, dc_eq_f, dn_lt_t, dn_le_t, dn_eq_t, dn_eq_f, hi_1, hi_2, and_self, Option.isSome_none, Option.isSome_some, Bool.false_eq_true, ii_s, ii_m, ii_mn, ii_2, st1_, st1_i, st1_r, st1_ii, st1_ir, st1_ri, st1_rr, st1_iii, st1_iir, st1_iri, st1_irr, st1_rii, st1_rir, st1_rri, st1_rrr, st1_iiii, st1_iiir, st1_iiri, st1_iirr, st1_irii, st1_irir, st1_irri, st1_irrr, st1_riii, st1_riir, st1_riri, st1_rirr, st1_rrii, st1_rrir, st1_rrri, st1_rrrr, st1_iiiii, st1_iiiir, st1_iiiri, st1_iiirr, st1_iirii, st1_iirir, st1_iirri, st1_iirrr, st1_iriii, st1_iriir, st1_iriri, st1_irirr, st1_irrii, st1_irrir, st1_irrri, st1_irrrr, st1_riiii, st1_riiir, st1_riiri, st1_riirr, st1_ririi, st1_ririr, st1_rirri, st1_rirrr, st1_rriii, st1_rriir, st1_rriri, st1_rrirr, st1_rrrii, st1_rrrir, st1_rrrri, st1_rrrrr, Option.toList_some, Option.toList_none, List.cons_append, List.nil_append, true_and, and_true, true_implies, false_implies, not_true_eq_false, not_false_eq_true, implies_true, eq_self]
  exact g
set_option maxRecDepth 100000 in
set_option maxHeartbeats 4000000 in
theorem sp_Model_laysLeaves {c t o f m : Nat} {P L : Bk} {h : ab_H} {Q : Option Value → ab_H → Prop} (hF : sp_F h) (hc : c < 4) (ho : o < 2) (hO : sp_Old h o L) (hP : sp_Px h c P) (ht : t = P.length) (h8 : L.length ≤ 8) (hf : f + m ≤ L.length) (ht8 : t + m ≤ 8)
    (hq : ∀ h', sp_wc c h h' → sp_Px h' c (P ++ sl L f (f + m)) → Q (some (.int (Int32.ofInt ((t + m : Nat) : Int)))) h') : ab_C 1 yn_Model_laysLeaves 200 [.ref 192, .int (Int32.ofInt c), .int (Int32.ofInt t), .int (Int32.ofInt o), .int (Int32.ofInt f), .int (Int32.ofInt m)] h Q := by
  refine ab_of ⟨Nat.le_of_ble_eq_true rfl, Nat.le_of_ble_eq_true rfl⟩ (by simp [Value.category]) (Nat.le_of_ble_eq_true rfl) ?_
  show ab_W 1 yn_Model_laysLeaves 0 200 0 0 [some (.ref 192), some (.int (Int32.ofInt c)), some (.int (Int32.ofInt t)), some (.int (Int32.ofInt o)), some (.int (Int32.ofInt f)), some (.int (Int32.ofInt m)), none] [] h Q
  have pb : pl c t = bo c + 1 + 6 * t := rfl
  have b2 : bo c ≤ 186 := by unfold bo; omega
  have loop : ∀ (k i : Nat) (h1 : ab_H), i + k = 6 * m → h1.2 = h.2 → (∀ k, k ≠ 193 → h1.1 k = h.1 k) → (∀ j, h1.1 193 j = if pl c t ≤ j ∧ j < pl c t + i then h.1 195 (49 * o + 1 + 6 * f + (j - pl c t)) else h.1 193 j) → ab_W 1 yn_Model_laysLeaves 3 200 0 0 [some (.ref 192), some (.int (Int32.ofInt c)), some (.int (Int32.ofInt t)), some (.int (Int32.ofInt o)), some (.int (Int32.ofInt f)), some (.int (Int32.ofInt m)), some (.int (Int32.ofInt i))] [] h1 Q := by
    intro k
    induction k with
    | zero =>
      intro i h1 hi f0 f1 f2
      obtain rfl : i = 6 * m := by omega
      obtain ⟨q0, q1, q2, q3, q6, q8, q23⟩ := sp_M (hF.of f0)
      refine ab_go [3] 12 bo_Model_laysLeaves ?_
      simp -implicitDefEqProofs (disch := omega) only [ii_b, ↓ev_rn, ↓ev_aload_0, ↓ev_aload_0N, ↓ev_bipush, ↓ev_calls_2, ↓ev_getfield_1, ↓ev_goto, ↓ev_iadd, ↓ev_iaload, ↓ev_iastore, ↓ev_icmp_ge, ↓ev_iconst, ↓ev_iinc_6, ↓ev_iload_1, ↓ev_iload_2, ↓ev_iload_3, ↓ev_iload_4, ↓ev_iload_5, ↓ev_iload_6, ↓ev_imul, ↓ev_ireturn_0, ↓ev_istore_6, ↓ev_nop, bq_Model_laysLeaves_0, bk_Model_laysLeaves_0, bq_Model_laysLeaves_3, bk_Model_laysLeaves_3, bq_Model_laysLeaves_52, bk_Model_laysLeaves_52, ↓reduceIte, false_and, and_false, List.not_mem_nil, List.mem_cons, or_false, or_true, true_or, false_or, Nat.reduceEqDiff, ab_ac, ab_ar, Nat.reduceSub, Nat.reduceLeDiff, Nat.reduceAdd, Nat.reduceLT, Int.cast_ofNat_Int, Int.ofNat_toNat, Int.toNat_natCast, ii_0, ii_1, ii_add, ii_sub, ii_mul, ii_neg, ii_lt, ii_le, ii_eq, ii_cl, ii_in, dc_lt_t, dc_lt_f, dc_le_t, dc_le_f, dc_eq_t, dc_eq_f, dn_lt_t, dn_le_t, dn_eq_t, dn_eq_f, hi_1, hi_2, and_self, Option.isSome_none, Option.isSome_some, Bool.false_eq_true, ii_s, ii_m, ii_mn, ii_2, st1_, st1_i, st1_r, st1_ii, st1_ir, st1_ri, st1_rr, st1_iii, st1_iir, st1_iri, st1_irr, st1_rii, st1_rir, st1_rri, st1_rrr, st1_iiii, st1_iiir, st1_iiri, st1_iirr, st1_irii, st1_irir, st1_irri, st1_irrr, st1_riii, st1_riir, st1_riri, st1_rirr, st1_rrii, st1_rrir, st1_rrri, st1_rrrr, st1_iiiii, st1_iiiir, st1_iiiri, st1_iiirr, st1_iirii, st1_iirir, st1_iirri, st1_iirrr, st1_iriii, st1_iriir, st1_iriri, st1_irirr, st1_irrii, st1_irrir, st1_irrri, st1_irrrr, st1_riiii, st1_riiir, st1_riiri, st1_riirr, st1_ririi, st1_ririr, st1_rirri, st1_rirrr, st1_rriii, st1_rriir, st1_rriri, st1_rrirr, st1_rrrii, st1_rrrir, st1_rrrri, st1_rrrrr, Option.toList_some, Option.toList_none, List.cons_append, List.nil_append, true_and, and_true, true_implies, false_implies, not_true_eq_false, not_false_eq_true, implies_true, eq_self, q0, q1, q2, q3, q6, q8, q23, hh_192, hh_193, hh_194, hh_195, hh_196, hh_197, hh_198, hh_199, Int.add_zero, ii_p2, ii_p3, ii_p4, ii_p5, ii_6, ii_nn]
      refine hq h1 ⟨f0, f1, fun j hj => by rw [f2, if_neg (by omega)]⟩ (fun p hp j hj => ?_)
      rw [List.length_append, sl_len hf] at hp
      have pb2 : pl c p = bo c + 1 + 6 * p := rfl
      by_cases g : p < P.length
      · rw [f2, if_neg (by omega), lf_app_l g]
        exact hP p g j hj
      · rw [f2, if_pos (by omega), lf_app_r (by omega), sl_at (by omega) hf]
        rw [← hO (f + (p - P.length)) (by omega) j hj, show 49 * o + 1 + 6 * f + (pl c p + j - pl c t) = 49 * o + 1 + 6 * (f + (p - P.length)) + j by omega]
    | succ k ih =>
      intro i h1 hi f0 f1 f2
      obtain ⟨q0, q1, q2, q3, q6, q8, q23⟩ := sp_M (hF.of f0)
      have e195 : h1.1 195 = h.1 195 := f1 195 (by omega)
      have g := ih (i + 1) (ab_hi h1 193 (pl c t + i) (h1.1 195 (49 * o + 1 + 6 * f + i))) (by omega) f0 (fun k k1 => by rw [hi_o k1]; exact f1 k k1) (fun j => by
        rw [hi_1]
        by_cases g : j = pl c t + i
        · rw [if_pos ⟨rfl, g⟩, if_pos (by omega), e195, g, show pl c t + i - pl c t = i by omega]
        · rw [if_neg (fun q => g q.2), f2]
          by_cases g2 : pl c t ≤ j ∧ j < pl c t + i
          · rw [if_pos g2, if_pos (by omega)]
          · rw [if_neg g2, if_neg (by omega)])
      refine ab_go [3] 12 bo_Model_laysLeaves ?_
      simp -implicitDefEqProofs (disch := omega) only [ii_b, ↓ev_rn, ↓ev_aload_0, ↓ev_aload_0N, ↓ev_bipush, ↓ev_calls_2, ↓ev_getfield_1, ↓ev_goto, ↓ev_iadd, ↓ev_iaload, ↓ev_iastore, ↓ev_icmp_ge, ↓ev_iconst, ↓ev_iinc_6, ↓ev_iload_1, ↓ev_iload_2, ↓ev_iload_3, ↓ev_iload_4, ↓ev_iload_5, ↓ev_iload_6, ↓ev_imul, ↓ev_ireturn_0, ↓ev_istore_6, ↓ev_nop, bq_Model_laysLeaves_0, bk_Model_laysLeaves_0, bq_Model_laysLeaves_3, bk_Model_laysLeaves_3, bq_Model_laysLeaves_52, bk_Model_laysLeaves_52, ↓reduceIte, false_and, and_false, List.not_mem_nil, List.mem_cons, or_false, or_true, true_or, false_or, Nat.reduceEqDiff, ab_ac, ab_ar, Nat.reduceSub, Nat.reduceLeDiff, Nat.reduceAdd, Nat.reduceLT, Int.cast_ofNat_Int, Int.ofNat_toNat, Int.toNat_natCast, ii_0, ii_1, ii_add, ii_sub, ii_mul, ii_neg, ii_lt, ii_le, ii_eq, ii_cl, ii_in, dc_lt_t, dc_lt_f, dc_le_t, dc_le_f, dc_eq_t, dc_eq_f, dn_lt_t, dn_le_t, dn_eq_t, dn_eq_f, hi_1, hi_2, and_self, Option.isSome_none, Option.isSome_some, Bool.false_eq_true, ii_s, ii_m, ii_mn, ii_2, st1_, st1_i, st1_r, st1_ii, st1_ir, st1_ri, st1_rr, st1_iii, st1_iir, st1_iri, st1_irr, st1_rii, st1_rir, st1_rri, st1_rrr, st1_iiii, st1_iiir, st1_iiri, st1_iirr, st1_irii, st1_irir, st1_irri, st1_irrr, st1_riii, st1_riir, st1_riri, st1_rirr, st1_rrii, st1_rrir, st1_rrri, st1_rrrr, st1_iiiii, st1_iiiir, st1_iiiri, st1_iiirr, st1_iirii, st1_iirir, st1_iirri, st1_iirrr, st1_iriii, st1_iriir, st1_iriri, st1_irirr, st1_irrii, st1_irrir, st1_irrri, st1_irrrr, st1_riiii, st1_riiir, st1_riiri, st1_riirr, st1_ririi, st1_ririr, st1_rirri, st1_rirrr, st1_rriii, st1_rriir, st1_rriri, st1_rrirr, st1_rrrii, st1_rrrir, st1_rrrri, st1_rrrrr, Option.toList_some, Option.toList_none, List.cons_append, List.nil_append, true_and, and_true, true_implies, false_implies, not_true_eq_false, not_false_eq_true, implies_true, eq_self, q0, q1, q2, q3, q6, q8, q23, hh_192, hh_193, hh_194, hh_195, hh_196, hh_197, hh_198, hh_199, Int.add_zero, ii_p2, ii_p3, ii_p4, ii_p5, ii_6]
      refine ab_C.up (d := 0) (sp_Model_placed (by omega) (by omega) ?_) (Nat.le_of_ble_eq_true rfl)
      simp -implicitDefEqProofs (disch := omega) only [ii_b, ↓ev_rn, ↓ev_aload_0, ↓ev_aload_0N, ↓ev_bipush, ↓ev_calls_2, ↓ev_getfield_1, ↓ev_goto, ↓ev_iadd, ↓ev_iaload, ↓ev_iastore, ↓ev_icmp_ge, ↓ev_iconst, ↓ev_iinc_6, ↓ev_iload_1, ↓ev_iload_2, ↓ev_iload_3, ↓ev_iload_4, ↓ev_iload_5, ↓ev_iload_6, ↓ev_imul, ↓ev_ireturn_0, ↓ev_istore_6, ↓ev_nop, bq_Model_laysLeaves_0, bk_Model_laysLeaves_0, bq_Model_laysLeaves_3, bk_Model_laysLeaves_3, bq_Model_laysLeaves_52, bk_Model_laysLeaves_52, ↓reduceIte, false_and, and_false, List.not_mem_nil, List.mem_cons, or_false, or_true, true_or, false_or, Nat.reduceEqDiff, ab_ac, ab_ar, Nat.reduceSub, Nat.reduceLeDiff, Nat.reduceAdd, Nat.reduceLT, Int.cast_ofNat_Int, Int.ofNat_toNat, Int.toNat_natCast, ii_0, ii_1, ii_add, ii_sub, ii_mul, ii_neg, ii_lt, ii_le, ii_eq, ii_cl, ii_in, dc_lt_t, dc_lt_f, dc_le_t, dc_le_f, dc_eq_t, dc_eq_f, dn_lt_t, dn_le_t, dn_eq_t, dn_eq_f, hi_1, hi_2, and_self, Option.isSome_none, Option.isSome_some, Bool.false_eq_true, ii_s, ii_m, ii_mn, ii_2, st1_, st1_i, st1_r, st1_ii, st1_ir, st1_ri, st1_rr, st1_iii, st1_iir, st1_iri, st1_irr, st1_rii, st1_rir, st1_rri, st1_rrr, st1_iiii, st1_iiir, st1_iiri, st1_iirr, st1_irii, st1_irir, st1_irri, st1_irrr, st1_riii, st1_riir, st1_riri, st1_rirr, st1_rrii, st1_rrir, st1_rrri, st1_rrrr, st1_iiiii, st1_iiiir, st1_iiiri, st1_iiirr, st1_iirii, st1_iirir, st1_iirri, st1_iirrr, st1_iriii, st1_iriir, st1_iriri, st1_irirr, st1_irrii, st1_irrir, st1_irrri, st1_irrrr, st1_riiii, st1_riiir, st1_riiri, st1_riirr, st1_ririi, st1_ririr, st1_rirri, st1_rirrr, st1_rriii, st1_rriir, st1_rriri, st1_rrirr, st1_rrrii, st1_rrrir, st1_rrrri, st1_rrrrr, Option.toList_some, Option.toList_none, List.cons_append, List.nil_append, true_and, and_true, true_implies, false_implies, not_true_eq_false, not_false_eq_true, implies_true, eq_self, q0, q1, q2, q3, q6, q8, q23, hh_192, hh_193, hh_194, hh_195, hh_196, hh_197, hh_198, hh_199, Int.add_zero, ii_p2, ii_p3, ii_p4, ii_p5, ii_6, ii_49, ii_nn]
      exact g
  refine ab_go [3] 12 bo_Model_laysLeaves ?_
  have g := loop (6 * m) 0 h (by omega) rfl (fun _ _ => rfl) (fun j => by rw [if_neg (by omega)])
  simp -implicitDefEqProofs (disch := omega) only [ii_b, ↓ev_rn, ↓ev_aload_0, ↓ev_aload_0N, ↓ev_bipush, ↓ev_calls_2, ↓ev_getfield_1, ↓ev_goto, ↓ev_iadd, ↓ev_iaload, ↓ev_iastore, ↓ev_icmp_ge, ↓ev_iconst, ↓ev_iinc_6, ↓ev_iload_1, ↓ev_iload_2, ↓ev_iload_3, ↓ev_iload_4, ↓ev_iload_5, ↓ev_iload_6, ↓ev_imul, ↓ev_ireturn_0, ↓ev_istore_6, ↓ev_nop, bq_Model_laysLeaves_0, bk_Model_laysLeaves_0, bq_Model_laysLeaves_3, bk_Model_laysLeaves_3, bq_Model_laysLeaves_52, bk_Model_laysLeaves_52, ↓reduceIte, false_and, and_false, List.not_mem_nil, List.mem_cons, or_false, or_true, true_or, false_or, Nat.reduceEqDiff, ab_ac, ab_ar, Nat.reduceSub, Nat.reduceLeDiff, Nat.reduceAdd, Nat.reduceLT, Int.cast_ofNat_Int, Int.ofNat_toNat, Int.toNat_natCast, ii_0, ii_1, ii_add, ii_sub, ii_mul, ii_neg, ii_lt, ii_le, ii_eq, ii_cl, ii_in, dc_lt_t, dc_lt_f, dc_le_t, dc_le_f, dc_eq_t, dc_eq_f, dn_lt_t, dn_le_t, dn_eq_t, dn_eq_f, hi_1, hi_2, and_self, Option.isSome_none, Option.isSome_some, Bool.false_eq_true, ii_s, ii_m, ii_mn, ii_2, st1_, st1_i, st1_r, st1_ii, st1_ir, st1_ri, st1_rr, st1_iii, st1_iir, st1_iri, st1_irr, st1_rii, st1_rir, st1_rri, st1_rrr, st1_iiii, st1_iiir, st1_iiri, st1_iirr, st1_irii, st1_irir, st1_irri, st1_irrr, st1_riii, st1_riir, st1_riri, st1_rirr, st1_rrii, st1_rrir, st1_rrri, st1_rrrr, st1_iiiii, st1_iiiir, st1_iiiri, st1_iiirr, st1_iirii, st1_iirir, st1_iirri, st1_iirrr, st1_iriii, st1_iriir, st1_iriri, st1_irirr, st1_irrii, st1_irrir, st1_irrri, st1_irrrr, st1_riiii, st1_riiir, st1_riiri, st1_riirr, st1_ririi, st1_ririr, st1_rirri, st1_rirrr, st1_rriii, st1_rriir, st1_rriri, st1_rrirr, st1_rrrii, st1_rrrir, st1_rrrri, st1_rrrrr, Option.toList_some, Option.toList_none, List.cons_append, List.nil_append, true_and, and_true, true_implies, false_implies, not_true_eq_false, not_false_eq_true, implies_true, eq_self]
  exact g
theorem sp_Px.nil {h : ab_H} {c : Nat} : sp_Px h c [] := fun p hp => absurd hp (Nat.not_lt_zero p)
theorem sp_Px.of {h : ab_H} {c f : Nat} {s : St} (hR : sp_R (h.1 193) s) (hc : c < 4) (hf : f ≤ (s.2.1 c).length) : sp_Px h c (sl (s.2.1 c) 0 f) := by
  intro p hp j hj
  rw [sl_len hf] at hp
  rw [sl_at (by omega) hf, Nat.zero_add]
  exact (hR.2.2.2 c hc).2 p (by omega) j hj
theorem bk_mv_lo {L : Bk} {p z : Nat} (hp : p < L.length) (hz : z < bu_f L p) : bk_mv L p z = sl L 0 z ++ sl L (bu_f L p) (bu_e L p) ++ sl L z (bu_f L p) ++ sl L (bu_e L p) L.length := by
  have h1 := bu_e_le L hp
  have h2 := bu_f_le L p
  unfold bk_mv bk_cut
  have e1 : (sl L 0 (bu_f L p)).length = bu_f L p := by rw [sl_len (by omega)]; omega
  have e2 : sl (sl L 0 (bu_f L p) ++ sl L (bu_e L p) L.length) 0 z = sl L 0 z := by
    unfold sl
    simp only [List.drop_zero, Nat.sub_zero]
    rw [List.take_append_of_le_length (by rw [List.length_take]; omega), List.take_take]
    congr 1; omega
  have e3 : sl (sl L 0 (bu_f L p) ++ sl L (bu_e L p) L.length) z (sl L 0 (bu_f L p) ++ sl L (bu_e L p) L.length).length = sl L z (bu_f L p) ++ sl L (bu_e L p) L.length := by
    have : ∀ (X : Bk) (k : Nat), sl X k X.length = X.drop k := fun X k => by unfold sl; rw [List.take_of_length_le (by rw [List.length_drop]; omega)]
    rw [this, List.drop_append_of_le_length (by omega)]
    congr 1
    unfold sl
    rw [List.drop_zero, List.drop_take]
    congr 1
  rw [e2, e3, ← List.append_assoc]
theorem bk_mv_hi {L : Bk} {p z : Nat} (hp : p < L.length) (hz : bu_f L p ≤ z) (hz2 : z + (bu_e L p - bu_f L p) ≤ L.length) : bk_mv L p z = sl L 0 (bu_f L p) ++ sl L (bu_e L p) (z + (bu_e L p - bu_f L p)) ++ sl L (bu_f L p) (bu_e L p) ++ sl L (z + (bu_e L p - bu_f L p)) L.length := by
  have h1 := bu_e_le L hp
  have h2 := bu_f_le L p
  unfold bk_mv bk_cut
  have e1 : (sl L 0 (bu_f L p)).length = bu_f L p := by rw [sl_len (by omega)]; omega
  have hd : ∀ (X : Bk) (k : Nat), sl X k X.length = X.drop k := fun X k => by unfold sl; rw [List.take_of_length_le (by rw [List.length_drop]; omega)]
  have e2 : sl (sl L 0 (bu_f L p) ++ sl L (bu_e L p) L.length) 0 z = sl L 0 (bu_f L p) ++ sl L (bu_e L p) (z + (bu_e L p - bu_f L p)) := by
    have : sl (sl L 0 (bu_f L p) ++ sl L (bu_e L p) L.length) 0 z = (sl L 0 (bu_f L p) ++ sl L (bu_e L p) L.length).take z := by unfold sl; rw [List.drop_zero, Nat.sub_zero]
    rw [this, List.take_append, e1, List.take_of_length_le (by omega), hd]
    congr 1
    unfold sl
    congr 1; omega
  have e3 : sl (sl L 0 (bu_f L p) ++ sl L (bu_e L p) L.length) z (sl L 0 (bu_f L p) ++ sl L (bu_e L p) L.length).length = sl L (z + (bu_e L p - bu_f L p)) L.length := by
    rw [hd, List.drop_append, e1, List.drop_of_length_le (by omega), List.nil_append, hd, hd, List.drop_drop]
    congr 1; omega
  rw [e2, e3]
