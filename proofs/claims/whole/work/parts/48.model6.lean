/-! ===== FairBooksModel: changes (1) ===== -/
def md_H (b : Bool) (s : St) (H : List St) (x : Int32) : List St := if b = true then H else if x < Int32.ofInt 0 then H else hi_keep s H
theorem md_no {b : Bool} {s : St} {H : List St} {x : Int32} (h : x < Int32.ofInt 0) : md_H b s H x = H := by
  unfold md_H; rw [if_pos h]; split <;> rfl
theorem md_yes {b : Bool} {s : St} {H : List St} {z : Int} (h0 : 0 ≤ z) (h1 : z < 2147483648) : md_H b s H (Int32.ofInt z) = if b = true then H else hi_keep s H := by
  unfold md_H; rw [if_neg (fun q : Int32.ofInt z < Int32.ofInt 0 => by rw [ii_lt (by omega) (by omega) (by omega) (by omega)] at q; omega)]
theorem e_inv_n : e_inv < Int32.ofInt 0 := by decide
theorem e_np_n : e_np < Int32.ofInt 0 := by decide
theorem e_lim_n : e_lim < Int32.ofInt 0 := by decide
theorem op_r.un {m : Int} {s : St} {r : Int32 × St} (h : op_r m s r) (hs : st_inv m s) : st_un r.2 := by
  rcases h with ⟨-, h⟩ | ⟨h, -⟩
  · exact h.un
  · rw [h]; exact hs.un
theorem sp_R.book {r r' : Nat → Int32} {s : St} {c : Nat} {L : Bk} (h : sp_R r s) (hz : st_sz s) (hc : c < 4) (e : ∀ k, k < 235 → (k < bo c ∨ bo c + 49 ≤ k) → r' k = r k) (e0 : r' (bo c) = Int32.ofInt L.length)
    (ej : ∀ p, p < L.length → ∀ j, j < 6 → r' (pl c p + j) = lf_j (lf_at L p) j) : sp_R r' (up_B s c L) := by
  obtain ⟨⟨a0, a1, a2⟩, b, n, d⟩ := h
  obtain ⟨z1, z2⟩ := hz
  unfold bo at e
  refine ⟨⟨by rw [e 0 (by omega) (by omega)]; exact a0, by rw [e 1 (by omega) (by omega)]; exact a1, by rw [e 2 (by omega) (by omega)]; exact a2⟩, fun k hk => by rw [e _ (by omega) (by omega)]; exact b k hk, fun i hi => ?_, fun k hk => ?_⟩
  · have hi2 : i < s.1.length := hi
    rw [e _ (by omega) (by omega), e _ (by omega) (by omega)]; exact n i hi
  · show r' (bo k) = Int32.ofInt (if k = c then L else s.2.1 k).length ∧ ∀ p, p < (if k = c then L else s.2.1 k).length → ∀ j, j < 6 → r' (pl k p + j) = lf_j (lf_at (if k = c then L else s.2.1 k) p) j
    by_cases g : k = c
    · subst g; rw [if_pos rfl]; exact ⟨e0, ej⟩
    · rw [if_neg g]
      have z3 := z2 k hk
      refine ⟨?_, fun p hp j hj => ?_⟩
      · rw [e _ (by unfold bo; omega) (by unfold bo; omega)]; exact (d k hk).1
      · rw [e _ (by unfold pl; omega) (by unfold pl; omega)]; exact (d k hk).2 p hp j hj
theorem lf_j6 {r : Nat → Int32} {a : Nat} {l : Lf} (e0 : r a = lf_num l) (e1 : r (a + 1) = lf_fn l) (e2 : r (a + 2) = lf_ft l) (e3 : r (a + 3) = lf_bn l) (e4 : r (a + 4) = lf_bt l) (e5 : r (a + 5) = lf_ov l) : ∀ j, j < 6 → r (a + j) = lf_j l j := by
  intro j hj
  rcases (show j = 0 ∨ j = 1 ∨ j = 2 ∨ j = 3 ∨ j = 4 ∨ j = 5 by omega) with rfl | rfl | rfl | rfl | rfl | rfl
  · exact e0
  · exact e1
  · exact e2
  · exact e3
  · exact e4
  · exact e5
theorem sp_R.set {r r' : Nat → Int32} {s : St} {c p : Nat} {l : Lf} (h : sp_R r s) (hz : st_sz s) (hc : c < 4) (hp : p < (s.2.1 c).length) (e : ∀ k, k < 235 → (k < pl c p ∨ pl c p + 6 ≤ k) → r' k = r k)
    (el : ∀ j, j < 6 → r' (pl c p + j) = lf_j l j) : sp_R r' (up_B s c ((s.2.1 c).set p l)) := by
  have h8 := hz.2 c hc
  have b1 := bo_le hc
  have p0 : pl c p = bo c + 1 + 6 * p := rfl
  refine h.book hz hc (fun k hk hk2 => e k hk (by omega)) ?_ (fun p' hp' j hj => ?_)
  · rw [e _ b1.2 (by omega), List.length_set]; exact (h.2.2.2 c hc).1
  · rw [List.length_set] at hp'
    have p1 := pl_le hc (show p' < 8 by omega)
    have p2 : pl c p' = bo c + 1 + 6 * p' := rfl
    rw [lf_set hp]
    by_cases g : p' = p
    · subst g; rw [if_pos rfl]; exact el j hj
    · rw [if_neg g, e _ (by omega) (by omega)]
      exact (h.2.2.2 c hc).2 p' hp' j hj
theorem en_0 {L : Bk} {n c p sd : Nat} (hw : bk_ok n L) (hp : p < L.length) (hs : sd < 2) : en_at L c p sd = -1 ↔ pg_k L (2 * p + sd) = Int32.ofInt 0 := by
  rcases en_of (c := c) hw hp hs with ⟨h1, h2⟩ | ⟨h1, j, q, h2, -⟩
  · exact ⟨fun _ => h2, fun _ => h1⟩
  · exact ⟨fun k => by rw [h2] at k; omega, fun k => absurd k h1⟩
theorem en_le {L : Bk} {n c p sd : Nat} (hw : bk_ok n L) (hp : p < L.length) (hs : sd < 2) (hc : c < 4) (h8 : L.length ≤ 8) : -1 ≤ en_at L c p sd ∧ en_at L c p sd < 234 := by
  rcases en_of (c := c) hw hp hs with ⟨h1, h2⟩ | ⟨h1, j, q, h2, h3, h4, -⟩
  · rw [h1]; omega
  · rw [h2]
    have := pl_le hc (show j < 8 by omega)
    rcases h4 with rfl | rfl <;> omega
set_option maxRecDepth 100000 in
set_option maxHeartbeats 4000000 in
theorem sp_Model_name {f t m : Int} {b : Bool} {s : St} {H : List St} {h : ab_H} {Q : Option Value → ab_H → Prop} (hW : sp_MW h b s H) (hi : st_inv m s) (f1 : -2147483648 ≤ f) (f2 : f < 2147483648) (t1 : -2147483648 ≤ t) (t2 : t < 2147483648)
    (hq : ∀ h', sp_md h h' → sp_MW h' b (op_name s f t).2 (md_H b s H (op_name s f t).1) → Q (some (.int (op_name s f t).1)) h') : ab_C 1 yn_Model_name 200 [.ref 192, .int (Int32.ofInt f), .int (Int32.ofInt t)] h Q := by
  refine ab_of ⟨Nat.le_of_ble_eq_true rfl, Nat.le_of_ble_eq_true rfl⟩ (by simp [Value.category]) (Nat.le_of_ble_eq_true rfl) ?_
  show ab_W 1 yn_Model_name 0 200 0 0 [some (.ref 192), some (.int (Int32.ofInt f)), some (.int (Int32.ofInt t)), none] [] h Q
  obtain ⟨hF, hR, hM, h5⟩ := id hW
  obtain ⟨q0, q1, q2, q3, q6, q8, q23⟩ := sp_M hF
  have h16 := hi.1.1
  unfold op_name at hq
  refine ab_go [] 12 bo_Model_name ?_
  simp -implicitDefEqProofs (disch := omega) only [ii_b, ↓ev_rn, ↓ev_aload_0, ↓ev_aload_0N, ↓ev_bipush, ↓ev_calls_3, ↓ev_callv_1, ↓ev_dup2, ↓ev_getfield_1, ↓ev_iadd, ↓ev_iaload, ↓ev_iastore, ↓ev_icmp_ne, ↓ev_iconst, ↓ev_if_eq, ↓ev_if_ne, ↓ev_iload_1, ↓ev_iload_2, ↓ev_iload_3, ↓ev_imul, ↓ev_ireturn_0, ↓ev_istore_3, ↓ev_ldc, ↓ev_nop, bq_Model_name_0, bk_Model_name_0, bq_Model_name_19, bk_Model_name_19, bq_Model_name_22, bk_Model_name_22, bq_Model_name_38, bk_Model_name_38, ↓reduceIte, false_and, and_false, List.not_mem_nil, List.mem_cons, or_false, or_true, true_or, false_or, Nat.reduceEqDiff, ab_ac, ab_ar, Nat.reduceSub, Nat.reduceLeDiff, Nat.reduceAdd, Nat.reduceLT, Int.cast_ofNat_Int, Int.ofNat_toNat, Int.toNat_natCast, ii_0, ii_1, ii_add, ii_sub, ii_mul, ii_neg, ii_lt, ii_le, ii_eq, ii_cl, ii_in, dc_lt_t, dc_lt_f, dc_le_t, dc_le_f, dc_eq_t, dc_eq_f, dn_lt_t, dn_le_t, dn_eq_t, dn_eq_f, hi_1, hi_2, and_self, Option.isSome_none, Option.isSome_some, Bool.false_eq_true, ii_s, ii_m, ii_mn, ii_2, st1_, st1_i, st1_r, st1_ii, st1_ir, st1_ri, st1_rr, st1_iii, st1_iir, st1_iri, st1_irr, st1_rii, st1_rir, st1_rri, st1_rrr, st1_iiii, st1_iiir, st1_iiri, st1_iirr, st1_irii, st1_irir, st1_irri, st1_irrr, st1_riii, st1_riir, st1_riri, st1_rirr, st1_rrii, st1_rrir, st1_rrri, st1_rrrr, st1_iiiii, st1_iiiir, st1_iiiri, st1_iiirr, st1_iirii, st1_iirir, st1_iirri, st1_iirrr, st1_iriii, st1_iriir, st1_iriri, st1_irirr, st1_irrii, st1_irrir, st1_irrri, st1_irrrr, st1_riiii, st1_riiir, st1_riiri, st1_riirr, st1_ririi, st1_ririr, st1_rirri, st1_rirrr, st1_rriii, st1_rriir, st1_rriri, st1_rrirr, st1_rrrii, st1_rrrir, st1_rrrri, st1_rrrrr, Option.toList_some, Option.toList_none, List.cons_append, List.nil_append, true_and, and_true, true_implies, false_implies, not_true_eq_false, not_false_eq_true, implies_true, eq_self, q0, q1, q2, q3, q6, q8, q23, hh_192, hh_193, hh_194, hh_195, hh_196, hh_197, hh_198, hh_199, Int.add_zero, ii_p2, ii_p3, ii_p4, ii_p5]
  refine ab_C.up (d := 0) (sp_Model_in f1 f2 (by omega) (by omega) (by omega) (by omega) ?_) (Nat.le_of_ble_eq_true rfl)
  by_cases c1 : 1 ≤ f ∧ f ≤ 50
  rotate_left
  · rw [if_neg (by omega)] at hq
    have d1 : (if 1 ≤ f ∧ f ≤ 50 then (1 : Int) else 0) = 0 := if_neg c1
    simp -implicitDefEqProofs (disch := omega) only [ii_b, ↓ev_rn, ↓ev_aload_0, ↓ev_aload_0N, ↓ev_bipush, ↓ev_calls_3, ↓ev_callv_1, ↓ev_dup2, ↓ev_getfield_1, ↓ev_iadd, ↓ev_iaload, ↓ev_iastore, ↓ev_icmp_ne, ↓ev_iconst, ↓ev_if_eq, ↓ev_if_ne, ↓ev_iload_1, ↓ev_iload_2, ↓ev_iload_3, ↓ev_imul, ↓ev_ireturn_0, ↓ev_istore_3, ↓ev_ldc, ↓ev_nop, bq_Model_name_0, bk_Model_name_0, bq_Model_name_19, bk_Model_name_19, bq_Model_name_22, bk_Model_name_22, bq_Model_name_38, bk_Model_name_38, ↓reduceIte, false_and, and_false, List.not_mem_nil, List.mem_cons, or_false, or_true, true_or, false_or, Nat.reduceEqDiff, ab_ac, ab_ar, Nat.reduceSub, Nat.reduceLeDiff, Nat.reduceAdd, Nat.reduceLT, Int.cast_ofNat_Int, Int.ofNat_toNat, Int.toNat_natCast, ii_0, ii_1, ii_add, ii_sub, ii_mul, ii_neg, ii_lt, ii_le, ii_eq, ii_cl, ii_in, dc_lt_t, dc_lt_f, dc_le_t, dc_le_f, dc_eq_t, dc_eq_f, dn_lt_t, dn_le_t, dn_eq_t, dn_eq_f, hi_1, hi_2, and_self, Option.isSome_none, Option.isSome_some, Bool.false_eq_true, ii_s, ii_m, ii_mn, ii_2, st1_, st1_i, st1_r, st1_ii, st1_ir, st1_ri, st1_rr, st1_iii, st1_iir, st1_iri, st1_irr, st1_rii, st1_rir, st1_rri, st1_rrr, st1_iiii, st1_iiir, st1_iiri, st1_iirr, st1_irii, st1_irir, st1_irri, st1_irrr, st1_riii, st1_riir, st1_riri, st1_rirr, st1_rrii, st1_rrir, st1_rrri, st1_rrrr, st1_iiiii, st1_iiiir, st1_iiiri, st1_iiirr, st1_iirii, st1_iirir, st1_iirri, st1_iirrr, st1_iriii, st1_iriir, st1_iriri, st1_irirr, st1_irrii, st1_irrir, st1_irrri, st1_irrrr, st1_riiii, st1_riiir, st1_riiri, st1_riirr, st1_ririi, st1_ririr, st1_rirri, st1_rirrr, st1_rriii, st1_rriir, st1_rriri, st1_rrirr, st1_rrrii, st1_rrrir, st1_rrrri, st1_rrrrr, Option.toList_some, Option.toList_none, List.cons_append, List.nil_append, true_and, and_true, true_implies, false_implies, not_true_eq_false, not_false_eq_true, implies_true, eq_self, q0, q1, q2, q3, q6, q8, q23, hh_192, hh_193, hh_194, hh_195, hh_196, hh_197, hh_198, hh_199, Int.add_zero, ii_p2, ii_p3, ii_p4, ii_p5, d1]
    exact hq h sp_md.rf (by rw [md_no e_inv_n]; exact hW)
  simp -implicitDefEqProofs (disch := omega) only [ii_b, ↓ev_rn, ↓ev_aload_0, ↓ev_aload_0N, ↓ev_bipush, ↓ev_calls_3, ↓ev_callv_1, ↓ev_dup2, ↓ev_getfield_1, ↓ev_iadd, ↓ev_iaload, ↓ev_iastore, ↓ev_icmp_ne, ↓ev_iconst, ↓ev_if_eq, ↓ev_if_ne, ↓ev_iload_1, ↓ev_iload_2, ↓ev_iload_3, ↓ev_imul, ↓ev_ireturn_0, ↓ev_istore_3, ↓ev_ldc, ↓ev_nop, bq_Model_name_0, bk_Model_name_0, bq_Model_name_19, bk_Model_name_19, bq_Model_name_22, bk_Model_name_22, bq_Model_name_38, bk_Model_name_38, ↓reduceIte, false_and, and_false, List.not_mem_nil, List.mem_cons, or_false, or_true, true_or, false_or, Nat.reduceEqDiff, ab_ac, ab_ar, Nat.reduceSub, Nat.reduceLeDiff, Nat.reduceAdd, Nat.reduceLT, Int.cast_ofNat_Int, Int.ofNat_toNat, Int.toNat_natCast, ii_0, ii_1, ii_add, ii_sub, ii_mul, ii_neg, ii_lt, ii_le, ii_eq, ii_cl, ii_in, dc_lt_t, dc_lt_f, dc_le_t, dc_le_f, dc_eq_t, dc_eq_f, dn_lt_t, dn_le_t, dn_eq_t, dn_eq_f, hi_1, hi_2, and_self, Option.isSome_none, Option.isSome_some, Bool.false_eq_true, ii_s, ii_m, ii_mn, ii_2, st1_, st1_i, st1_r, st1_ii, st1_ir, st1_ri, st1_rr, st1_iii, st1_iir, st1_iri, st1_irr, st1_rii, st1_rir, st1_rri, st1_rrr, st1_iiii, st1_iiir, st1_iiri, st1_iirr, st1_irii, st1_irir, st1_irri, st1_irrr, st1_riii, st1_riir, st1_riri, st1_rirr, st1_rrii, st1_rrir, st1_rrri, st1_rrrr, st1_iiiii, st1_iiiir, st1_iiiri, st1_iiirr, st1_iirii, st1_iirir, st1_iirri, st1_iirrr, st1_iriii, st1_iriir, st1_iriri, st1_irirr, st1_irrii, st1_irrir, st1_irrri, st1_irrrr, st1_riiii, st1_riiir, st1_riiri, st1_riirr, st1_ririi, st1_ririr, st1_rirri, st1_rirrr, st1_rriii, st1_rriir, st1_rriri, st1_rrirr, st1_rrrii, st1_rrrir, st1_rrrri, st1_rrrrr, Option.toList_some, Option.toList_none, List.cons_append, List.nil_append, true_and, and_true, true_implies, false_implies, not_true_eq_false, not_false_eq_true, implies_true, eq_self, q0, q1, q2, q3, q6, q8, q23, hh_192, hh_193, hh_194, hh_195, hh_196, hh_197, hh_198, hh_199, Int.add_zero, ii_p2, ii_p3, ii_p4, ii_p5]
  refine ab_C.up (d := 0) (sp_Model_in t1 t2 (by omega) (by omega) (by omega) (by omega) ?_) (Nat.le_of_ble_eq_true rfl)
  by_cases c2 : 0 ≤ t ∧ t ≤ 3
  rotate_left
  · rw [if_neg (by omega)] at hq
    have d1 : (if 0 ≤ t ∧ t ≤ 3 then (1 : Int) else 0) = 0 := if_neg c2
    simp -implicitDefEqProofs (disch := omega) only [ii_b, ↓ev_rn, ↓ev_aload_0, ↓ev_aload_0N, ↓ev_bipush, ↓ev_calls_3, ↓ev_callv_1, ↓ev_dup2, ↓ev_getfield_1, ↓ev_iadd, ↓ev_iaload, ↓ev_iastore, ↓ev_icmp_ne, ↓ev_iconst, ↓ev_if_eq, ↓ev_if_ne, ↓ev_iload_1, ↓ev_iload_2, ↓ev_iload_3, ↓ev_imul, ↓ev_ireturn_0, ↓ev_istore_3, ↓ev_ldc, ↓ev_nop, bq_Model_name_0, bk_Model_name_0, bq_Model_name_19, bk_Model_name_19, bq_Model_name_22, bk_Model_name_22, bq_Model_name_38, bk_Model_name_38, ↓reduceIte, false_and, and_false, List.not_mem_nil, List.mem_cons, or_false, or_true, true_or, false_or, Nat.reduceEqDiff, ab_ac, ab_ar, Nat.reduceSub, Nat.reduceLeDiff, Nat.reduceAdd, Nat.reduceLT, Int.cast_ofNat_Int, Int.ofNat_toNat, Int.toNat_natCast, ii_0, ii_1, ii_add, ii_sub, ii_mul, ii_neg, ii_lt, ii_le, ii_eq, ii_cl, ii_in, dc_lt_t, dc_lt_f, dc_le_t, dc_le_f, dc_eq_t, dc_eq_f, dn_lt_t, dn_le_t, dn_eq_t, dn_eq_f, hi_1, hi_2, and_self, Option.isSome_none, Option.isSome_some, Bool.false_eq_true, ii_s, ii_m, ii_mn, ii_2, st1_, st1_i, st1_r, st1_ii, st1_ir, st1_ri, st1_rr, st1_iii, st1_iir, st1_iri, st1_irr, st1_rii, st1_rir, st1_rri, st1_rrr, st1_iiii, st1_iiir, st1_iiri, st1_iirr, st1_irii, st1_irir, st1_irri, st1_irrr, st1_riii, st1_riir, st1_riri, st1_rirr, st1_rrii, st1_rrir, st1_rrri, st1_rrrr, st1_iiiii, st1_iiiir, st1_iiiri, st1_iiirr, st1_iirii, st1_iirir, st1_iirri, st1_iirrr, st1_iriii, st1_iriir, st1_iriri, st1_irirr, st1_irrii, st1_irrir, st1_irrri, st1_irrrr, st1_riiii, st1_riiir, st1_riiri, st1_riirr, st1_ririi, st1_ririr, st1_rirri, st1_rirrr, st1_rriii, st1_rriir, st1_rriri, st1_rrirr, st1_rrrii, st1_rrrir, st1_rrrri, st1_rrrrr, Option.toList_some, Option.toList_none, List.cons_append, List.nil_append, true_and, and_true, true_implies, false_implies, not_true_eq_false, not_false_eq_true, implies_true, eq_self, q0, q1, q2, q3, q6, q8, q23, hh_192, hh_193, hh_194, hh_195, hh_196, hh_197, hh_198, hh_199, Int.add_zero, ii_p2, ii_p3, ii_p4, ii_p5, d1]
    exact hq h sp_md.rf (by rw [md_no e_inv_n]; exact hW)
  rw [if_pos (by omega)] at hq
  have e0 : h.1 193 (Int.toNat 0) = Int32.ofInt s.1.length := hR.1.1
  by_cases c3 : 16 ≤ s.1.length
  · rw [if_pos c3] at hq
    have c4 : s.1.length = 16 := by omega
    rw [c4] at e0
    simp -implicitDefEqProofs (disch := omega) only [ii_b, ↓ev_rn, ↓ev_aload_0, ↓ev_aload_0N, ↓ev_bipush, ↓ev_calls_3, ↓ev_callv_1, ↓ev_dup2, ↓ev_getfield_1, ↓ev_iadd, ↓ev_iaload, ↓ev_iastore, ↓ev_icmp_ne, ↓ev_iconst, ↓ev_if_eq, ↓ev_if_ne, ↓ev_iload_1, ↓ev_iload_2, ↓ev_iload_3, ↓ev_imul, ↓ev_ireturn_0, ↓ev_istore_3, ↓ev_ldc, ↓ev_nop, bq_Model_name_0, bk_Model_name_0, bq_Model_name_19, bk_Model_name_19, bq_Model_name_22, bk_Model_name_22, bq_Model_name_38, bk_Model_name_38, ↓reduceIte, false_and, and_false, List.not_mem_nil, List.mem_cons, or_false, or_true, true_or, false_or, Nat.reduceEqDiff, ab_ac, ab_ar, Nat.reduceSub, Nat.reduceLeDiff, Nat.reduceAdd, Nat.reduceLT, Int.cast_ofNat_Int, Int.ofNat_toNat, Int.toNat_natCast, ii_0, ii_1, ii_add, ii_sub, ii_mul, ii_neg, ii_lt, ii_le, ii_eq, ii_cl, ii_in, dc_lt_t, dc_lt_f, dc_le_t, dc_le_f, dc_eq_t, dc_eq_f, dn_lt_t, dn_le_t, dn_eq_t, dn_eq_f, hi_1, hi_2, and_self, Option.isSome_none, Option.isSome_some, Bool.false_eq_true, ii_s, ii_m, ii_mn, ii_2, st1_, st1_i, st1_r, st1_ii, st1_ir, st1_ri, st1_rr, st1_iii, st1_iir, st1_iri, st1_irr, st1_rii, st1_rir, st1_rri, st1_rrr, st1_iiii, st1_iiir, st1_iiri, st1_iirr, st1_irii, st1_irir, st1_irri, st1_irrr, st1_riii, st1_riir, st1_riri, st1_rirr, st1_rrii, st1_rrir, st1_rrri, st1_rrrr, st1_iiiii, st1_iiiir, st1_iiiri, st1_iiirr, st1_iirii, st1_iirir, st1_iirri, st1_iirrr, st1_iriii, st1_iriir, st1_iriri, st1_irirr, st1_irrii, st1_irrir, st1_irrri, st1_irrrr, st1_riiii, st1_riiir, st1_riiri, st1_riirr, st1_ririi, st1_ririr, st1_rirri, st1_rirrr, st1_rriii, st1_rriir, st1_rriri, st1_rrirr, st1_rrrii, st1_rrrir, st1_rrrri, st1_rrrrr, Option.toList_some, Option.toList_none, List.cons_append, List.nil_append, true_and, and_true, true_implies, false_implies, not_true_eq_false, not_false_eq_true, implies_true, eq_self, q0, q1, q2, q3, q6, q8, q23, hh_192, hh_193, hh_194, hh_195, hh_196, hh_197, hh_198, hh_199, Int.add_zero, ii_p2, ii_p3, ii_p4, ii_p5, e0, Int.reduceAdd, Int.reduceNeg, Int.reduceLT, Int.reduceEq, Int.reduceLE, zn_0, zn_1, zn_2, zn_3]
    exact hq h sp_md.rf (by rw [md_no e_lim_n]; exact hW)
  rw [if_neg c3] at hq
  simp -implicitDefEqProofs (disch := omega) only [ii_b, ↓ev_rn, ↓ev_aload_0, ↓ev_aload_0N, ↓ev_bipush, ↓ev_calls_3, ↓ev_callv_1, ↓ev_dup2, ↓ev_getfield_1, ↓ev_iadd, ↓ev_iaload, ↓ev_iastore, ↓ev_icmp_ne, ↓ev_iconst, ↓ev_if_eq, ↓ev_if_ne, ↓ev_iload_1, ↓ev_iload_2, ↓ev_iload_3, ↓ev_imul, ↓ev_ireturn_0, ↓ev_istore_3, ↓ev_ldc, ↓ev_nop, bq_Model_name_0, bk_Model_name_0, bq_Model_name_19, bk_Model_name_19, bq_Model_name_22, bk_Model_name_22, bq_Model_name_38, bk_Model_name_38, ↓reduceIte, false_and, and_false, List.not_mem_nil, List.mem_cons, or_false, or_true, true_or, false_or, Nat.reduceEqDiff, ab_ac, ab_ar, Nat.reduceSub, Nat.reduceLeDiff, Nat.reduceAdd, Nat.reduceLT, Int.cast_ofNat_Int, Int.ofNat_toNat, Int.toNat_natCast, ii_0, ii_1, ii_add, ii_sub, ii_mul, ii_neg, ii_lt, ii_le, ii_eq, ii_cl, ii_in, dc_lt_t, dc_lt_f, dc_le_t, dc_le_f, dc_eq_t, dc_eq_f, dn_lt_t, dn_le_t, dn_eq_t, dn_eq_f, hi_1, hi_2, and_self, Option.isSome_none, Option.isSome_some, Bool.false_eq_true, ii_s, ii_m, ii_mn, ii_2, st1_, st1_i, st1_r, st1_ii, st1_ir, st1_ri, st1_rr, st1_iii, st1_iir, st1_iri, st1_irr, st1_rii, st1_rir, st1_rri, st1_rrr, st1_iiii, st1_iiir, st1_iiri, st1_iirr, st1_irii, st1_irir, st1_irri, st1_irrr, st1_riii, st1_riir, st1_riri, st1_rirr, st1_rrii, st1_rrir, st1_rrri, st1_rrrr, st1_iiiii, st1_iiiir, st1_iiiri, st1_iiirr, st1_iirii, st1_iirir, st1_iirri, st1_iirrr, st1_iriii, st1_iriir, st1_iriri, st1_irirr, st1_irrii, st1_irrir, st1_irrri, st1_irrrr, st1_riiii, st1_riiir, st1_riiri, st1_riirr, st1_ririi, st1_ririr, st1_rirri, st1_rirrr, st1_rriii, st1_rriir, st1_rriri, st1_rrirr, st1_rrrii, st1_rrrir, st1_rrrri, st1_rrrrr, Option.toList_some, Option.toList_none, List.cons_append, List.nil_append, true_and, and_true, true_implies, false_implies, not_true_eq_false, not_false_eq_true, implies_true, eq_self, q0, q1, q2, q3, q6, q8, q23, hh_192, hh_193, hh_194, hh_195, hh_196, hh_197, hh_198, hh_199, Int.add_zero, ii_p2, ii_p3, ii_p4, ii_p5, e0]
  refine ab_C.up (d := 0) (sp_Model_records hW hi.un.sz (fun h1 g1 g2 g3 => ?_)) (Nat.le_of_ble_eq_true rfl)
  obtain ⟨q0, q1, q2, q3, q6, q8, q23⟩ := sp_M g2.1
  have e1 : h1.1 193 (Int.toNat 0) = Int32.ofInt s.1.length := by rw [g3]; exact e0
  rw [md_yes (by omega) (by omega)] at hq
  simp -implicitDefEqProofs (disch := omega) only [ii_b, ↓ev_rn, ↓ev_aload_0, ↓ev_aload_0N, ↓ev_bipush, ↓ev_calls_3, ↓ev_callv_1, ↓ev_dup2, ↓ev_getfield_1, ↓ev_iadd, ↓ev_iaload, ↓ev_iastore, ↓ev_icmp_ne, ↓ev_iconst, ↓ev_if_eq, ↓ev_if_ne, ↓ev_iload_1, ↓ev_iload_2, ↓ev_iload_3, ↓ev_imul, ↓ev_ireturn_0, ↓ev_istore_3, ↓ev_ldc, ↓ev_nop, bq_Model_name_0, bk_Model_name_0, bq_Model_name_19, bk_Model_name_19, bq_Model_name_22, bk_Model_name_22, bq_Model_name_38, bk_Model_name_38, ↓reduceIte, false_and, and_false, List.not_mem_nil, List.mem_cons, or_false, or_true, true_or, false_or, Nat.reduceEqDiff, ab_ac, ab_ar, Nat.reduceSub, Nat.reduceLeDiff, Nat.reduceAdd, Nat.reduceLT, Int.cast_ofNat_Int, Int.ofNat_toNat, Int.toNat_natCast, ii_0, ii_1, ii_add, ii_sub, ii_mul, ii_neg, ii_lt, ii_le, ii_eq, ii_cl, ii_in, dc_lt_t, dc_lt_f, dc_le_t, dc_le_f, dc_eq_t, dc_eq_f, dn_lt_t, dn_le_t, dn_eq_t, dn_eq_f, hi_1, hi_2, and_self, Option.isSome_none, Option.isSome_some, Bool.false_eq_true, ii_s, ii_m, ii_mn, ii_2, st1_, st1_i, st1_r, st1_ii, st1_ir, st1_ri, st1_rr, st1_iii, st1_iir, st1_iri, st1_irr, st1_rii, st1_rir, st1_rri, st1_rrr, st1_iiii, st1_iiir, st1_iiri, st1_iirr, st1_irii, st1_irir, st1_irri, st1_irrr, st1_riii, st1_riir, st1_riri, st1_rirr, st1_rrii, st1_rrir, st1_rrri, st1_rrrr, st1_iiiii, st1_iiiir, st1_iiiri, st1_iiirr, st1_iirii, st1_iirir, st1_iirri, st1_iirrr, st1_iriii, st1_iriir, st1_iriri, st1_irirr, st1_irrii, st1_irrir, st1_irrri, st1_irrrr, st1_riiii, st1_riiir, st1_riiri, st1_riirr, st1_ririi, st1_ririr, st1_rirri, st1_rirrr, st1_rriii, st1_rriir, st1_rriri, st1_rrirr, st1_rrrii, st1_rrrir, st1_rrrri, st1_rrrrr, Option.toList_some, Option.toList_none, List.cons_append, List.nil_append, true_and, and_true, true_implies, false_implies, not_true_eq_false, not_false_eq_true, implies_true, eq_self, q0, q1, q2, q3, q6, q8, q23, hh_192, hh_193, hh_194, hh_195, hh_196, hh_197, hh_198, hh_199, Int.add_zero, ii_p2, ii_p3, ii_p4, ii_p5, ii_7, e1]
  refine hq _ (((g1.w (Or.inl rfl)).w (Or.inl rfl)).w (Or.inl rfl)) (g2.put rfl (by rw [hi_o (by omega), hi_o (by omega), hi_o (by omega)]) (by rw [hi_o (by omega), hi_o (by omega), hi_o (by omega)]) ?_)
  obtain ⟨⟨a0, a1, a2⟩, a3, a4, a5⟩ := hR
  have ek : ∀ k : Nat, k ≠ 7 + 2 * s.1.length → k ≠ 7 + 2 * s.1.length + 1 → k ≠ 0 → (ab_hi (ab_hi (ab_hi h1 193 (7 + 2 * s.1.length) (Int32.ofInt f)) 193 (7 + 2 * s.1.length + 1) (Int32.ofInt t)) 193 (Int.toNat 0) (Int32.ofInt ((s.1.length + 1 : Nat) : Int))).1 193 k = h.1 193 k := by
    intro k k1 k2 k3
    rw [hi_1, if_neg (fun q => k3 q.2), hi_1, if_neg (fun q => k2 q.2), hi_1, if_neg (fun q => k1 q.2), g3]
  refine ⟨⟨?_, ?_, ?_⟩, fun c hc => ?_, fun i hil => ?_, fun c hc => ⟨?_, fun p hp j hj => ?_⟩⟩
  · rw [hi_1, if_pos ⟨rfl, rfl⟩]
    show _ = Int32.ofInt ((s.1 ++ [(Int32.ofInt f, Int32.ofInt t)]).length : Nat)
    rw [List.length_append]; rfl
  · rw [ek 1 (by omega) (by omega) (by omega)]; exact a1
  · rw [ek 2 (by omega) (by omega) (by omega)]; exact a2
  · rw [ek _ (by omega) (by omega) (by omega)]; exact a3 c hc
  · show _ = (nm_at (s.1 ++ [(Int32.ofInt f, Int32.ofInt t)]) i).1 ∧ _ = (nm_at (s.1 ++ [(Int32.ofInt f, Int32.ofInt t)]) i).2
    by_cases c : i = s.1.length
    · subst c
      rw [nm_last]
      refine ⟨?_, ?_⟩
      · rw [hi_1, if_neg (fun q => absurd q.2 (by show ¬ 7 + 2 * s.1.length = 0; omega)), hi_1, if_neg (by omega), hi_1, if_pos ⟨rfl, rfl⟩]
      · rw [hi_1, if_neg (fun q => absurd q.2 (by show ¬ 7 + 2 * s.1.length + 1 = 0; omega)), hi_1, if_pos ⟨rfl, rfl⟩]
    · have hil2 : i < (s.1 ++ [(Int32.ofInt f, Int32.ofInt t)]).length := hil
      rw [List.length_append] at hil2
      simp only [List.length_cons, List.length_nil] at hil2
      rw [nm_push (by omega), ek _ (by omega) (by omega) (by omega), ek _ (by omega) (by omega) (by omega)]
      exact a4 i (by omega)
  · have := bo_le hc
    rw [ek _ (by omega) (by omega) (by omega)]; exact (a5 c hc).1
  · have hp2 : p < (s.2.1 c).length := hp
    have := hi.un.h8 c hc
    have := pl_le hc (show p < 8 by omega)
    rw [ek _ (by omega) (by omega) (by omega)]; exact (a5 c hc).2 p hp j hj
set_option maxRecDepth 100000 in
set_option maxHeartbeats 4000000 in
theorem sp_Model_coins {c k m : Int} {b : Bool} {s : St} {H : List St} {h : ab_H} {Q : Option Value → ab_H → Prop} (hW : sp_MW h b s H) (hi : st_inv m s) (c1 : -2147483648 ≤ c) (c2 : c < 2147483648) (k1 : -2147483648 ≤ k) (k2 : k < 2147483648)
    (hq : ∀ h', sp_md h h' → sp_MW h' b (op_coins s c k).2 (md_H b s H (op_coins s c k).1) → Q (some (.int (op_coins s c k).1)) h') : ab_C 2 yn_Model_coins 200 [.ref 192, .int (Int32.ofInt c), .int (Int32.ofInt k)] h Q := by
  refine ab_of ⟨Nat.le_of_ble_eq_true rfl, Nat.le_of_ble_eq_true rfl⟩ (by simp [Value.category]) (Nat.le_of_ble_eq_true rfl) ?_
  show ab_W 2 yn_Model_coins 0 200 0 0 [some (.ref 192), some (.int (Int32.ofInt c)), some (.int (Int32.ofInt k)), none] [] h Q
  obtain ⟨hF, hR, hM, h5⟩ := id hW
  obtain ⟨q0, q1, q2, q3, q6, q8, q23⟩ := sp_M hF
  unfold op_coins at hq
  refine ab_go [] 12 bo_Model_coins ?_
  simp -implicitDefEqProofs (disch := omega) only [ii_b, ↓ev_rn, ↓ev_aload_0, ↓ev_aload_0N, ↓ev_calls_1, ↓ev_calls_3, ↓ev_callv_1, ↓ev_getfield_1, ↓ev_iadd, ↓ev_iaload, ↓ev_iastore, ↓ev_iconst, ↓ev_if_eq, ↓ev_if_ne, ↓ev_iload_1, ↓ev_iload_2, ↓ev_iload_3, ↓ev_ireturn_0, ↓ev_istore_3, ↓ev_ldc, ↓ev_nop, ↓ev_sipush, bq_Model_coins_0, bk_Model_coins_0, bq_Model_coins_18, bk_Model_coins_18, bq_Model_coins_21, bk_Model_coins_21, ↓reduceIte, false_and, and_false, List.not_mem_nil, List.mem_cons, or_false, or_true, true_or, false_or, Nat.reduceEqDiff, ab_ac, ab_ar, Nat.reduceSub, Nat.reduceLeDiff, Nat.reduceAdd, Nat.reduceLT, Int.cast_ofNat_Int, Int.ofNat_toNat, Int.toNat_natCast, ii_0, ii_1, ii_add, ii_sub, ii_mul, ii_neg, ii_lt, ii_le, ii_eq, ii_cl, ii_in, dc_lt_t, dc_lt_f, dc_le_t, dc_le_f, dc_eq_t, dc_eq_f, dn_lt_t, dn_le_t, dn_eq_t, dn_eq_f, hi_1, hi_2, and_self, Option.isSome_none, Option.isSome_some, Bool.false_eq_true, ii_s, ii_m, ii_mn, ii_2, st1_, st1_i, st1_r, st1_ii, st1_ir, st1_ri, st1_rr, st1_iii, st1_iir, st1_iri, st1_irr, st1_rii, st1_rir, st1_rri, st1_rrr, st1_iiii, st1_iiir, st1_iiri, st1_iirr, st1_irii, st1_irir, st1_irri, st1_irrr, st1_riii, st1_riir, st1_riri, st1_rirr, st1_rrii, st1_rrir, st1_rrri, st1_rrrr, st1_iiiii, st1_iiiir, st1_iiiri, st1_iiirr, st1_iirii, st1_iirir, st1_iirri, st1_iirrr, st1_iriii, st1_iriir, st1_iriri, st1_irirr, st1_irrii, st1_irrir, st1_irrri, st1_irrrr, st1_riiii, st1_riiir, st1_riiri, st1_riirr, st1_ririi, st1_ririr, st1_rirri, st1_rirrr, st1_rriii, st1_rriir, st1_rriri, st1_rrirr, st1_rrrii, st1_rrrir, st1_rrrri, st1_rrrrr, Option.toList_some, Option.toList_none, List.cons_append, List.nil_append, true_and, and_true, true_implies, false_implies, not_true_eq_false, not_false_eq_true, implies_true, eq_self, q0, q1, q2, q3, q6, q8, q23, hh_192, hh_193, hh_194, hh_195, hh_196, hh_197, hh_198, hh_199, Int.add_zero, ii_p2, ii_p3, ii_p4, ii_p5]
  refine ab_C.up (d := 1) (sp_Model_isCollector c1 c2 ?_) (Nat.le_of_ble_eq_true rfl)
  by_cases d1 : 0 ≤ c ∧ c ≤ 3
  rotate_left
  · rw [if_neg (by omega)] at hq
    have e : (if 0 ≤ c ∧ c ≤ 3 then (1 : Int) else 0) = 0 := if_neg d1
    simp -implicitDefEqProofs (disch := omega) only [ii_b, ↓ev_rn, ↓ev_aload_0, ↓ev_aload_0N, ↓ev_calls_1, ↓ev_calls_3, ↓ev_callv_1, ↓ev_getfield_1, ↓ev_iadd, ↓ev_iaload, ↓ev_iastore, ↓ev_iconst, ↓ev_if_eq, ↓ev_if_ne, ↓ev_iload_1, ↓ev_iload_2, ↓ev_iload_3, ↓ev_ireturn_0, ↓ev_istore_3, ↓ev_ldc, ↓ev_nop, ↓ev_sipush, bq_Model_coins_0, bk_Model_coins_0, bq_Model_coins_18, bk_Model_coins_18, bq_Model_coins_21, bk_Model_coins_21, ↓reduceIte, false_and, and_false, List.not_mem_nil, List.mem_cons, or_false, or_true, true_or, false_or, Nat.reduceEqDiff, ab_ac, ab_ar, Nat.reduceSub, Nat.reduceLeDiff, Nat.reduceAdd, Nat.reduceLT, Int.cast_ofNat_Int, Int.ofNat_toNat, Int.toNat_natCast, ii_0, ii_1, ii_add, ii_sub, ii_mul, ii_neg, ii_lt, ii_le, ii_eq, ii_cl, ii_in, dc_lt_t, dc_lt_f, dc_le_t, dc_le_f, dc_eq_t, dc_eq_f, dn_lt_t, dn_le_t, dn_eq_t, dn_eq_f, hi_1, hi_2, and_self, Option.isSome_none, Option.isSome_some, Bool.false_eq_true, ii_s, ii_m, ii_mn, ii_2, st1_, st1_i, st1_r, st1_ii, st1_ir, st1_ri, st1_rr, st1_iii, st1_iir, st1_iri, st1_irr, st1_rii, st1_rir, st1_rri, st1_rrr, st1_iiii, st1_iiir, st1_iiri, st1_iirr, st1_irii, st1_irir, st1_irri, st1_irrr, st1_riii, st1_riir, st1_riri, st1_rirr, st1_rrii, st1_rrir, st1_rrri, st1_rrrr, st1_iiiii, st1_iiiir, st1_iiiri, st1_iiirr, st1_iirii, st1_iirir, st1_iirri, st1_iirrr, st1_iriii, st1_iriir, st1_iriri, st1_irirr, st1_irrii, st1_irrir, st1_irrri, st1_irrrr, st1_riiii, st1_riiir, st1_riiri, st1_riirr, st1_ririi, st1_ririr, st1_rirri, st1_rirrr, st1_rriii, st1_rriir, st1_rriri, st1_rrirr, st1_rrrii, st1_rrrir, st1_rrrri, st1_rrrrr, Option.toList_some, Option.toList_none, List.cons_append, List.nil_append, true_and, and_true, true_implies, false_implies, not_true_eq_false, not_false_eq_true, implies_true, eq_self, q0, q1, q2, q3, q6, q8, q23, hh_192, hh_193, hh_194, hh_195, hh_196, hh_197, hh_198, hh_199, Int.add_zero, ii_p2, ii_p3, ii_p4, ii_p5, e]
    exact hq h sp_md.rf (by rw [md_no e_inv_n]; exact hW)
  simp -implicitDefEqProofs (disch := omega) only [ii_b, ↓ev_rn, ↓ev_aload_0, ↓ev_aload_0N, ↓ev_calls_1, ↓ev_calls_3, ↓ev_callv_1, ↓ev_getfield_1, ↓ev_iadd, ↓ev_iaload, ↓ev_iastore, ↓ev_iconst, ↓ev_if_eq, ↓ev_if_ne, ↓ev_iload_1, ↓ev_iload_2, ↓ev_iload_3, ↓ev_ireturn_0, ↓ev_istore_3, ↓ev_ldc, ↓ev_nop, ↓ev_sipush, bq_Model_coins_0, bk_Model_coins_0, bq_Model_coins_18, bk_Model_coins_18, bq_Model_coins_21, bk_Model_coins_21, ↓reduceIte, false_and, and_false, List.not_mem_nil, List.mem_cons, or_false, or_true, true_or, false_or, Nat.reduceEqDiff, ab_ac, ab_ar, Nat.reduceSub, Nat.reduceLeDiff, Nat.reduceAdd, Nat.reduceLT, Int.cast_ofNat_Int, Int.ofNat_toNat, Int.toNat_natCast, ii_0, ii_1, ii_add, ii_sub, ii_mul, ii_neg, ii_lt, ii_le, ii_eq, ii_cl, ii_in, dc_lt_t, dc_lt_f, dc_le_t, dc_le_f, dc_eq_t, dc_eq_f, dn_lt_t, dn_le_t, dn_eq_t, dn_eq_f, hi_1, hi_2, and_self, Option.isSome_none, Option.isSome_some, Bool.false_eq_true, ii_s, ii_m, ii_mn, ii_2, st1_, st1_i, st1_r, st1_ii, st1_ir, st1_ri, st1_rr, st1_iii, st1_iir, st1_iri, st1_irr, st1_rii, st1_rir, st1_rri, st1_rrr, st1_iiii, st1_iiir, st1_iiri, st1_iirr, st1_irii, st1_irir, st1_irri, st1_irrr, st1_riii, st1_riir, st1_riri, st1_rirr, st1_rrii, st1_rrir, st1_rrri, st1_rrrr, st1_iiiii, st1_iiiir, st1_iiiri, st1_iiirr, st1_iirii, st1_iirir, st1_iirri, st1_iirrr, st1_iriii, st1_iriir, st1_iriri, st1_irirr, st1_irrii, st1_irrir, st1_irrri, st1_irrrr, st1_riiii, st1_riiir, st1_riiri, st1_riirr, st1_ririi, st1_ririr, st1_rirri, st1_rirrr, st1_rriii, st1_rriir, st1_rriri, st1_rrirr, st1_rrrii, st1_rrrir, st1_rrrri, st1_rrrrr, Option.toList_some, Option.toList_none, List.cons_append, List.nil_append, true_and, and_true, true_implies, false_implies, not_true_eq_false, not_false_eq_true, implies_true, eq_self, q0, q1, q2, q3, q6, q8, q23, hh_192, hh_193, hh_194, hh_195, hh_196, hh_197, hh_198, hh_199, Int.add_zero, ii_p2, ii_p3, ii_p4, ii_p5]
  refine ab_C.up (d := 0) (sp_Model_in k1 k2 (by omega) (by omega) (by omega) (by omega) ?_) (Nat.le_of_ble_eq_true rfl)
  by_cases d2 : 0 ≤ k ∧ k ≤ 9999
  rotate_left
  · rw [if_neg (by omega)] at hq
    have e : (if 0 ≤ k ∧ k ≤ 9999 then (1 : Int) else 0) = 0 := if_neg d2
    simp -implicitDefEqProofs (disch := omega) only [ii_b, ↓ev_rn, ↓ev_aload_0, ↓ev_aload_0N, ↓ev_calls_1, ↓ev_calls_3, ↓ev_callv_1, ↓ev_getfield_1, ↓ev_iadd, ↓ev_iaload, ↓ev_iastore, ↓ev_iconst, ↓ev_if_eq, ↓ev_if_ne, ↓ev_iload_1, ↓ev_iload_2, ↓ev_iload_3, ↓ev_ireturn_0, ↓ev_istore_3, ↓ev_ldc, ↓ev_nop, ↓ev_sipush, bq_Model_coins_0, bk_Model_coins_0, bq_Model_coins_18, bk_Model_coins_18, bq_Model_coins_21, bk_Model_coins_21, ↓reduceIte, false_and, and_false, List.not_mem_nil, List.mem_cons, or_false, or_true, true_or, false_or, Nat.reduceEqDiff, ab_ac, ab_ar, Nat.reduceSub, Nat.reduceLeDiff, Nat.reduceAdd, Nat.reduceLT, Int.cast_ofNat_Int, Int.ofNat_toNat, Int.toNat_natCast, ii_0, ii_1, ii_add, ii_sub, ii_mul, ii_neg, ii_lt, ii_le, ii_eq, ii_cl, ii_in, dc_lt_t, dc_lt_f, dc_le_t, dc_le_f, dc_eq_t, dc_eq_f, dn_lt_t, dn_le_t, dn_eq_t, dn_eq_f, hi_1, hi_2, and_self, Option.isSome_none, Option.isSome_some, Bool.false_eq_true, ii_s, ii_m, ii_mn, ii_2, st1_, st1_i, st1_r, st1_ii, st1_ir, st1_ri, st1_rr, st1_iii, st1_iir, st1_iri, st1_irr, st1_rii, st1_rir, st1_rri, st1_rrr, st1_iiii, st1_iiir, st1_iiri, st1_iirr, st1_irii, st1_irir, st1_irri, st1_irrr, st1_riii, st1_riir, st1_riri, st1_rirr, st1_rrii, st1_rrir, st1_rrri, st1_rrrr, st1_iiiii, st1_iiiir, st1_iiiri, st1_iiirr, st1_iirii, st1_iirir, st1_iirri, st1_iirrr, st1_iriii, st1_iriir, st1_iriri, st1_irirr, st1_irrii, st1_irrir, st1_irrri, st1_irrrr, st1_riiii, st1_riiir, st1_riiri, st1_riirr, st1_ririi, st1_ririr, st1_rirri, st1_rirrr, st1_rriii, st1_rriir, st1_rriri, st1_rrirr, st1_rrrii, st1_rrrir, st1_rrrri, st1_rrrrr, Option.toList_some, Option.toList_none, List.cons_append, List.nil_append, true_and, and_true, true_implies, false_implies, not_true_eq_false, not_false_eq_true, implies_true, eq_self, q0, q1, q2, q3, q6, q8, q23, hh_192, hh_193, hh_194, hh_195, hh_196, hh_197, hh_198, hh_199, Int.add_zero, ii_p2, ii_p3, ii_p4, ii_p5, e]
    exact hq h sp_md.rf (by rw [md_no e_inv_n]; exact hW)
  rw [if_pos ⟨d1, d2⟩] at hq
  obtain ⟨z, rfl⟩ : ∃ z : Nat, c = z := ⟨c.toNat, by omega⟩
  simp only [Int.toNat_natCast] at hq
  have hc : z < 4 := by omega
  have hcs := hi.1.2.2 z hc
  rw [md_yes hcs.1 (by omega)] at hq
  simp -implicitDefEqProofs (disch := omega) only [ii_b, ↓ev_rn, ↓ev_aload_0, ↓ev_aload_0N, ↓ev_calls_1, ↓ev_calls_3, ↓ev_callv_1, ↓ev_getfield_1, ↓ev_iadd, ↓ev_iaload, ↓ev_iastore, ↓ev_iconst, ↓ev_if_eq, ↓ev_if_ne, ↓ev_iload_1, ↓ev_iload_2, ↓ev_iload_3, ↓ev_ireturn_0, ↓ev_istore_3, ↓ev_ldc, ↓ev_nop, ↓ev_sipush, bq_Model_coins_0, bk_Model_coins_0, bq_Model_coins_18, bk_Model_coins_18, bq_Model_coins_21, bk_Model_coins_21, ↓reduceIte, false_and, and_false, List.not_mem_nil, List.mem_cons, or_false, or_true, true_or, false_or, Nat.reduceEqDiff, ab_ac, ab_ar, Nat.reduceSub, Nat.reduceLeDiff, Nat.reduceAdd, Nat.reduceLT, Int.cast_ofNat_Int, Int.ofNat_toNat, Int.toNat_natCast, ii_0, ii_1, ii_add, ii_sub, ii_mul, ii_neg, ii_lt, ii_le, ii_eq, ii_cl, ii_in, dc_lt_t, dc_lt_f, dc_le_t, dc_le_f, dc_eq_t, dc_eq_f, dn_lt_t, dn_le_t, dn_eq_t, dn_eq_f, hi_1, hi_2, and_self, Option.isSome_none, Option.isSome_some, Bool.false_eq_true, ii_s, ii_m, ii_mn, ii_2, st1_, st1_i, st1_r, st1_ii, st1_ir, st1_ri, st1_rr, st1_iii, st1_iir, st1_iri, st1_irr, st1_rii, st1_rir, st1_rri, st1_rrr, st1_iiii, st1_iiir, st1_iiri, st1_iirr, st1_irii, st1_irir, st1_irri, st1_irrr, st1_riii, st1_riir, st1_riri, st1_rirr, st1_rrii, st1_rrir, st1_rrri, st1_rrrr, st1_iiiii, st1_iiiir, st1_iiiri, st1_iiirr, st1_iirii, st1_iirir, st1_iirri, st1_iirrr, st1_iriii, st1_iriir, st1_iriri, st1_irirr, st1_irrii, st1_irrir, st1_irrri, st1_irrrr, st1_riiii, st1_riiir, st1_riiri, st1_riirr, st1_ririi, st1_ririr, st1_rirri, st1_rirrr, st1_rriii, st1_rriir, st1_rriri, st1_rrirr, st1_rrrii, st1_rrrir, st1_rrrri, st1_rrrrr, Option.toList_some, Option.toList_none, List.cons_append, List.nil_append, true_and, and_true, true_implies, false_implies, not_true_eq_false, not_false_eq_true, implies_true, eq_self, q0, q1, q2, q3, q6, q8, q23, hh_192, hh_193, hh_194, hh_195, hh_196, hh_197, hh_198, hh_199, Int.add_zero, ii_p2, ii_p3, ii_p4, ii_p5]
  refine ab_C.up (d := 0) (sp_Model_records hW hi.un.sz (fun h1 g1 g2 g3 => ?_)) (Nat.le_of_ble_eq_true rfl)
  obtain ⟨q0, q1, q2, q3, q6, q8, q23⟩ := sp_M g2.1
  have e1 : h1.1 193 (3 + z) = Int32.ofInt (s.2.2.1 z) := by rw [g3]; exact hR.2.1 z hc
  simp -implicitDefEqProofs (disch := omega) only [ii_b, ↓ev_rn, ↓ev_aload_0, ↓ev_aload_0N, ↓ev_calls_1, ↓ev_calls_3, ↓ev_callv_1, ↓ev_getfield_1, ↓ev_iadd, ↓ev_iaload, ↓ev_iastore, ↓ev_iconst, ↓ev_if_eq, ↓ev_if_ne, ↓ev_iload_1, ↓ev_iload_2, ↓ev_iload_3, ↓ev_ireturn_0, ↓ev_istore_3, ↓ev_ldc, ↓ev_nop, ↓ev_sipush, bq_Model_coins_0, bk_Model_coins_0, bq_Model_coins_18, bk_Model_coins_18, bq_Model_coins_21, bk_Model_coins_21, ↓reduceIte, false_and, and_false, List.not_mem_nil, List.mem_cons, or_false, or_true, true_or, false_or, Nat.reduceEqDiff, ab_ac, ab_ar, Nat.reduceSub, Nat.reduceLeDiff, Nat.reduceAdd, Nat.reduceLT, Int.cast_ofNat_Int, Int.ofNat_toNat, Int.toNat_natCast, ii_0, ii_1, ii_add, ii_sub, ii_mul, ii_neg, ii_lt, ii_le, ii_eq, ii_cl, ii_in, dc_lt_t, dc_lt_f, dc_le_t, dc_le_f, dc_eq_t, dc_eq_f, dn_lt_t, dn_le_t, dn_eq_t, dn_eq_f, hi_1, hi_2, and_self, Option.isSome_none, Option.isSome_some, Bool.false_eq_true, ii_s, ii_m, ii_mn, ii_2, st1_, st1_i, st1_r, st1_ii, st1_ir, st1_ri, st1_rr, st1_iii, st1_iir, st1_iri, st1_irr, st1_rii, st1_rir, st1_rri, st1_rrr, st1_iiii, st1_iiir, st1_iiri, st1_iirr, st1_irii, st1_irir, st1_irri, st1_irrr, st1_riii, st1_riir, st1_riri, st1_rirr, st1_rrii, st1_rrir, st1_rrri, st1_rrrr, st1_iiiii, st1_iiiir, st1_iiiri, st1_iiirr, st1_iirii, st1_iirir, st1_iirri, st1_iirrr, st1_iriii, st1_iriir, st1_iriri, st1_irirr, st1_irrii, st1_irrir, st1_irrri, st1_irrrr, st1_riiii, st1_riiir, st1_riiri, st1_riirr, st1_ririi, st1_ririr, st1_rirri, st1_rirrr, st1_rriii, st1_rriir, st1_rriri, st1_rrirr, st1_rrrii, st1_rrrir, st1_rrrri, st1_rrrrr, Option.toList_some, Option.toList_none, List.cons_append, List.nil_append, true_and, and_true, true_implies, false_implies, not_true_eq_false, not_false_eq_true, implies_true, eq_self, q0, q1, q2, q3, q6, q8, q23, hh_192, hh_193, hh_194, hh_195, hh_196, hh_197, hh_198, hh_199, Int.add_zero, ii_p2, ii_p3, ii_p4, ii_p5, ii_3, e1]
  refine hq _ (g1.w (Or.inl rfl)) (g2.put rfl (hi_o (by omega)) (hi_o (by omega)) ?_)
  obtain ⟨⟨a0, a1, a2⟩, a3, a4, a5⟩ := hR
  have h16 := hi.1.1
  have ek : ∀ j : Nat, j ≠ 3 + z → (ab_hi h1 193 (3 + z) (Int32.ofInt k)).1 193 j = h.1 193 j := by
    intro j j1
    rw [hi_1, if_neg (fun q => j1 q.2), g3]
  refine ⟨⟨?_, ?_, ?_⟩, fun d hd => ?_, fun i hil => ?_, fun d hd => ⟨?_, fun p hp j hj => ?_⟩⟩
  · rw [ek 0 (by omega)]; exact a0
  · rw [ek 1 (by omega)]; exact a1
  · rw [ek 2 (by omega)]; exact a2
  · show _ = Int32.ofInt (if d = z then k else s.2.2.1 d)
    by_cases g : d = z
    · subst g; rw [if_pos rfl, hi_1, if_pos ⟨rfl, rfl⟩]
    · rw [if_neg g, ek _ (by omega)]; exact a3 d hd
  · have hil2 : i < s.1.length := hil
    rw [ek _ (by omega), ek _ (by omega)]; exact a4 i hil
  · have := bo_le hd
    rw [ek _ (by omega)]; exact (a5 d hd).1
  · have hp2 : p < (s.2.1 d).length := hp
    have := hi.un.h8 d hd
    have := pl_le hd (show p < 8 by omega)
    rw [ek _ (by omega)]; exact (a5 d hd).2 p hp j hj
set_option maxRecDepth 100000 in
set_option maxHeartbeats 4000000 in
theorem sp_Model_leaf {c m : Int} {b : Bool} {s : St} {H : List St} {h : ab_H} {Q : Option Value → ab_H → Prop} (hW : sp_MW h b s H) (hi : st_inv m s) (hm : m ≤ 1000000) (c1 : -2147483648 ≤ c) (c2 : c < 2147483648)
    (hq : ∀ h', sp_md h h' → sp_MW h' b (op_leaf s c).2 (md_H b s H (op_leaf s c).1) → Q (some (.int (op_leaf s c).1)) h') : ab_C 2 yn_Model_leaf 200 [.ref 192, .int (Int32.ofInt c)] h Q := by
  refine ab_of ⟨Nat.le_of_ble_eq_true rfl, Nat.le_of_ble_eq_true rfl⟩ (by simp [Value.category]) (Nat.le_of_ble_eq_true rfl) ?_
  show ab_W 2 yn_Model_leaf 0 200 0 0 [some (.ref 192), some (.int (Int32.ofInt c)), none, none] [] h Q
  obtain ⟨hF, hR, hM, h5⟩ := id hW
  obtain ⟨q0, q1, q2, q3, q6, q8, q23⟩ := sp_M hF
  unfold op_leaf at hq
  refine ab_go [53] 12 bo_Model_leaf ?_
  simp -implicitDefEqProofs (disch := omega) only [ii_b, ↓ev_rn, ↓ev_aload_0, ↓ev_aload_0N, ↓ev_bipush, ↓ev_calls_1, ↓ev_calls_2, ↓ev_callv_1, ↓ev_callv_2, ↓ev_dup2, ↓ev_getfield_1, ↓ev_goto, ↓ev_iadd, ↓ev_iaload, ↓ev_iastore, ↓ev_icmp_ge, ↓ev_icmp_ne, ↓ev_iconst, ↓ev_if_ne, ↓ev_iinc_3, ↓ev_iload_1, ↓ev_iload_2, ↓ev_iload_3, ↓ev_imul, ↓ev_ireturn_0, ↓ev_istore_2, ↓ev_istore_3, ↓ev_isub, ↓ev_ldc, ↓ev_nop, bq_Model_leaf_0, bk_Model_leaf_0, bq_Model_leaf_10, bk_Model_leaf_10, bq_Model_leaf_23, bk_Model_leaf_23, bq_Model_leaf_53, bk_Model_leaf_53, bq_Model_leaf_73, bk_Model_leaf_73, ↓reduceIte, false_and, and_false, List.not_mem_nil, List.mem_cons, or_false, or_true, true_or, false_or, Nat.reduceEqDiff, ab_ac, ab_ar, Nat.reduceSub, Nat.reduceLeDiff, Nat.reduceAdd, Nat.reduceLT, Int.cast_ofNat_Int, Int.ofNat_toNat, Int.toNat_natCast, ii_0, ii_1, ii_add, ii_sub, ii_mul, ii_neg, ii_lt, ii_le, ii_eq, ii_cl, ii_in, dc_lt_t, dc_lt_f, dc_le_t, dc_le_f, dc_eq_t, dc_eq_f, dn_lt_t, dn_le_t, dn_eq_t, dn_eq_f, hi_1, hi_2, and_self, Option.isSome_none, Option.isSome_some, Bool.false_eq_true, ii_s, ii_m, ii_mn, ii_2, st1_, st1_i, st1_r, st1_ii, st1_ir, st1_ri, st1_rr, st1_iii, st1_iir, st1_iri, st1_irr, st1_rii, st1_rir, st1_rri, st1_rrr, st1_iiii, st1_iiir, st1_iiri, st1_iirr, st1_irii, st1_irir, st1_irri, st1_irrr, st1_riii, st1_riir, st1_riri, st1_rirr, st1_rrii, st1_rrir, st1_rrri, st1_rrrr, st1_iiiii, st1_iiiir, st1_iiiri, st1_iiirr, st1_iirii, st1_iirir, st1_iirri, st1_iirrr, st1_iriii, st1_iriir, st1_iriri, st1_irirr, st1_irrii, st1_irrir, st1_irrri, st1_irrrr, st1_riiii, st1_riiir, st1_riiri, st1_riirr, st1_ririi, st1_ririr, st1_rirri, st1_rirrr, st1_rriii, st1_rriir, st1_rriri, st1_rrirr, st1_rrrii, st1_rrrir, st1_rrrri, st1_rrrrr, Option.toList_some, Option.toList_none, List.cons_append, List.nil_append, true_and, and_true, true_implies, false_implies, not_true_eq_false, not_false_eq_true, implies_true, eq_self, q0, q1, q2, q3, q6, q8, q23, hh_192, hh_193, hh_194, hh_195, hh_196, hh_197, hh_198, hh_199, Int.add_zero, ii_p2, ii_p3, ii_p4, ii_p5]
  refine ab_C.up (d := 1) (sp_Model_isCollector c1 c2 ?_) (Nat.le_of_ble_eq_true rfl)
  by_cases d1 : 0 ≤ c ∧ c ≤ 3
  rotate_left
  · rw [if_neg (by omega)] at hq
    have e : (if 0 ≤ c ∧ c ≤ 3 then (1 : Int) else 0) = 0 := if_neg d1
    simp -implicitDefEqProofs (disch := omega) only [ii_b, ↓ev_rn, ↓ev_aload_0, ↓ev_aload_0N, ↓ev_bipush, ↓ev_calls_1, ↓ev_calls_2, ↓ev_callv_1, ↓ev_callv_2, ↓ev_dup2, ↓ev_getfield_1, ↓ev_goto, ↓ev_iadd, ↓ev_iaload, ↓ev_iastore, ↓ev_icmp_ge, ↓ev_icmp_ne, ↓ev_iconst, ↓ev_if_ne, ↓ev_iinc_3, ↓ev_iload_1, ↓ev_iload_2, ↓ev_iload_3, ↓ev_imul, ↓ev_ireturn_0, ↓ev_istore_2, ↓ev_istore_3, ↓ev_isub, ↓ev_ldc, ↓ev_nop, bq_Model_leaf_0, bk_Model_leaf_0, bq_Model_leaf_10, bk_Model_leaf_10, bq_Model_leaf_23, bk_Model_leaf_23, bq_Model_leaf_53, bk_Model_leaf_53, bq_Model_leaf_73, bk_Model_leaf_73, ↓reduceIte, false_and, and_false, List.not_mem_nil, List.mem_cons, or_false, or_true, true_or, false_or, Nat.reduceEqDiff, ab_ac, ab_ar, Nat.reduceSub, Nat.reduceLeDiff, Nat.reduceAdd, Nat.reduceLT, Int.cast_ofNat_Int, Int.ofNat_toNat, Int.toNat_natCast, ii_0, ii_1, ii_add, ii_sub, ii_mul, ii_neg, ii_lt, ii_le, ii_eq, ii_cl, ii_in, dc_lt_t, dc_lt_f, dc_le_t, dc_le_f, dc_eq_t, dc_eq_f, dn_lt_t, dn_le_t, dn_eq_t, dn_eq_f, hi_1, hi_2, and_self, Option.isSome_none, Option.isSome_some, Bool.false_eq_true, ii_s, ii_m, ii_mn, ii_2, st1_, st1_i, st1_r, st1_ii, st1_ir, st1_ri, st1_rr, st1_iii, st1_iir, st1_iri, st1_irr, st1_rii, st1_rir, st1_rri, st1_rrr, st1_iiii, st1_iiir, st1_iiri, st1_iirr, st1_irii, st1_irir, st1_irri, st1_irrr, st1_riii, st1_riir, st1_riri, st1_rirr, st1_rrii, st1_rrir, st1_rrri, st1_rrrr, st1_iiiii, st1_iiiir, st1_iiiri, st1_iiirr, st1_iirii, st1_iirir, st1_iirri, st1_iirrr, st1_iriii, st1_iriir, st1_iriri, st1_irirr, st1_irrii, st1_irrir, st1_irrri, st1_irrrr, st1_riiii, st1_riiir, st1_riiri, st1_riirr, st1_ririi, st1_ririr, st1_rirri, st1_rirrr, st1_rriii, st1_rriir, st1_rriri, st1_rrirr, st1_rrrii, st1_rrrir, st1_rrrri, st1_rrrrr, Option.toList_some, Option.toList_none, List.cons_append, List.nil_append, true_and, and_true, true_implies, false_implies, not_true_eq_false, not_false_eq_true, implies_true, eq_self, q0, q1, q2, q3, q6, q8, q23, hh_192, hh_193, hh_194, hh_195, hh_196, hh_197, hh_198, hh_199, Int.add_zero, ii_p2, ii_p3, ii_p4, ii_p5, e]
    exact hq h sp_md.rf (by rw [md_no e_inv_n]; exact hW)
  rw [if_pos d1] at hq
  obtain ⟨z, rfl⟩ : ∃ z : Nat, c = z := ⟨c.toNat, by omega⟩
  simp only [Int.toNat_natCast] at hq
  have hc : z < 4 := by omega
  have e0 := (hR.2.2.2 z hc).1
  have h8 := hi.un.h8 z hc
  simp -implicitDefEqProofs (disch := omega) only [ii_b, ↓ev_rn, ↓ev_aload_0, ↓ev_aload_0N, ↓ev_bipush, ↓ev_calls_1, ↓ev_calls_2, ↓ev_callv_1, ↓ev_callv_2, ↓ev_dup2, ↓ev_getfield_1, ↓ev_goto, ↓ev_iadd, ↓ev_iaload, ↓ev_iastore, ↓ev_icmp_ge, ↓ev_icmp_ne, ↓ev_iconst, ↓ev_if_ne, ↓ev_iinc_3, ↓ev_iload_1, ↓ev_iload_2, ↓ev_iload_3, ↓ev_imul, ↓ev_ireturn_0, ↓ev_istore_2, ↓ev_istore_3, ↓ev_isub, ↓ev_ldc, ↓ev_nop, bq_Model_leaf_0, bk_Model_leaf_0, bq_Model_leaf_10, bk_Model_leaf_10, bq_Model_leaf_23, bk_Model_leaf_23, bq_Model_leaf_53, bk_Model_leaf_53, bq_Model_leaf_73, bk_Model_leaf_73, ↓reduceIte, false_and, and_false, List.not_mem_nil, List.mem_cons, or_false, or_true, true_or, false_or, Nat.reduceEqDiff, ab_ac, ab_ar, Nat.reduceSub, Nat.reduceLeDiff, Nat.reduceAdd, Nat.reduceLT, Int.cast_ofNat_Int, Int.ofNat_toNat, Int.toNat_natCast, ii_0, ii_1, ii_add, ii_sub, ii_mul, ii_neg, ii_lt, ii_le, ii_eq, ii_cl, ii_in, dc_lt_t, dc_lt_f, dc_le_t, dc_le_f, dc_eq_t, dc_eq_f, dn_lt_t, dn_le_t, dn_eq_t, dn_eq_f, hi_1, hi_2, and_self, Option.isSome_none, Option.isSome_some, Bool.false_eq_true, ii_s, ii_m, ii_mn, ii_2, st1_, st1_i, st1_r, st1_ii, st1_ir, st1_ri, st1_rr, st1_iii, st1_iir, st1_iri, st1_irr, st1_rii, st1_rir, st1_rri, st1_rrr, st1_iiii, st1_iiir, st1_iiri, st1_iirr, st1_irii, st1_irir, st1_irri, st1_irrr, st1_riii, st1_riir, st1_riri, st1_rirr, st1_rrii, st1_rrir, st1_rrri, st1_rrrr, st1_iiiii, st1_iiiir, st1_iiiri, st1_iiirr, st1_iirii, st1_iirir, st1_iirri, st1_iirrr, st1_iriii, st1_iriir, st1_iriri, st1_irirr, st1_irrii, st1_irrir, st1_irrri, st1_irrrr, st1_riiii, st1_riiir, st1_riiri, st1_riirr, st1_ririi, st1_ririr, st1_rirri, st1_rirrr, st1_rriii, st1_rriir, st1_rriri, st1_rrirr, st1_rrrii, st1_rrrir, st1_rrrri, st1_rrrrr, Option.toList_some, Option.toList_none, List.cons_append, List.nil_append, true_and, and_true, true_implies, false_implies, not_true_eq_false, not_false_eq_true, implies_true, eq_self, q0, q1, q2, q3, q6, q8, q23, hh_192, hh_193, hh_194, hh_195, hh_196, hh_197, hh_198, hh_199, Int.add_zero, ii_p2, ii_p3, ii_p4, ii_p5]
  refine ab_C.up (d := 0) (sp_Model_leavesOf hF hc ?_) (Nat.le_of_ble_eq_true rfl)
  by_cases d2 : 8 ≤ (s.2.1 z).length
  · rw [if_pos d2] at hq
    simp -implicitDefEqProofs (disch := omega) only [ii_b, ↓ev_rn, ↓ev_aload_0, ↓ev_aload_0N, ↓ev_bipush, ↓ev_calls_1, ↓ev_calls_2, ↓ev_callv_1, ↓ev_callv_2, ↓ev_dup2, ↓ev_getfield_1, ↓ev_goto, ↓ev_iadd, ↓ev_iaload, ↓ev_iastore, ↓ev_icmp_ge, ↓ev_icmp_ne, ↓ev_iconst, ↓ev_if_ne, ↓ev_iinc_3, ↓ev_iload_1, ↓ev_iload_2, ↓ev_iload_3, ↓ev_imul, ↓ev_ireturn_0, ↓ev_istore_2, ↓ev_istore_3, ↓ev_isub, ↓ev_ldc, ↓ev_nop, bq_Model_leaf_0, bk_Model_leaf_0, bq_Model_leaf_10, bk_Model_leaf_10, bq_Model_leaf_23, bk_Model_leaf_23, bq_Model_leaf_53, bk_Model_leaf_53, bq_Model_leaf_73, bk_Model_leaf_73, ↓reduceIte, false_and, and_false, List.not_mem_nil, List.mem_cons, or_false, or_true, true_or, false_or, Nat.reduceEqDiff, ab_ac, ab_ar, Nat.reduceSub, Nat.reduceLeDiff, Nat.reduceAdd, Nat.reduceLT, Int.cast_ofNat_Int, Int.ofNat_toNat, Int.toNat_natCast, ii_0, ii_1, ii_add, ii_sub, ii_mul, ii_neg, ii_lt, ii_le, ii_eq, ii_cl, ii_in, dc_lt_t, dc_lt_f, dc_le_t, dc_le_f, dc_eq_t, dc_eq_f, dn_lt_t, dn_le_t, dn_eq_t, dn_eq_f, hi_1, hi_2, and_self, Option.isSome_none, Option.isSome_some, Bool.false_eq_true, ii_s, ii_m, ii_mn, ii_2, st1_, st1_i, st1_r, st1_ii, st1_ir, st1_ri, st1_rr, st1_iii, st1_iir, st1_iri, st1_irr, st1_rii, st1_rir, st1_rri, st1_rrr, st1_iiii, st1_iiir, st1_iiri, st1_iirr, st1_irii, st1_irir, st1_irri, st1_irrr, st1_riii, st1_riir, st1_riri, st1_rirr, st1_rrii, st1_rrir, st1_rrri, st1_rrrr, st1_iiiii, st1_iiiir, st1_iiiri, st1_iiirr, st1_iirii, st1_iirir, st1_iirri, st1_iirrr, st1_iriii, st1_iriir, st1_iriri, st1_irirr, st1_irrii, st1_irrir, st1_irrri, st1_irrrr, st1_riiii, st1_riiir, st1_riiri, st1_riirr, st1_ririi, st1_ririr, st1_rirri, st1_rirrr, st1_rriii, st1_rriir, st1_rriri, st1_rrirr, st1_rrrii, st1_rrrir, st1_rrrri, st1_rrrrr, Option.toList_some, Option.toList_none, List.cons_append, List.nil_append, true_and, and_true, true_implies, false_implies, not_true_eq_false, not_false_eq_true, implies_true, eq_self, q0, q1, q2, q3, q6, q8, q23, hh_192, hh_193, hh_194, hh_195, hh_196, hh_197, hh_198, hh_199, Int.add_zero, ii_p2, ii_p3, ii_p4, ii_p5, e0]
    exact hq h sp_md.rf (by rw [md_no e_lim_n]; exact hW)
  rw [if_neg d2] at hq
  have hev := hi.2.2.2.2.1
  rw [md_yes hev.1 (by omega)] at hq
  simp -implicitDefEqProofs (disch := omega) only [ii_b, ↓ev_rn, ↓ev_aload_0, ↓ev_aload_0N, ↓ev_bipush, ↓ev_calls_1, ↓ev_calls_2, ↓ev_callv_1, ↓ev_callv_2, ↓ev_dup2, ↓ev_getfield_1, ↓ev_goto, ↓ev_iadd, ↓ev_iaload, ↓ev_iastore, ↓ev_icmp_ge, ↓ev_icmp_ne, ↓ev_iconst, ↓ev_if_ne, ↓ev_iinc_3, ↓ev_iload_1, ↓ev_iload_2, ↓ev_iload_3, ↓ev_imul, ↓ev_ireturn_0, ↓ev_istore_2, ↓ev_istore_3, ↓ev_isub, ↓ev_ldc, ↓ev_nop, bq_Model_leaf_0, bk_Model_leaf_0, bq_Model_leaf_10, bk_Model_leaf_10, bq_Model_leaf_23, bk_Model_leaf_23, bq_Model_leaf_53, bk_Model_leaf_53, bq_Model_leaf_73, bk_Model_leaf_73, ↓reduceIte, false_and, and_false, List.not_mem_nil, List.mem_cons, or_false, or_true, true_or, false_or, Nat.reduceEqDiff, ab_ac, ab_ar, Nat.reduceSub, Nat.reduceLeDiff, Nat.reduceAdd, Nat.reduceLT, Int.cast_ofNat_Int, Int.ofNat_toNat, Int.toNat_natCast, ii_0, ii_1, ii_add, ii_sub, ii_mul, ii_neg, ii_lt, ii_le, ii_eq, ii_cl, ii_in, dc_lt_t, dc_lt_f, dc_le_t, dc_le_f, dc_eq_t, dc_eq_f, dn_lt_t, dn_le_t, dn_eq_t, dn_eq_f, hi_1, hi_2, and_self, Option.isSome_none, Option.isSome_some, Bool.false_eq_true, ii_s, ii_m, ii_mn, ii_2, st1_, st1_i, st1_r, st1_ii, st1_ir, st1_ri, st1_rr, st1_iii, st1_iir, st1_iri, st1_irr, st1_rii, st1_rir, st1_rri, st1_rrr, st1_iiii, st1_iiir, st1_iiri, st1_iirr, st1_irii, st1_irir, st1_irri, st1_irrr, st1_riii, st1_riir, st1_riri, st1_rirr, st1_rrii, st1_rrir, st1_rrri, st1_rrrr, st1_iiiii, st1_iiiir, st1_iiiri, st1_iiirr, st1_iirii, st1_iirir, st1_iirri, st1_iirrr, st1_iriii, st1_iriir, st1_iriri, st1_irirr, st1_irrii, st1_irrir, st1_irrri, st1_irrrr, st1_riiii, st1_riiir, st1_riiri, st1_riirr, st1_ririi, st1_ririr, st1_rirri, st1_rirrr, st1_rriii, st1_rriir, st1_rriri, st1_rrirr, st1_rrrii, st1_rrrir, st1_rrrri, st1_rrrrr, Option.toList_some, Option.toList_none, List.cons_append, List.nil_append, true_and, and_true, true_implies, false_implies, not_true_eq_false, not_false_eq_true, implies_true, eq_self, q0, q1, q2, q3, q6, q8, q23, hh_192, hh_193, hh_194, hh_195, hh_196, hh_197, hh_198, hh_199, Int.add_zero, ii_p2, ii_p3, ii_p4, ii_p5, e0]
  refine ab_C.up (d := 0) (sp_Model_records hW hi.un.sz (fun h1 g1 g2 g3 => ?_)) (Nat.le_of_ble_eq_true rfl)
  obtain ⟨q0, q1, q2, q3, q6, q8, q23⟩ := sp_M g2.1
  rw [← g3] at hR
  have e1 := (hR.2.2.2 z hc).1
  have e2 : h1.1 193 (Int.toNat 2) = Int32.ofInt s.2.2.2.2 := hR.1.2.2
  have hpl := pl_le hc (show (s.2.1 z).length < 8 by omega)
  have hbo := bo_le hc
  generalize en : (s.2.1 z).length = n at *
  have hev0 := hev
  generalize eev : s.2.2.2.2 = ev at *
  have eb : (39 : Int) + ((49 * z : Nat) : Int) = ((bo z : Nat) : Int) := rfl
  have key : ∀ X : ab_H, X.2 = h1.2 → (∀ k, k ≠ 193 → X.1 k = h1.1 k) → (∀ j, X.1 193 j = if j = 2 then Int32.ofInt (ev + 1) else if j = bo z then Int32.ofInt ((n + 1 : Nat) : Int) else if j = pl z n + 5 then Int32.ofInt 0 else if j = pl z n then Int32.ofInt ev else if pl z n < j ∧ j < pl z n + 5 then Int32.ofInt (-1) else h1.1 193 j) → Q (some (.int (Int32.ofInt ev))) X := by
    intro X x0 x1 x2
    have pb : pl z n = bo z + 1 + 6 * n := rfl
    have A : sp_R (fun k => if k = 2 then h1.1 193 2 else X.1 193 k) (up_B s z (s.2.1 z ++ [lf_new (Int32.ofInt ev)])) := by
      refine hR.book hi.un.sz hc (fun k hk hk2 => ?_) ?_ (fun p hp j hj => ?_)
      · show (if k = 2 then h1.1 193 2 else X.1 193 k) = _
        by_cases g : k = 2
        · rw [if_pos g, g]
        · rw [if_neg g, x2, if_neg g, if_neg (by omega), if_neg (by omega), if_neg (by omega), if_neg (by omega)]
      · show (if bo z = 2 then h1.1 193 2 else X.1 193 (bo z)) = _
        rw [if_neg (by omega), x2, if_neg (by omega), if_pos rfl, List.length_append, en]; rfl
      · show (if pl z p + j = 2 then h1.1 193 2 else X.1 193 (pl z p + j)) = _
        have pb2 : pl z p = bo z + 1 + 6 * p := rfl
        rw [List.length_append, en] at hp
        simp only [List.length_cons, List.length_nil] at hp
        by_cases g : p = n
        · subst g
          rw [if_neg (by omega), ← en, lf_last, en]
          refine lf_j6 (r := X.1 193) ?_ ?_ ?_ ?_ ?_ ?_ j hj
          · rw [x2, if_neg (by omega), if_neg (by omega), if_neg (by omega), if_pos rfl]; rfl
          · rw [x2, if_neg (by omega), if_neg (by omega), if_neg (by omega), if_neg (by omega), if_pos (by omega)]; rfl
          · rw [x2, if_neg (by omega), if_neg (by omega), if_neg (by omega), if_neg (by omega), if_pos (by omega)]; rfl
          · rw [x2, if_neg (by omega), if_neg (by omega), if_neg (by omega), if_neg (by omega), if_pos (by omega)]; rfl
          · rw [x2, if_neg (by omega), if_neg (by omega), if_neg (by omega), if_neg (by omega), if_pos (by omega)]; rfl
          · rw [x2, if_neg (by omega), if_neg (by omega), if_pos rfl]; rfl
        · rw [if_neg (by omega), x2, if_neg (by omega), if_neg (by omega), if_neg (by omega), if_neg (by omega), if_neg (by omega), lf_push (by omega)]
          exact (hR.2.2.2 z hc).2 p (by omega) j hj
    obtain ⟨⟨A0, A1, A2⟩, A3, A4, A5⟩ := A
    refine hq X (g1.tr ⟨x0, fun k _ k2 _ _ _ => x1 k k2, fun j _ _ => by rw [x1 192 (by omega)]⟩) (g2.put x0 (x1 192 (by omega)) (x1 196 (by omega)) ⟨⟨?_, ?_, ?_⟩, fun d hd => ?_, fun i hil => ?_, fun d hd => ⟨?_, fun p hp j hj => ?_⟩⟩)
    · exact A0
    · exact A1
    · rw [x2, if_pos rfl]
    · have g := A3 d hd
      dsimp only at g
      rw [if_neg (by omega)] at g
      exact g
    · have g := A4 i hil
      dsimp only at g
      rw [if_neg (by omega), if_neg (by omega)] at g
      exact g
    · have g := (A5 d hd).1
      have := bo_le hd
      dsimp only at g
      rw [if_neg (by omega)] at g
      exact g
    · have g := (A5 d hd).2 p hp j hj
      have : 40 ≤ pl d p := by unfold pl; omega
      dsimp only at g
      rw [if_neg (by omega)] at g
      exact g
  have loop : ∀ (k i : Nat) (h2 : ab_H), i + k = 5 → 1 ≤ i → h2.2 = h1.2 → (∀ k, k ≠ 193 → h2.1 k = h1.1 k) → (∀ j, h2.1 193 j = if j = pl z n then Int32.ofInt ev else if pl z n < j ∧ j < pl z n + i then Int32.ofInt (-1) else h1.1 193 j) → ab_W 2 yn_Model_leaf 53 200 0 0 [some (.ref 192), some (.int (Int32.ofInt z)), some (.int (Int32.ofInt (pl z n))), some (.int (Int32.ofInt i))] [] h2 Q := by
    intro k
    induction k with
    | zero =>
      intro i h2 hik hi1 f0 f1 f2
      obtain rfl : i = 5 := by omega
      obtain ⟨q0, q1, q2, q3, q6, q8, q23⟩ := sp_M (g2.1.of f0)
      have pb : pl z n = bo z + 1 + 6 * n := rfl
      have e3 : h2.1 193 (bo z) = Int32.ofInt n := by rw [f2, if_neg (by omega), if_neg (by omega)]; exact e1
      have e4 : h2.1 193 (Int.toNat 2) = Int32.ofInt ev := by rw [f2, if_neg (by show ¬ 2 = pl z n; omega), if_neg (by show ¬ (pl z n < 2 ∧ _); omega)]; exact e2
      have e9 : (2 : Nat) ≠ pl z n + 5 := by omega
      have e8 : (2 : Nat) ≠ bo z := by omega
      have e7 : bo z ≠ pl z n + 5 := by omega
      refine ab_go [53] 12 bo_Model_leaf ?_
      simp -implicitDefEqProofs (disch := omega) only [ii_b, ↓ev_rn, ↓ev_aload_0, ↓ev_aload_0N, ↓ev_bipush, ↓ev_calls_1, ↓ev_calls_2, ↓ev_callv_1, ↓ev_callv_2, ↓ev_dup2, ↓ev_getfield_1, ↓ev_goto, ↓ev_iadd, ↓ev_iaload, ↓ev_iastore, ↓ev_icmp_ge, ↓ev_icmp_ne, ↓ev_iconst, ↓ev_if_ne, ↓ev_iinc_3, ↓ev_iload_1, ↓ev_iload_2, ↓ev_iload_3, ↓ev_imul, ↓ev_ireturn_0, ↓ev_istore_2, ↓ev_istore_3, ↓ev_isub, ↓ev_ldc, ↓ev_nop, bq_Model_leaf_0, bk_Model_leaf_0, bq_Model_leaf_10, bk_Model_leaf_10, bq_Model_leaf_23, bk_Model_leaf_23, bq_Model_leaf_53, bk_Model_leaf_53, bq_Model_leaf_73, bk_Model_leaf_73, ↓reduceIte, false_and, and_false, List.not_mem_nil, List.mem_cons, or_false, or_true, true_or, false_or, Nat.reduceEqDiff, ab_ac, ab_ar, Nat.reduceSub, Nat.reduceLeDiff, Nat.reduceAdd, Nat.reduceLT, Int.cast_ofNat_Int, Int.ofNat_toNat, Int.toNat_natCast, ii_0, ii_1, ii_add, ii_sub, ii_mul, ii_neg, ii_lt, ii_le, ii_eq, ii_cl, ii_in, dc_lt_t, dc_lt_f, dc_le_t, dc_le_f, dc_eq_t, dc_eq_f, dn_lt_t, dn_le_t, dn_eq_t, dn_eq_f, hi_1, hi_2, and_self, Option.isSome_none, Option.isSome_some, Bool.false_eq_true, ii_s, ii_m, ii_mn, ii_2, st1_, st1_i, st1_r, st1_ii, st1_ir, st1_ri, st1_rr, st1_iii, st1_iir, st1_iri, st1_irr, st1_rii, st1_rir, st1_rri, st1_rrr, st1_iiii, st1_iiir, st1_iiri, st1_iirr, st1_irii, st1_irir, st1_irri, st1_irrr, st1_riii, st1_riir, st1_riri, st1_rirr, st1_rrii, st1_rrir, st1_rrri, st1_rrrr, st1_iiiii, st1_iiiir, st1_iiiri, st1_iiirr, st1_iirii, st1_iirir, st1_iirri, st1_iirrr, st1_iriii, st1_iriir, st1_iriri, st1_irirr, st1_irrii, st1_irrir, st1_irrri, st1_irrrr, st1_riiii, st1_riiir, st1_riiri, st1_riirr, st1_ririi, st1_ririr, st1_rirri, st1_rirrr, st1_rriii, st1_rriir, st1_rriri, st1_rrirr, st1_rrrii, st1_rrrir, st1_rrrri, st1_rrrrr, Option.toList_some, Option.toList_none, List.cons_append, List.nil_append, true_and, and_true, true_implies, false_implies, not_true_eq_false, not_false_eq_true, implies_true, eq_self, q0, q1, q2, q3, q6, q8, q23, hh_192, hh_193, hh_194, hh_195, hh_196, hh_197, hh_198, hh_199, Int.add_zero, ii_p2, ii_p3, ii_p4, ii_p5, ii_49, eb, e3, e4]
      rw [show ev + 1 - 1 = ev by omega]
      refine key _ f0 (fun k k1 => by rw [hi_o k1, hi_o k1, hi_o k1]; exact f1 k k1) (fun j => ?_)
      rw [hi_1, hi_1, hi_1, f2]
      simp only [true_and]
      rfl
    | succ k ih =>
      intro i h2 hik hi1 f0 f1 f2
      obtain ⟨q0, q1, q2, q3, q6, q8, q23⟩ := sp_M (g2.1.of f0)
      refine ab_go [53] 12 bo_Model_leaf ?_
      simp -implicitDefEqProofs (disch := omega) only [ii_b, ↓ev_rn, ↓ev_aload_0, ↓ev_aload_0N, ↓ev_bipush, ↓ev_calls_1, ↓ev_calls_2, ↓ev_callv_1, ↓ev_callv_2, ↓ev_dup2, ↓ev_getfield_1, ↓ev_goto, ↓ev_iadd, ↓ev_iaload, ↓ev_iastore, ↓ev_icmp_ge, ↓ev_icmp_ne, ↓ev_iconst, ↓ev_if_ne, ↓ev_iinc_3, ↓ev_iload_1, ↓ev_iload_2, ↓ev_iload_3, ↓ev_imul, ↓ev_ireturn_0, ↓ev_istore_2, ↓ev_istore_3, ↓ev_isub, ↓ev_ldc, ↓ev_nop, bq_Model_leaf_0, bk_Model_leaf_0, bq_Model_leaf_10, bk_Model_leaf_10, bq_Model_leaf_23, bk_Model_leaf_23, bq_Model_leaf_53, bk_Model_leaf_53, bq_Model_leaf_73, bk_Model_leaf_73, ↓reduceIte, false_and, and_false, List.not_mem_nil, List.mem_cons, or_false, or_true, true_or, false_or, Nat.reduceEqDiff, ab_ac, ab_ar, Nat.reduceSub, Nat.reduceLeDiff, Nat.reduceAdd, Nat.reduceLT, Int.cast_ofNat_Int, Int.ofNat_toNat, Int.toNat_natCast, ii_0, ii_1, ii_add, ii_sub, ii_mul, ii_neg, ii_lt, ii_le, ii_eq, ii_cl, ii_in, dc_lt_t, dc_lt_f, dc_le_t, dc_le_f, dc_eq_t, dc_eq_f, dn_lt_t, dn_le_t, dn_eq_t, dn_eq_f, hi_1, hi_2, and_self, Option.isSome_none, Option.isSome_some, Bool.false_eq_true, ii_s, ii_m, ii_mn, ii_2, st1_, st1_i, st1_r, st1_ii, st1_ir, st1_ri, st1_rr, st1_iii, st1_iir, st1_iri, st1_irr, st1_rii, st1_rir, st1_rri, st1_rrr, st1_iiii, st1_iiir, st1_iiri, st1_iirr, st1_irii, st1_irir, st1_irri, st1_irrr, st1_riii, st1_riir, st1_riri, st1_rirr, st1_rrii, st1_rrir, st1_rrri, st1_rrrr, st1_iiiii, st1_iiiir, st1_iiiri, st1_iiirr, st1_iirii, st1_iirir, st1_iirri, st1_iirrr, st1_iriii, st1_iriir, st1_iriri, st1_irirr, st1_irrii, st1_irrir, st1_irrri, st1_irrrr, st1_riiii, st1_riiir, st1_riiri, st1_riirr, st1_ririi, st1_ririr, st1_rirri, st1_rirrr, st1_rriii, st1_rriir, st1_rriri, st1_rrirr, st1_rrrii, st1_rrrir, st1_rrrri, st1_rrrrr, Option.toList_some, Option.toList_none, List.cons_append, List.nil_append, true_and, and_true, true_implies, false_implies, not_true_eq_false, not_false_eq_true, implies_true, eq_self, q0, q1, q2, q3, q6, q8, q23, hh_192, hh_193, hh_194, hh_195, hh_196, hh_197, hh_198, hh_199, Int.add_zero, ii_p2, ii_p3, ii_p4, ii_p5, ii_nn]
      refine ih (i + 1) _ (by omega) (by omega) f0 (fun k k1 => by rw [hi_o k1]; exact f1 k k1) (fun j => ?_)
      rw [hi_1]
      by_cases c : j = pl z n + i
      · rw [if_pos ⟨rfl, c⟩, if_neg (by omega), if_pos (by omega)]
      · rw [if_neg (fun q => c q.2), f2 j]
        by_cases c2 : j = pl z n
        · rw [if_pos c2, if_pos c2]
        · rw [if_neg c2, if_neg c2]
          by_cases c3 : pl z n < j ∧ j < pl z n + i
          · rw [if_pos c3, if_pos (by omega)]
          · rw [if_neg c3, if_neg (by omega)]
  simp -implicitDefEqProofs (disch := omega) only [ii_b, ↓ev_rn, ↓ev_aload_0, ↓ev_aload_0N, ↓ev_bipush, ↓ev_calls_1, ↓ev_calls_2, ↓ev_callv_1, ↓ev_callv_2, ↓ev_dup2, ↓ev_getfield_1, ↓ev_goto, ↓ev_iadd, ↓ev_iaload, ↓ev_iastore, ↓ev_icmp_ge, ↓ev_icmp_ne, ↓ev_iconst, ↓ev_if_ne, ↓ev_iinc_3, ↓ev_iload_1, ↓ev_iload_2, ↓ev_iload_3, ↓ev_imul, ↓ev_ireturn_0, ↓ev_istore_2, ↓ev_istore_3, ↓ev_isub, ↓ev_ldc, ↓ev_nop, bq_Model_leaf_0, bk_Model_leaf_0, bq_Model_leaf_10, bk_Model_leaf_10, bq_Model_leaf_23, bk_Model_leaf_23, bq_Model_leaf_53, bk_Model_leaf_53, bq_Model_leaf_73, bk_Model_leaf_73, ↓reduceIte, false_and, and_false, List.not_mem_nil, List.mem_cons, or_false, or_true, true_or, false_or, Nat.reduceEqDiff, ab_ac, ab_ar, Nat.reduceSub, Nat.reduceLeDiff, Nat.reduceAdd, Nat.reduceLT, Int.cast_ofNat_Int, Int.ofNat_toNat, Int.toNat_natCast, ii_0, ii_1, ii_add, ii_sub, ii_mul, ii_neg, ii_lt, ii_le, ii_eq, ii_cl, ii_in, dc_lt_t, dc_lt_f, dc_le_t, dc_le_f, dc_eq_t, dc_eq_f, dn_lt_t, dn_le_t, dn_eq_t, dn_eq_f, hi_1, hi_2, and_self, Option.isSome_none, Option.isSome_some, Bool.false_eq_true, ii_s, ii_m, ii_mn, ii_2, st1_, st1_i, st1_r, st1_ii, st1_ir, st1_ri, st1_rr, st1_iii, st1_iir, st1_iri, st1_irr, st1_rii, st1_rir, st1_rri, st1_rrr, st1_iiii, st1_iiir, st1_iiri, st1_iirr, st1_irii, st1_irir, st1_irri, st1_irrr, st1_riii, st1_riir, st1_riri, st1_rirr, st1_rrii, st1_rrir, st1_rrri, st1_rrrr, st1_iiiii, st1_iiiir, st1_iiiri, st1_iiirr, st1_iirii, st1_iirir, st1_iirri, st1_iirrr, st1_iriii, st1_iriir, st1_iriri, st1_irirr, st1_irrii, st1_irrir, st1_irrri, st1_irrrr, st1_riiii, st1_riiir, st1_riiri, st1_riirr, st1_ririi, st1_ririr, st1_rirri, st1_rirrr, st1_rriii, st1_rriir, st1_rriri, st1_rrirr, st1_rrrii, st1_rrrir, st1_rrrri, st1_rrrrr, Option.toList_some, Option.toList_none, List.cons_append, List.nil_append, true_and, and_true, true_implies, false_implies, not_true_eq_false, not_false_eq_true, implies_true, eq_self, q0, q1, q2, q3, q6, q8, q23, hh_192, hh_193, hh_194, hh_195, hh_196, hh_197, hh_198, hh_199, Int.add_zero, ii_p2, ii_p3, ii_p4, ii_p5]
  refine ab_C.up (d := 0) (sp_Model_leavesOf g2.1 hc ?_) (Nat.le_of_ble_eq_true rfl)
  simp -implicitDefEqProofs (disch := omega) only [ii_b, ↓ev_rn, ↓ev_aload_0, ↓ev_aload_0N, ↓ev_bipush, ↓ev_calls_1, ↓ev_calls_2, ↓ev_callv_1, ↓ev_callv_2, ↓ev_dup2, ↓ev_getfield_1, ↓ev_goto, ↓ev_iadd, ↓ev_iaload, ↓ev_iastore, ↓ev_icmp_ge, ↓ev_icmp_ne, ↓ev_iconst, ↓ev_if_ne, ↓ev_iinc_3, ↓ev_iload_1, ↓ev_iload_2, ↓ev_iload_3, ↓ev_imul, ↓ev_ireturn_0, ↓ev_istore_2, ↓ev_istore_3, ↓ev_isub, ↓ev_ldc, ↓ev_nop, bq_Model_leaf_0, bk_Model_leaf_0, bq_Model_leaf_10, bk_Model_leaf_10, bq_Model_leaf_23, bk_Model_leaf_23, bq_Model_leaf_53, bk_Model_leaf_53, bq_Model_leaf_73, bk_Model_leaf_73, ↓reduceIte, false_and, and_false, List.not_mem_nil, List.mem_cons, or_false, or_true, true_or, false_or, Nat.reduceEqDiff, ab_ac, ab_ar, Nat.reduceSub, Nat.reduceLeDiff, Nat.reduceAdd, Nat.reduceLT, Int.cast_ofNat_Int, Int.ofNat_toNat, Int.toNat_natCast, ii_0, ii_1, ii_add, ii_sub, ii_mul, ii_neg, ii_lt, ii_le, ii_eq, ii_cl, ii_in, dc_lt_t, dc_lt_f, dc_le_t, dc_le_f, dc_eq_t, dc_eq_f, dn_lt_t, dn_le_t, dn_eq_t, dn_eq_f, hi_1, hi_2, and_self, Option.isSome_none, Option.isSome_some, Bool.false_eq_true, ii_s, ii_m, ii_mn, ii_2, st1_, st1_i, st1_r, st1_ii, st1_ir, st1_ri, st1_rr, st1_iii, st1_iir, st1_iri, st1_irr, st1_rii, st1_rir, st1_rri, st1_rrr, st1_iiii, st1_iiir, st1_iiri, st1_iirr, st1_irii, st1_irir, st1_irri, st1_irrr, st1_riii, st1_riir, st1_riri, st1_rirr, st1_rrii, st1_rrir, st1_rrri, st1_rrrr, st1_iiiii, st1_iiiir, st1_iiiri, st1_iiirr, st1_iirii, st1_iirir, st1_iirri, st1_iirrr, st1_iriii, st1_iriir, st1_iriri, st1_irirr, st1_irrii, st1_irrir, st1_irrri, st1_irrrr, st1_riiii, st1_riiir, st1_riiri, st1_riirr, st1_ririi, st1_ririr, st1_rirri, st1_rirrr, st1_rriii, st1_rriir, st1_rriri, st1_rrirr, st1_rrrii, st1_rrrir, st1_rrrri, st1_rrrrr, Option.toList_some, Option.toList_none, List.cons_append, List.nil_append, true_and, and_true, true_implies, false_implies, not_true_eq_false, not_false_eq_true, implies_true, eq_self, q0, q1, q2, q3, q6, q8, q23, hh_192, hh_193, hh_194, hh_195, hh_196, hh_197, hh_198, hh_199, Int.add_zero, ii_p2, ii_p3, ii_p4, ii_p5, e1]
  refine ab_C.up (d := 0) (sp_Model_placed (by omega) (by omega) ?_) (Nat.le_of_ble_eq_true rfl)
  have g := loop 4 1 (ab_hi h1 193 (pl z n) (Int32.ofInt ev)) (by omega) (by omega) rfl (fun k k1 => hi_o k1) (fun j => by
    rw [hi_1]
    by_cases c2 : j = pl z n
    · rw [if_pos c2, if_pos ⟨rfl, c2⟩]
    · rw [if_neg c2, if_neg (fun q => c2 q.2), if_neg (by omega)])
  simp -implicitDefEqProofs (disch := omega) only [ii_b, ↓ev_rn, ↓ev_aload_0, ↓ev_aload_0N, ↓ev_bipush, ↓ev_calls_1, ↓ev_calls_2, ↓ev_callv_1, ↓ev_callv_2, ↓ev_dup2, ↓ev_getfield_1, ↓ev_goto, ↓ev_iadd, ↓ev_iaload, ↓ev_iastore, ↓ev_icmp_ge, ↓ev_icmp_ne, ↓ev_iconst, ↓ev_if_ne, ↓ev_iinc_3, ↓ev_iload_1, ↓ev_iload_2, ↓ev_iload_3, ↓ev_imul, ↓ev_ireturn_0, ↓ev_istore_2, ↓ev_istore_3, ↓ev_isub, ↓ev_ldc, ↓ev_nop, bq_Model_leaf_0, bk_Model_leaf_0, bq_Model_leaf_10, bk_Model_leaf_10, bq_Model_leaf_23, bk_Model_leaf_23, bq_Model_leaf_53, bk_Model_leaf_53, bq_Model_leaf_73, bk_Model_leaf_73, ↓reduceIte, false_and, and_false, List.not_mem_nil, List.mem_cons, or_false, or_true, true_or, false_or, Nat.reduceEqDiff, ab_ac, ab_ar, Nat.reduceSub, Nat.reduceLeDiff, Nat.reduceAdd, Nat.reduceLT, Int.cast_ofNat_Int, Int.ofNat_toNat, Int.toNat_natCast, ii_0, ii_1, ii_add, ii_sub, ii_mul, ii_neg, ii_lt, ii_le, ii_eq, ii_cl, ii_in, dc_lt_t, dc_lt_f, dc_le_t, dc_le_f, dc_eq_t, dc_eq_f, dn_lt_t, dn_le_t, dn_eq_t, dn_eq_f, hi_1, hi_2, and_self, Option.isSome_none, Option.isSome_some, Bool.false_eq_true, ii_s, ii_m, ii_mn, ii_2, st1_, st1_i, st1_r, st1_ii, st1_ir, st1_ri, st1_rr, st1_iii, st1_iir, st1_iri, st1_irr, st1_rii, st1_rir, st1_rri, st1_rrr, st1_iiii, st1_iiir, st1_iiri, st1_iirr, st1_irii, st1_irir, st1_irri, st1_irrr, st1_riii, st1_riir, st1_riri, st1_rirr, st1_rrii, st1_rrir, st1_rrri, st1_rrrr, st1_iiiii, st1_iiiir, st1_iiiri, st1_iiirr, st1_iirii, st1_iirir, st1_iirri, st1_iirrr, st1_iriii, st1_iriir, st1_iriri, st1_irirr, st1_irrii, st1_irrir, st1_irrri, st1_irrrr, st1_riiii, st1_riiir, st1_riiri, st1_riirr, st1_ririi, st1_ririr, st1_rirri, st1_rirrr, st1_rriii, st1_rriir, st1_rriri, st1_rrirr, st1_rrrii, st1_rrrir, st1_rrrri, st1_rrrrr, Option.toList_some, Option.toList_none, List.cons_append, List.nil_append, true_and, and_true, true_implies, false_implies, not_true_eq_false, not_false_eq_true, implies_true, eq_self, q0, q1, q2, q3, q6, q8, q23, hh_192, hh_193, hh_194, hh_195, hh_196, hh_197, hh_198, hh_199, Int.add_zero, ii_p2, ii_p3, ii_p4, ii_p5, e2]
  exact g
