/-! ===== FairBooksModel: its world; records, undo ===== -/
def st_sz (s : St) : Prop := s.1.length ≤ 16 ∧ ∀ c, c < 4 → (s.2.1 c).length ≤ 8
theorem st_un.sz {s : St} (h : st_un s) : st_sz s := ⟨h.1.1, h.h8⟩
theorem sp_R.cg {r r' : Nat → Int32} {s : St} (h : sp_R r s) (hz : st_sz s) (e : ∀ k, k < 235 → r' k = r k) : sp_R r' s := by
  obtain ⟨⟨a0, a1, a2⟩, b, c, d⟩ := h
  obtain ⟨z1, z2⟩ := hz
  refine ⟨⟨by rw [e 0 (by omega)]; exact a0, by rw [e 1 (by omega)]; exact a1, by rw [e 2 (by omega)]; exact a2⟩, fun k hk => by rw [e _ (by omega)]; exact b k hk, fun i hi => ?_, fun k hk => ?_⟩
  · rw [e _ (by omega), e _ (by omega)]; exact c i hi
  · have b1 := bo_le hk
    rw [e _ b1.2]
    refine ⟨(d k hk).1, fun p hp j hj => ?_⟩
    have z3 := z2 k hk
    have p1 := pl_le hk (show p < 8 by omega)
    rw [e _ (by omega)]
    exact (d k hk).2 p hp j hj
def sp_Mp (h : ab_H) (H : List St) : Prop := h.1 192 4 = Int32.ofInt H.length ∧ H.length ≤ 4 ∧ ∀ i s, H[i]? = some s → st_sz s ∧ sp_R (fun k => h.1 196 (235 * (H.length - 1 - i) + k)) s
def sp_MW (h : ab_H) (b : Bool) (s : St) (H : List St) : Prop := sp_F h ∧ sp_R (h.1 193) s ∧ sp_Mp h H ∧ h.1 192 5 = Int32.ofInt (if b = true then 1 else 0)
def sp_md (h h' : ab_H) : Prop := h'.2 = h.2 ∧ (∀ k, k ≠ 192 → k ≠ 193 → k ≠ 195 → k ≠ 196 → k ≠ 198 → h'.1 k = h.1 k) ∧ ∀ j, j ≠ 4 → (j < 9 ∨ 13 ≤ j) → h'.1 192 j = h.1 192 j
theorem sp_md.rf {h : ab_H} : sp_md h h := ⟨rfl, fun _ _ _ _ _ _ => rfl, fun _ _ _ => rfl⟩
theorem sp_md.tr {h h1 h2 : ab_H} (a : sp_md h h1) (b : sp_md h1 h2) : sp_md h h2 := ⟨b.1.trans a.1, fun k k1 k2 k3 k4 k5 => (b.2.1 k k1 k2 k3 k4 k5).trans (a.2.1 k k1 k2 k3 k4 k5), fun j j1 hj => (b.2.2 j j1 hj).trans (a.2.2 j j1 hj)⟩
theorem sp_mf.md {h h' : ab_H} (a : sp_mf h h') : sp_md h h' := ⟨a.1, fun k k1 _ _ _ k5 => a.2.1 k k1 k5, fun j _ hj => a.2.2 j hj⟩
theorem sp_md.w {h h1 : ab_H} {c n : Nat} {v : Int32} (a : sp_md h h1) (hc : c = 193 ∨ c = 195 ∨ c = 196 ∨ c = 198) : sp_md h (ab_hi h1 c n v) :=
  a.tr ⟨rfl, fun k _ k2 k3 k4 k5 => hi_o (by omega), fun j _ _ => by rw [hi_o (by omega)]⟩
theorem sp_md.f {h h1 : ab_H} {v : Int32} (a : sp_md h h1) : sp_md h (ab_hi h1 192 4 v) :=
  a.tr ⟨rfl, fun k k1 _ _ _ _ => hi_o k1, fun j j1 _ => by rw [hi_1, if_neg (fun q => j1 q.2)]⟩
theorem sp_Mp.fr {h h' : ab_H} {H : List St} (a : sp_Mp h H) (e1 : h'.1 192 4 = h.1 192 4) (e2 : h'.1 196 = h.1 196) : sp_Mp h' H := by
  unfold sp_Mp at a ⊢
  rw [e1, e2]
  exact a
theorem sp_MW.mf {h h' : ab_H} {b : Bool} {s : St} {H : List St} (a : sp_MW h b s H) (f : sp_mf h h') : sp_MW h' b s H :=
  ⟨a.1.of f.1, by rw [f.r]; exact a.2.1, a.2.2.1.fr (f.2.2 4 (by omega)) (f.2.1 196 (by omega) (by omega)), (f.2.2 5 (by omega)).trans a.2.2.2⟩
theorem sp_MW.put {h h' : ab_H} {b : Bool} {s s' : St} {H : List St} (a : sp_MW h b s H) (e0 : h'.2 = h.2) (e1 : h'.1 192 = h.1 192) (e2 : h'.1 196 = h.1 196) (r : sp_R (h'.1 193) s') : sp_MW h' b s' H :=
  ⟨a.1.of e0, r, a.2.2.1.fr (by rw [e1]) e2, by rw [e1]; exact a.2.2.2⟩
/-- the oldest row goes, the newest comes -/
theorem sp_Mp.push {h h1 h' : ab_H} {s : St} {H : List St} {n : Nat} (hz : st_sz s) (hR : sp_R (h.1 193) s) (hl : H.length ≤ 3) (hn : n = H.length)
    (hH : ∀ i s, H[i]? = some s → st_sz s ∧ sp_R (fun k => h1.1 196 (235 * (H.length - 1 - i) + k)) s) (e4 : h'.1 192 4 = Int32.ofInt ((n + 1 : Nat) : Int))
    (e : ∀ j, h'.1 196 j = if 235 * n ≤ j ∧ j < 235 * n + 235 then h.1 193 (j - 235 * n) else h1.1 196 j) : sp_Mp h' (s :: H) := by
  subst hn
  refine ⟨by rw [e4, List.length_cons], by rw [List.length_cons]; omega, fun i s' hs => ?_⟩
  cases i with
  | zero =>
    rw [List.getElem?_cons_zero] at hs
    cases hs
    refine ⟨hz, hR.cg hz (fun k hk => ?_)⟩
    show h'.1 196 _ = _
    rw [List.length_cons, show H.length + 1 - 1 - 0 = H.length by omega, e, if_pos (by omega), show 235 * H.length + k - 235 * H.length = k by omega]
  | succ i =>
    rw [List.getElem?_cons_succ] at hs
    obtain ⟨g1, g2⟩ := hH i s' hs
    have hi : i < H.length := by
      rcases Nat.lt_or_ge i H.length with g | g
      · exact g
      · rw [List.getElem?_eq_none g] at hs; cases hs
    refine ⟨g1, g2.cg g1 (fun k hk => ?_)⟩
    show h'.1 196 _ = h1.1 196 _
    rw [List.length_cons, show H.length + 1 - 1 - (i + 1) = H.length - 1 - i by omega, e, if_neg (by omega)]
abbrev rc_ls (z : Option Value) : List (Option Value) := [some (.ref 192), z]
set_option maxRecDepth 100000 in
set_option maxHeartbeats 4000000 in
theorem sp_records_c {s : St} {H : List St} {n : Nat} {h hb : ab_H} {Q : Option Value → ab_H → Prop} {z : Option Value} (hF : sp_F h) (hR : sp_R (h.1 193) s) (hz : st_sz s) (hl : H.length ≤ 3) (hn : n = H.length) (e0 : hb.2 = h.2) (e1 : hb.1 193 = h.1 193) (e2 : hb.1 192 4 = Int32.ofInt n)
    (hH : ∀ i s, H[i]? = some s → st_sz s ∧ sp_R (fun k => hb.1 196 (235 * (H.length - 1 - i) + k)) s)
    (hq : ∀ h', h'.2 = hb.2 → (∀ k, k ≠ 196 → k ≠ 192 → h'.1 k = hb.1 k) → (∀ j, j ≠ 4 → h'.1 192 j = hb.1 192 j) → sp_Mp h' (s :: H) → Q none h') : ab_W 0 yn_Model_records 57 200 0 0 (rc_ls z) [] hb Q := by
  have loop : ∀ (k i : Nat) (h1 : ab_H), i + k = 235 → h1.2 = hb.2 → (∀ k, k ≠ 196 → h1.1 k = hb.1 k) → (∀ j, h1.1 196 j = if 235 * n ≤ j ∧ j < 235 * n + i then h.1 193 (j - 235 * n) else hb.1 196 j) → ab_W 0 yn_Model_records 59 200 0 0 (rc_ls (some (.int (Int32.ofInt i)))) [] h1 Q := by
    intro k
    induction k with
    | zero =>
      intro i h1 hi f0 f1 f2
      obtain rfl : i = 235 := by omega
      obtain ⟨q0, q1, q2, q3, q6, q8, q23⟩ := sp_M (hF.of (f0.trans e0))
      have g4 : h1.1 192 4 = Int32.ofInt n := by rw [f1 192 (by omega)]; exact e2
      refine ab_go [59] 12 bo_Model_records ?_
      simp -implicitDefEqProofs (disch := omega) only [ii_b, ↓ev_rn, ↓ev_aload_0, ↓ev_aload_0N, ↓ev_dup_i, ↓ev_dup_r, ↓ev_getfield_0, ↓ev_getfield_1, ↓ev_getfield_2, ↓ev_goto, ↓ev_iadd, ↓ev_iaload, ↓ev_iastore, ↓ev_icmp_ge, ↓ev_icmp_ne, ↓ev_iconst, ↓ev_if_eq, ↓ev_iinc_1, ↓ev_iload_1, ↓ev_imul, ↓ev_istore_1, ↓ev_isub, ↓ev_nop, ↓ev_putfield_0, ↓ev_return_, ↓ev_sipush, bq_Model_records_0, bk_Model_records_0, bq_Model_records_8, bk_Model_records_8, bq_Model_records_18, bk_Model_records_18, bq_Model_records_47, bk_Model_records_47, bq_Model_records_57, bk_Model_records_57, bq_Model_records_59, bk_Model_records_59, bq_Model_records_93, bk_Model_records_93, ↓reduceIte, false_and, and_false, List.not_mem_nil, List.mem_cons, or_false, or_true, true_or, false_or, Nat.reduceEqDiff, ab_ac, ab_ar, Nat.reduceSub, Nat.reduceLeDiff, Nat.reduceAdd, Nat.reduceLT, Int.cast_ofNat_Int, Int.ofNat_toNat, Int.toNat_natCast, ii_0, ii_1, ii_add, ii_sub, ii_mul, ii_neg, ii_lt, ii_le, ii_eq, ii_cl, ii_in, dc_lt_t, dc_lt_f, dc_le_t, dc_le_f, dc_eq_t, dc_eq_f, dn_lt_t, dn_le_t, dn_eq_t, dn_eq_f, hi_1, hi_2, and_self, Option.isSome_none, Option.isSome_some, Bool.false_eq_true, ii_s, ii_m, ii_mn, ii_2, st1_, st1_i, st1_r, st1_ii, st1_ir, st1_ri, st1_rr, st1_iii, st1_iir, st1_iri, st1_irr, st1_rii, st1_rir, st1_rri, st1_rrr, st1_iiii, st1_iiir, st1_iiri, st1_iirr, st1_irii, st1_irir, st1_irri, st1_irrr, st1_riii, st1_riir, st1_riri, st1_rirr, st1_rrii, st1_rrir, st1_rrri, st1_rrrr, st1_iiiii, st1_iiiir, st1_iiiri, st1_iiirr, st1_iirii, st1_iirir, st1_iirri, st1_iirrr, st1_iriii, st1_iriir, st1_iriri, st1_irirr, st1_irrii, st1_irrir, st1_irrri, st1_irrrr, st1_riiii, st1_riiir, st1_riiri, st1_riirr, st1_ririi, st1_ririr, st1_rirri, st1_rirrr, st1_rriii, st1_rriir, st1_rriri, st1_rrirr, st1_rrrii, st1_rrrir, st1_rrrri, st1_rrrrr, Option.toList_some, Option.toList_none, List.cons_append, List.nil_append, true_and, and_true, true_implies, false_implies, not_true_eq_false, not_false_eq_true, implies_true, eq_self, q0, q1, q2, q3, q6, q8, q23, hh_192, hh_193, hh_194, hh_195, hh_196, hh_197, hh_198, hh_199, Int.add_zero, ii_p2, ii_p3, ii_p4, ii_p5, g4]
      refine hq _ f0 (fun k k1 k2 => by rw [hi_o k2]; exact f1 k k1) (fun j j4 => by rw [hi_1, if_neg (fun q => j4 q.2), f1 192 (by omega)]) ?_
      refine sp_Mp.push (h1 := hb) hz hR hl hn hH (by rw [hi_1, if_pos ⟨rfl, rfl⟩]) (fun j => ?_)
      rw [hi_o (by omega)]
      exact f2 j
    | succ k ih =>
      intro i h1 hi f0 f1 f2
      obtain ⟨q0, q1, q2, q3, q6, q8, q23⟩ := sp_M (hF.of (f0.trans e0))
      have g4 : h1.1 192 4 = Int32.ofInt n := by rw [f1 192 (by omega)]; exact e2
      have g193 : h1.1 193 = h.1 193 := by rw [f1 193 (by omega), e1]
      have ej : (235 : Int) * (n : Int) + (i : Int) = ((235 * n + i : Nat) : Int) := rfl
      refine ab_go [59] 12 bo_Model_records ?_
      simp -implicitDefEqProofs (disch := omega) only [ii_b, ↓ev_rn, ↓ev_aload_0, ↓ev_aload_0N, ↓ev_dup_i, ↓ev_dup_r, ↓ev_getfield_0, ↓ev_getfield_1, ↓ev_getfield_2, ↓ev_goto, ↓ev_iadd, ↓ev_iaload, ↓ev_iastore, ↓ev_icmp_ge, ↓ev_icmp_ne, ↓ev_iconst, ↓ev_if_eq, ↓ev_iinc_1, ↓ev_iload_1, ↓ev_imul, ↓ev_istore_1, ↓ev_isub, ↓ev_nop, ↓ev_putfield_0, ↓ev_return_, ↓ev_sipush, bq_Model_records_0, bk_Model_records_0, bq_Model_records_8, bk_Model_records_8, bq_Model_records_18, bk_Model_records_18, bq_Model_records_47, bk_Model_records_47, bq_Model_records_57, bk_Model_records_57, bq_Model_records_59, bk_Model_records_59, bq_Model_records_93, bk_Model_records_93, ↓reduceIte, false_and, and_false, List.not_mem_nil, List.mem_cons, or_false, or_true, true_or, false_or, Nat.reduceEqDiff, ab_ac, ab_ar, Nat.reduceSub, Nat.reduceLeDiff, Nat.reduceAdd, Nat.reduceLT, Int.cast_ofNat_Int, Int.ofNat_toNat, Int.toNat_natCast, ii_0, ii_1, ii_add, ii_sub, ii_mul, ii_neg, ii_lt, ii_le, ii_eq, ii_cl, ii_in, dc_lt_t, dc_lt_f, dc_le_t, dc_le_f, dc_eq_t, dc_eq_f, dn_lt_t, dn_le_t, dn_eq_t, dn_eq_f, hi_1, hi_2, and_self, Option.isSome_none, Option.isSome_some, Bool.false_eq_true, ii_s, ii_m, ii_mn, ii_2, st1_, st1_i, st1_r, st1_ii, st1_ir, st1_ri, st1_rr, st1_iii, st1_iir, st1_iri, st1_irr, st1_rii, st1_rir, st1_rri, st1_rrr, st1_iiii, st1_iiir, st1_iiri, st1_iirr, st1_irii, st1_irir, st1_irri, st1_irrr, st1_riii, st1_riir, st1_riri, st1_rirr, st1_rrii, st1_rrir, st1_rrri, st1_rrrr, st1_iiiii, st1_iiiir, st1_iiiri, st1_iiirr, st1_iirii, st1_iirir, st1_iirri, st1_iirrr, st1_iriii, st1_iriir, st1_iriri, st1_irirr, st1_irrii, st1_irrir, st1_irrri, st1_irrrr, st1_riiii, st1_riiir, st1_riiri, st1_riirr, st1_ririi, st1_ririr, st1_rirri, st1_rirrr, st1_rriii, st1_rriir, st1_rriri, st1_rrirr, st1_rrrii, st1_rrrir, st1_rrrri, st1_rrrrr, Option.toList_some, Option.toList_none, List.cons_append, List.nil_append, true_and, and_true, true_implies, false_implies, not_true_eq_false, not_false_eq_true, implies_true, eq_self, q0, q1, q2, q3, q6, q8, q23, hh_192, hh_193, hh_194, hh_195, hh_196, hh_197, hh_198, hh_199, Int.add_zero, ii_p2, ii_p3, ii_p4, ii_p5, g4, ej]
      refine ih (i + 1) _ (by omega) f0 (fun k k1 => by rw [hi_o k1]; exact f1 k k1) (fun j => ?_)
      rw [hi_1, g193]
      by_cases c : j = 235 * n + i
      · rw [if_pos ⟨rfl, c⟩, if_pos (by omega), c, show 235 * n + i - 235 * n = i by omega]
      · rw [if_neg (fun q => c q.2), f2 j]
        by_cases c2 : 235 * n ≤ j ∧ j < 235 * n + i
        · rw [if_pos c2, if_pos (by omega)]
        · rw [if_neg c2, if_neg (by omega)]
  refine ab_go [59] 12 bo_Model_records ?_
  have g := loop 235 0 hb (by omega) rfl (fun _ _ => rfl) (fun j => by rw [if_neg (by omega)])
  simp -implicitDefEqProofs (disch := omega) only [ii_b, ↓ev_rn, ↓ev_aload_0, ↓ev_aload_0N, ↓ev_dup_i, ↓ev_dup_r, ↓ev_getfield_0, ↓ev_getfield_1, ↓ev_getfield_2, ↓ev_goto, ↓ev_iadd, ↓ev_iaload, ↓ev_iastore, ↓ev_icmp_ge, ↓ev_icmp_ne, ↓ev_iconst, ↓ev_if_eq, ↓ev_iinc_1, ↓ev_iload_1, ↓ev_imul, ↓ev_istore_1, ↓ev_isub, ↓ev_nop, ↓ev_putfield_0, ↓ev_return_, ↓ev_sipush, bq_Model_records_0, bk_Model_records_0, bq_Model_records_8, bk_Model_records_8, bq_Model_records_18, bk_Model_records_18, bq_Model_records_47, bk_Model_records_47, bq_Model_records_57, bk_Model_records_57, bq_Model_records_59, bk_Model_records_59, bq_Model_records_93, bk_Model_records_93, ↓reduceIte, false_and, and_false, List.not_mem_nil, List.mem_cons, or_false, or_true, true_or, false_or, Nat.reduceEqDiff, ab_ac, ab_ar, Nat.reduceSub, Nat.reduceLeDiff, Nat.reduceAdd, Nat.reduceLT, Int.cast_ofNat_Int, Int.ofNat_toNat, Int.toNat_natCast, ii_0, ii_1, ii_add, ii_sub, ii_mul, ii_neg, ii_lt, ii_le, ii_eq, ii_cl, ii_in, dc_lt_t, dc_lt_f, dc_le_t, dc_le_f, dc_eq_t, dc_eq_f, dn_lt_t, dn_le_t, dn_eq_t, dn_eq_f, hi_1, hi_2, and_self, Option.isSome_none, Option.isSome_some, Bool.false_eq_true, ii_s, ii_m, ii_mn, ii_2, st1_, st1_i, st1_r, st1_ii, st1_ir, st1_ri, st1_rr, st1_iii, st1_iir, st1_iri, st1_irr, st1_rii, st1_rir, st1_rri, st1_rrr, st1_iiii, st1_iiir, st1_iiri, st1_iirr, st1_irii, st1_irir, st1_irri, st1_irrr, st1_riii, st1_riir, st1_riri, st1_rirr, st1_rrii, st1_rrir, st1_rrri, st1_rrrr, st1_iiiii, st1_iiiir, st1_iiiri, st1_iiirr, st1_iirii, st1_iirir, st1_iirri, st1_iirrr, st1_iriii, st1_iriir, st1_iriri, st1_irirr, st1_irrii, st1_irrir, st1_irrri, st1_irrrr, st1_riiii, st1_riiir, st1_riiri, st1_riirr, st1_ririi, st1_ririr, st1_rirri, st1_rirrr, st1_rriii, st1_rriir, st1_rriri, st1_rrirr, st1_rrrii, st1_rrrir, st1_rrrri, st1_rrrrr, Option.toList_some, Option.toList_none, List.cons_append, List.nil_append, true_and, and_true, true_implies, false_implies, not_true_eq_false, not_false_eq_true, implies_true, eq_self]
  exact g
set_option maxRecDepth 100000 in
set_option maxHeartbeats 4000000 in
theorem sp_Model_records {b : Bool} {s : St} {H : List St} {h : ab_H} {Q : Option Value → ab_H → Prop} (hW : sp_MW h b s H) (hz : st_sz s)
    (hq : ∀ h', sp_md h h' → sp_MW h' b s (if b = true then H else hi_keep s H) → h'.1 193 = h.1 193 → Q none h') : ab_C 0 yn_Model_records 200 [.ref 192] h Q := by
  refine ab_of ⟨Nat.le_of_ble_eq_true rfl, Nat.le_of_ble_eq_true rfl⟩ (by simp [Value.category]) (Nat.le_of_ble_eq_true rfl) ?_
  show ab_W 0 yn_Model_records 0 200 0 0 [some (.ref 192), none] [] h Q
  obtain ⟨hF, hR, hM, h5⟩ := id hW
  obtain ⟨q0, q1, q2, q3, q6, q8, q23⟩ := sp_M hF
  obtain ⟨m0, m1, m2⟩ := id hM
  cases b with
  | true =>
    rw [if_pos rfl] at hq h5
    refine ab_go [] 12 bo_Model_records ?_
    simp -implicitDefEqProofs (disch := omega) only [ii_b, ↓ev_rn, ↓ev_aload_0, ↓ev_aload_0N, ↓ev_dup_i, ↓ev_dup_r, ↓ev_getfield_0, ↓ev_getfield_1, ↓ev_getfield_2, ↓ev_goto, ↓ev_iadd, ↓ev_iaload, ↓ev_iastore, ↓ev_icmp_ge, ↓ev_icmp_ne, ↓ev_iconst, ↓ev_if_eq, ↓ev_iinc_1, ↓ev_iload_1, ↓ev_imul, ↓ev_istore_1, ↓ev_isub, ↓ev_nop, ↓ev_putfield_0, ↓ev_return_, ↓ev_sipush, bq_Model_records_0, bk_Model_records_0, bq_Model_records_8, bk_Model_records_8, bq_Model_records_18, bk_Model_records_18, bq_Model_records_47, bk_Model_records_47, bq_Model_records_57, bk_Model_records_57, bq_Model_records_59, bk_Model_records_59, bq_Model_records_93, bk_Model_records_93, ↓reduceIte, false_and, and_false, List.not_mem_nil, List.mem_cons, or_false, or_true, true_or, false_or, Nat.reduceEqDiff, ab_ac, ab_ar, Nat.reduceSub, Nat.reduceLeDiff, Nat.reduceAdd, Nat.reduceLT, Int.cast_ofNat_Int, Int.ofNat_toNat, Int.toNat_natCast, ii_0, ii_1, ii_add, ii_sub, ii_mul, ii_neg, ii_lt, ii_le, ii_eq, ii_cl, ii_in, dc_lt_t, dc_lt_f, dc_le_t, dc_le_f, dc_eq_t, dc_eq_f, dn_lt_t, dn_le_t, dn_eq_t, dn_eq_f, hi_1, hi_2, and_self, Option.isSome_none, Option.isSome_some, Bool.false_eq_true, ii_s, ii_m, ii_mn, ii_2, st1_, st1_i, st1_r, st1_ii, st1_ir, st1_ri, st1_rr, st1_iii, st1_iir, st1_iri, st1_irr, st1_rii, st1_rir, st1_rri, st1_rrr, st1_iiii, st1_iiir, st1_iiri, st1_iirr, st1_irii, st1_irir, st1_irri, st1_irrr, st1_riii, st1_riir, st1_riri, st1_rirr, st1_rrii, st1_rrir, st1_rrri, st1_rrrr, st1_iiiii, st1_iiiir, st1_iiiri, st1_iiirr, st1_iirii, st1_iirir, st1_iirri, st1_iirrr, st1_iriii, st1_iriir, st1_iriri, st1_irirr, st1_irrii, st1_irrir, st1_irrri, st1_irrrr, st1_riiii, st1_riiir, st1_riiri, st1_riirr, st1_ririi, st1_ririr, st1_rirri, st1_rirrr, st1_rriii, st1_rriir, st1_rriri, st1_rrirr, st1_rrrii, st1_rrrir, st1_rrrri, st1_rrrrr, Option.toList_some, Option.toList_none, List.cons_append, List.nil_append, true_and, and_true, true_implies, false_implies, not_true_eq_false, not_false_eq_true, implies_true, eq_self, q0, q1, q2, q3, q6, q8, q23, hh_192, hh_193, hh_194, hh_195, hh_196, hh_197, hh_198, hh_199, Int.add_zero, ii_p2, ii_p3, ii_p4, ii_p5, h5]
    exact hq h sp_md.rf hW rfl
  | false =>
    rw [if_neg (by decide)] at hq h5
    have ek : hi_keep s H = s :: H.take 3 := rfl
    by_cases c4 : H.length = 4
    · have e3 : (H.take 3).length = 3 := by rw [List.length_take]; omega
      have loop : ∀ (k i : Nat) (h1 : ab_H), i + k = 705 → h1.2 = h.2 → (∀ k, k ≠ 196 → h1.1 k = h.1 k) → (∀ j, h1.1 196 j = if j < i then h.1 196 (j + 235) else h.1 196 j) → ab_W 0 yn_Model_records 18 200 0 0 (rc_ls (some (.int (Int32.ofInt i)))) [] h1 Q := by
        intro k
        induction k with
        | zero =>
          intro i h1 hi f0 f1 f2
          obtain rfl : i = 705 := by omega
          obtain ⟨q0, q1, q2, q3, q6, q8, q23⟩ := sp_M (hF.of f0)
          have g4 : h1.1 192 4 = Int32.ofInt ((4 : Nat) : Int) := by rw [f1 192 (by omega), m0, c4]
          have tail := sp_records_c (h := h) (hb := ab_hi h1 192 4 (Int32.ofInt ((3 : Nat) : Int))) (Q := Q) (z := some (.int (Int32.ofInt ((705 : Nat) : Int)))) (n := 3) (H := H.take 3) hF hR hz (by omega) e3.symm f0 (by rw [hi_o (by omega)]; exact f1 193 (by omega)) (by rw [hi_1, if_pos ⟨rfl, rfl⟩])
            (fun i s' hs => by
              have hi : i < 3 := by
                rcases Nat.lt_or_ge i (H.take 3).length with g | g
                · omega
                · rw [List.getElem?_eq_none g] at hs; cases hs
              rw [List.getElem?_take_of_lt hi] at hs
              obtain ⟨g1, g2⟩ := m2 i s' hs
              refine ⟨g1, g2.cg g1 (fun k hk => ?_)⟩
              show (ab_hi h1 192 4 _).1 196 _ = h.1 196 _
              rw [hi_o (by omega), f2, if_pos (by omega), e3, c4, show 235 * (3 - 1 - i) + k + 235 = 235 * (4 - 1 - i) + k by omega])
            (fun h' k0 k1 k2 k3 => hq h' ⟨k0.trans f0, fun k i1 i2 i3 i4 i5 => by rw [k1 k i4 i1, hi_o i1, f1 k i4], fun j j1 j2 => by rw [k2 j j1, hi_1, if_neg (fun q => j1 q.2), f1 192 (by omega)]⟩
              ⟨hF.of (k0.trans f0), by rw [k1 193 (by omega) (by omega), hi_o (by omega), f1 193 (by omega)]; exact hR, k3, by rw [k2 5 (by omega), hi_1, if_neg (by omega), f1 192 (by omega)]; exact h5⟩ (by rw [k1 193 (by omega) (by omega), hi_o (by omega), f1 193 (by omega)]))
          refine ab_go [18, 57] 12 bo_Model_records ?_
          simp -implicitDefEqProofs (disch := omega) only [ii_b, ↓ev_rn, ↓ev_aload_0, ↓ev_aload_0N, ↓ev_dup_i, ↓ev_dup_r, ↓ev_getfield_0, ↓ev_getfield_1, ↓ev_getfield_2, ↓ev_goto, ↓ev_iadd, ↓ev_iaload, ↓ev_iastore, ↓ev_icmp_ge, ↓ev_icmp_ne, ↓ev_iconst, ↓ev_if_eq, ↓ev_iinc_1, ↓ev_iload_1, ↓ev_imul, ↓ev_istore_1, ↓ev_isub, ↓ev_nop, ↓ev_putfield_0, ↓ev_return_, ↓ev_sipush, bq_Model_records_0, bk_Model_records_0, bq_Model_records_8, bk_Model_records_8, bq_Model_records_18, bk_Model_records_18, bq_Model_records_47, bk_Model_records_47, bq_Model_records_57, bk_Model_records_57, bq_Model_records_59, bk_Model_records_59, bq_Model_records_93, bk_Model_records_93, ↓reduceIte, false_and, and_false, List.not_mem_nil, List.mem_cons, or_false, or_true, true_or, false_or, Nat.reduceEqDiff, ab_ac, ab_ar, Nat.reduceSub, Nat.reduceLeDiff, Nat.reduceAdd, Nat.reduceLT, Int.cast_ofNat_Int, Int.ofNat_toNat, Int.toNat_natCast, ii_0, ii_1, ii_add, ii_sub, ii_mul, ii_neg, ii_lt, ii_le, ii_eq, ii_cl, ii_in, dc_lt_t, dc_lt_f, dc_le_t, dc_le_f, dc_eq_t, dc_eq_f, dn_lt_t, dn_le_t, dn_eq_t, dn_eq_f, hi_1, hi_2, and_self, Option.isSome_none, Option.isSome_some, Bool.false_eq_true, ii_s, ii_m, ii_mn, ii_2, st1_, st1_i, st1_r, st1_ii, st1_ir, st1_ri, st1_rr, st1_iii, st1_iir, st1_iri, st1_irr, st1_rii, st1_rir, st1_rri, st1_rrr, st1_iiii, st1_iiir, st1_iiri, st1_iirr, st1_irii, st1_irir, st1_irri, st1_irrr, st1_riii, st1_riir, st1_riri, st1_rirr, st1_rrii, st1_rrir, st1_rrri, st1_rrrr, st1_iiiii, st1_iiiir, st1_iiiri, st1_iiirr, st1_iirii, st1_iirir, st1_iirri, st1_iirrr, st1_iriii, st1_iriir, st1_iriri, st1_irirr, st1_irrii, st1_irrir, st1_irrri, st1_irrrr, st1_riiii, st1_riiir, st1_riiri, st1_riirr, st1_ririi, st1_ririr, st1_rirri, st1_rirrr, st1_rriii, st1_rriir, st1_rriri, st1_rrirr, st1_rrrii, st1_rrrir, st1_rrrri, st1_rrrrr, Option.toList_some, Option.toList_none, List.cons_append, List.nil_append, true_and, and_true, true_implies, false_implies, not_true_eq_false, not_false_eq_true, implies_true, eq_self, q0, q1, q2, q3, q6, q8, q23, hh_192, hh_193, hh_194, hh_195, hh_196, hh_197, hh_198, hh_199, Int.add_zero, ii_p2, ii_p3, ii_p4, ii_p5, g4, Int.reduceAdd, Int.reduceNeg, Int.reduceLT, Int.reduceEq, Int.reduceLE, zn_0, zn_1, zn_2, zn_3]
          exact tail
        | succ k ih =>
          intro i h1 hi f0 f1 f2
          obtain ⟨q0, q1, q2, q3, q6, q8, q23⟩ := sp_M (hF.of f0)
          have ej : (i : Int) + 235 = ((i + 235 : Nat) : Int) := rfl
          refine ab_go [18, 57] 12 bo_Model_records ?_
          simp -implicitDefEqProofs (disch := omega) only [ii_b, ↓ev_rn, ↓ev_aload_0, ↓ev_aload_0N, ↓ev_dup_i, ↓ev_dup_r, ↓ev_getfield_0, ↓ev_getfield_1, ↓ev_getfield_2, ↓ev_goto, ↓ev_iadd, ↓ev_iaload, ↓ev_iastore, ↓ev_icmp_ge, ↓ev_icmp_ne, ↓ev_iconst, ↓ev_if_eq, ↓ev_iinc_1, ↓ev_iload_1, ↓ev_imul, ↓ev_istore_1, ↓ev_isub, ↓ev_nop, ↓ev_putfield_0, ↓ev_return_, ↓ev_sipush, bq_Model_records_0, bk_Model_records_0, bq_Model_records_8, bk_Model_records_8, bq_Model_records_18, bk_Model_records_18, bq_Model_records_47, bk_Model_records_47, bq_Model_records_57, bk_Model_records_57, bq_Model_records_59, bk_Model_records_59, bq_Model_records_93, bk_Model_records_93, ↓reduceIte, false_and, and_false, List.not_mem_nil, List.mem_cons, or_false, or_true, true_or, false_or, Nat.reduceEqDiff, ab_ac, ab_ar, Nat.reduceSub, Nat.reduceLeDiff, Nat.reduceAdd, Nat.reduceLT, Int.cast_ofNat_Int, Int.ofNat_toNat, Int.toNat_natCast, ii_0, ii_1, ii_add, ii_sub, ii_mul, ii_neg, ii_lt, ii_le, ii_eq, ii_cl, ii_in, dc_lt_t, dc_lt_f, dc_le_t, dc_le_f, dc_eq_t, dc_eq_f, dn_lt_t, dn_le_t, dn_eq_t, dn_eq_f, hi_1, hi_2, and_self, Option.isSome_none, Option.isSome_some, Bool.false_eq_true, ii_s, ii_m, ii_mn, ii_2, st1_, st1_i, st1_r, st1_ii, st1_ir, st1_ri, st1_rr, st1_iii, st1_iir, st1_iri, st1_irr, st1_rii, st1_rir, st1_rri, st1_rrr, st1_iiii, st1_iiir, st1_iiri, st1_iirr, st1_irii, st1_irir, st1_irri, st1_irrr, st1_riii, st1_riir, st1_riri, st1_rirr, st1_rrii, st1_rrir, st1_rrri, st1_rrrr, st1_iiiii, st1_iiiir, st1_iiiri, st1_iiirr, st1_iirii, st1_iirir, st1_iirri, st1_iirrr, st1_iriii, st1_iriir, st1_iriri, st1_irirr, st1_irrii, st1_irrir, st1_irrri, st1_irrrr, st1_riiii, st1_riiir, st1_riiri, st1_riirr, st1_ririi, st1_ririr, st1_rirri, st1_rirrr, st1_rriii, st1_rriir, st1_rriri, st1_rrirr, st1_rrrii, st1_rrrir, st1_rrrri, st1_rrrrr, Option.toList_some, Option.toList_none, List.cons_append, List.nil_append, true_and, and_true, true_implies, false_implies, not_true_eq_false, not_false_eq_true, implies_true, eq_self, q0, q1, q2, q3, q6, q8, q23, hh_192, hh_193, hh_194, hh_195, hh_196, hh_197, hh_198, hh_199, Int.add_zero, ii_p2, ii_p3, ii_p4, ii_p5, ej]
          refine ih (i + 1) _ (by omega) f0 (fun k k1 => by rw [hi_o k1]; exact f1 k k1) (fun j => ?_)
          rw [hi_1]
          by_cases c : j = i
          · rw [if_pos ⟨rfl, c⟩, if_pos (by omega), f2, if_neg (by omega), c]
          · rw [if_neg (fun q => c q.2), f2 j]
            by_cases c2 : j < i
            · rw [if_pos c2, if_pos (by omega)]
            · rw [if_neg c2, if_neg (by omega)]
      have g := loop 705 0 h (by omega) rfl (fun _ _ => rfl) (fun j => by rw [if_neg (by omega)])
      rw [c4] at m0
      refine ab_go [18, 57] 12 bo_Model_records ?_
      simp -implicitDefEqProofs (disch := omega) only [ii_b, ↓ev_rn, ↓ev_aload_0, ↓ev_aload_0N, ↓ev_dup_i, ↓ev_dup_r, ↓ev_getfield_0, ↓ev_getfield_1, ↓ev_getfield_2, ↓ev_goto, ↓ev_iadd, ↓ev_iaload, ↓ev_iastore, ↓ev_icmp_ge, ↓ev_icmp_ne, ↓ev_iconst, ↓ev_if_eq, ↓ev_iinc_1, ↓ev_iload_1, ↓ev_imul, ↓ev_istore_1, ↓ev_isub, ↓ev_nop, ↓ev_putfield_0, ↓ev_return_, ↓ev_sipush, bq_Model_records_0, bk_Model_records_0, bq_Model_records_8, bk_Model_records_8, bq_Model_records_18, bk_Model_records_18, bq_Model_records_47, bk_Model_records_47, bq_Model_records_57, bk_Model_records_57, bq_Model_records_59, bk_Model_records_59, bq_Model_records_93, bk_Model_records_93, ↓reduceIte, false_and, and_false, List.not_mem_nil, List.mem_cons, or_false, or_true, true_or, false_or, Nat.reduceEqDiff, ab_ac, ab_ar, Nat.reduceSub, Nat.reduceLeDiff, Nat.reduceAdd, Nat.reduceLT, Int.cast_ofNat_Int, Int.ofNat_toNat, Int.toNat_natCast, ii_0, ii_1, ii_add, ii_sub, ii_mul, ii_neg, ii_lt, ii_le, ii_eq, ii_cl, ii_in, dc_lt_t, dc_lt_f, dc_le_t, dc_le_f, dc_eq_t, dc_eq_f, dn_lt_t, dn_le_t, dn_eq_t, dn_eq_f, hi_1, hi_2, and_self, Option.isSome_none, Option.isSome_some, Bool.false_eq_true, ii_s, ii_m, ii_mn, ii_2, st1_, st1_i, st1_r, st1_ii, st1_ir, st1_ri, st1_rr, st1_iii, st1_iir, st1_iri, st1_irr, st1_rii, st1_rir, st1_rri, st1_rrr, st1_iiii, st1_iiir, st1_iiri, st1_iirr, st1_irii, st1_irir, st1_irri, st1_irrr, st1_riii, st1_riir, st1_riri, st1_rirr, st1_rrii, st1_rrir, st1_rrri, st1_rrrr, st1_iiiii, st1_iiiir, st1_iiiri, st1_iiirr, st1_iirii, st1_iirir, st1_iirri, st1_iirrr, st1_iriii, st1_iriir, st1_iriri, st1_irirr, st1_irrii, st1_irrir, st1_irrri, st1_irrrr, st1_riiii, st1_riiir, st1_riiri, st1_riirr, st1_ririi, st1_ririr, st1_rirri, st1_rirrr, st1_rriii, st1_rriir, st1_rriri, st1_rrirr, st1_rrrii, st1_rrrir, st1_rrrri, st1_rrrrr, Option.toList_some, Option.toList_none, List.cons_append, List.nil_append, true_and, and_true, true_implies, false_implies, not_true_eq_false, not_false_eq_true, implies_true, eq_self, q0, q1, q2, q3, q6, q8, q23, hh_192, hh_193, hh_194, hh_195, hh_196, hh_197, hh_198, hh_199, Int.add_zero, ii_p2, ii_p3, ii_p4, ii_p5, h5, m0]
      exact g
    · have e3 : H.take 3 = H := List.take_of_length_le (by omega)
      rw [ek, e3] at hq
      have tail := sp_records_c (h := h) (hb := h) (Q := Q) (z := none) (n := H.length) (H := H) hF hR hz (by omega) rfl rfl rfl m0 m2
        (fun h' k0 k1 k2 k3 => hq h' ⟨k0, fun k i1 i2 i3 i4 i5 => k1 k i4 i1, fun j j1 j2 => k2 j j1⟩
          ⟨hF.of k0, by rw [k1 193 (by omega) (by omega)]; exact hR, k3, by rw [k2 5 (by omega)]; exact h5⟩ (k1 193 (by omega) (by omega)))
      refine ab_go [18, 57] 12 bo_Model_records ?_
      simp -implicitDefEqProofs (disch := omega) only [ii_b, ↓ev_rn, ↓ev_aload_0, ↓ev_aload_0N, ↓ev_dup_i, ↓ev_dup_r, ↓ev_getfield_0, ↓ev_getfield_1, ↓ev_getfield_2, ↓ev_goto, ↓ev_iadd, ↓ev_iaload, ↓ev_iastore, ↓ev_icmp_ge, ↓ev_icmp_ne, ↓ev_iconst, ↓ev_if_eq, ↓ev_iinc_1, ↓ev_iload_1, ↓ev_imul, ↓ev_istore_1, ↓ev_isub, ↓ev_nop, ↓ev_putfield_0, ↓ev_return_, ↓ev_sipush, bq_Model_records_0, bk_Model_records_0, bq_Model_records_8, bk_Model_records_8, bq_Model_records_18, bk_Model_records_18, bq_Model_records_47, bk_Model_records_47, bq_Model_records_57, bk_Model_records_57, bq_Model_records_59, bk_Model_records_59, bq_Model_records_93, bk_Model_records_93, ↓reduceIte, false_and, and_false, List.not_mem_nil, List.mem_cons, or_false, or_true, true_or, false_or, Nat.reduceEqDiff, ab_ac, ab_ar, Nat.reduceSub, Nat.reduceLeDiff, Nat.reduceAdd, Nat.reduceLT, Int.cast_ofNat_Int, Int.ofNat_toNat, Int.toNat_natCast, ii_0, ii_1, ii_add, ii_sub, ii_mul, ii_neg, ii_lt, ii_le, ii_eq, ii_cl, ii_in, dc_lt_t, dc_lt_f, dc_le_t, dc_le_f, dc_eq_t, dc_eq_f, dn_lt_t, dn_le_t, dn_eq_t, dn_eq_f, hi_1, hi_2, and_self, Option.isSome_none, Option.isSome_some, Bool.false_eq_true, ii_s, ii_m, ii_mn, ii_2, st1_, st1_i, st1_r, st1_ii, st1_ir, st1_ri, st1_rr, st1_iii, st1_iir, st1_iri, st1_irr, st1_rii, st1_rir, st1_rri, st1_rrr, st1_iiii, st1_iiir, st1_iiri, st1_iirr, st1_irii, st1_irir, st1_irri, st1_irrr, st1_riii, st1_riir, st1_riri, st1_rirr, st1_rrii, st1_rrir, st1_rrri, st1_rrrr, st1_iiiii, st1_iiiir, st1_iiiri, st1_iiirr, st1_iirii, st1_iirir, st1_iirri, st1_iirrr, st1_iriii, st1_iriir, st1_iriri, st1_irirr, st1_irrii, st1_irrir, st1_irrri, st1_irrrr, st1_riiii, st1_riiir, st1_riiri, st1_riirr, st1_ririi, st1_ririr, st1_rirri, st1_rirrr, st1_rriii, st1_rriir, st1_rriri, st1_rrirr, st1_rrrii, st1_rrrir, st1_rrrri, st1_rrrrr, Option.toList_some, Option.toList_none, List.cons_append, List.nil_append, true_and, and_true, true_implies, false_implies, not_true_eq_false, not_false_eq_true, implies_true, eq_self, q0, q1, q2, q3, q6, q8, q23, hh_192, hh_193, hh_194, hh_195, hh_196, hh_197, hh_198, hh_199, Int.add_zero, ii_p2, ii_p3, ii_p4, ii_p5, h5, m0]
      exact tail
set_option maxRecDepth 100000 in
set_option maxHeartbeats 4000000 in
theorem sp_Model_undo {s : St} {H : List St} {h : ab_H} {Q : Option Value → ab_H → Prop} (hW : sp_MW h false s H)
    (hn : H = [] → Q (some (.int e_np)) h)
    (hy : ∀ s0 H0, H = s0 :: H0 → ∀ h', sp_md h h' → sp_MW h' false s0 H0 → Q (some (.int (Int32.ofInt H0.length))) h') : ab_C 0 yn_Model_undo 200 [.ref 192] h Q := by
  refine ab_of ⟨Nat.le_of_ble_eq_true rfl, Nat.le_of_ble_eq_true rfl⟩ (by simp [Value.category]) (Nat.le_of_ble_eq_true rfl) ?_
  show ab_W 0 yn_Model_undo 0 200 0 0 [some (.ref 192), none] [] h Q
  obtain ⟨hF, hR, hM, h5⟩ := id hW
  obtain ⟨q0, q1, q2, q3, q6, q8, q23⟩ := sp_M hF
  obtain ⟨m0, m1, m2⟩ := id hM
  cases H with
  | nil =>
    rw [List.length_nil] at m0
    refine ab_go [22] 12 bo_Model_undo ?_
    simp -implicitDefEqProofs (disch := omega) only [ii_b, ↓ev_rn, ↓ev_aload_0, ↓ev_aload_0N, ↓ev_dup_i, ↓ev_dup_r, ↓ev_getfield_0, ↓ev_getfield_1, ↓ev_goto, ↓ev_iadd, ↓ev_iaload, ↓ev_iastore, ↓ev_icmp_ge, ↓ev_iconst, ↓ev_if_ne, ↓ev_iinc_1, ↓ev_iload_1, ↓ev_imul, ↓ev_ireturn_0, ↓ev_istore_1, ↓ev_isub, ↓ev_ldc, ↓ev_nop, ↓ev_putfield_0, ↓ev_sipush, bq_Model_undo_0, bk_Model_undo_0, bq_Model_undo_10, bk_Model_undo_10, bq_Model_undo_22, bk_Model_undo_22, bq_Model_undo_56, bk_Model_undo_56, ↓reduceIte, false_and, and_false, List.not_mem_nil, List.mem_cons, or_false, or_true, true_or, false_or, Nat.reduceEqDiff, ab_ac, ab_ar, Nat.reduceSub, Nat.reduceLeDiff, Nat.reduceAdd, Nat.reduceLT, Int.cast_ofNat_Int, Int.ofNat_toNat, Int.toNat_natCast, ii_0, ii_1, ii_add, ii_sub, ii_mul, ii_neg, ii_lt, ii_le, ii_eq, ii_cl, ii_in, dc_lt_t, dc_lt_f, dc_le_t, dc_le_f, dc_eq_t, dc_eq_f, dn_lt_t, dn_le_t, dn_eq_t, dn_eq_f, hi_1, hi_2, and_self, Option.isSome_none, Option.isSome_some, Bool.false_eq_true, ii_s, ii_m, ii_mn, ii_2, st1_, st1_i, st1_r, st1_ii, st1_ir, st1_ri, st1_rr, st1_iii, st1_iir, st1_iri, st1_irr, st1_rii, st1_rir, st1_rri, st1_rrr, st1_iiii, st1_iiir, st1_iiri, st1_iirr, st1_irii, st1_irir, st1_irri, st1_irrr, st1_riii, st1_riir, st1_riri, st1_rirr, st1_rrii, st1_rrir, st1_rrri, st1_rrrr, st1_iiiii, st1_iiiir, st1_iiiri, st1_iiirr, st1_iirii, st1_iirir, st1_iirri, st1_iirrr, st1_iriii, st1_iriir, st1_iriri, st1_irirr, st1_irrii, st1_irrir, st1_irrri, st1_irrrr, st1_riiii, st1_riiir, st1_riiri, st1_riirr, st1_ririi, st1_ririr, st1_rirri, st1_rirrr, st1_rriii, st1_rriir, st1_rriri, st1_rrirr, st1_rrrii, st1_rrrir, st1_rrrri, st1_rrrrr, Option.toList_some, Option.toList_none, List.cons_append, List.nil_append, true_and, and_true, true_implies, false_implies, not_true_eq_false, not_false_eq_true, implies_true, eq_self, q0, q1, q2, q3, q6, q8, q23, hh_192, hh_193, hh_194, hh_195, hh_196, hh_197, hh_198, hh_199, Int.add_zero, ii_p2, ii_p3, ii_p4, ii_p5, m0]
    exact hn rfl
  | cons s0 H0 =>
    rw [List.length_cons] at m0 m1
    obtain ⟨g1, g2⟩ := m2 0 s0 rfl
    have loop : ∀ (k i : Nat) (h1 : ab_H), i + k = 235 → h1.2 = h.2 → (∀ k, k ≠ 193 → k ≠ 192 → h1.1 k = h.1 k) → (∀ j, j ≠ 4 → h1.1 192 j = h.1 192 j) → h1.1 192 4 = Int32.ofInt H0.length → (∀ j, j < i → h1.1 193 j = h.1 196 (235 * H0.length + j)) → ab_W 0 yn_Model_undo 22 200 0 0 (rc_ls (some (.int (Int32.ofInt i)))) [] h1 Q := by
      intro k
      induction k with
      | zero =>
        intro i h1 hi f0 f1 f2 f3 f4
        obtain rfl : i = 235 := by omega
        obtain ⟨q0, q1, q2, q3, q6, q8, q23⟩ := sp_M (hF.of f0)
        refine ab_go [22] 12 bo_Model_undo ?_
        simp -implicitDefEqProofs (disch := omega) only [ii_b, ↓ev_rn, ↓ev_aload_0, ↓ev_aload_0N, ↓ev_dup_i, ↓ev_dup_r, ↓ev_getfield_0, ↓ev_getfield_1, ↓ev_goto, ↓ev_iadd, ↓ev_iaload, ↓ev_iastore, ↓ev_icmp_ge, ↓ev_iconst, ↓ev_if_ne, ↓ev_iinc_1, ↓ev_iload_1, ↓ev_imul, ↓ev_ireturn_0, ↓ev_istore_1, ↓ev_isub, ↓ev_ldc, ↓ev_nop, ↓ev_putfield_0, ↓ev_sipush, bq_Model_undo_0, bk_Model_undo_0, bq_Model_undo_10, bk_Model_undo_10, bq_Model_undo_22, bk_Model_undo_22, bq_Model_undo_56, bk_Model_undo_56, ↓reduceIte, false_and, and_false, List.not_mem_nil, List.mem_cons, or_false, or_true, true_or, false_or, Nat.reduceEqDiff, ab_ac, ab_ar, Nat.reduceSub, Nat.reduceLeDiff, Nat.reduceAdd, Nat.reduceLT, Int.cast_ofNat_Int, Int.ofNat_toNat, Int.toNat_natCast, ii_0, ii_1, ii_add, ii_sub, ii_mul, ii_neg, ii_lt, ii_le, ii_eq, ii_cl, ii_in, dc_lt_t, dc_lt_f, dc_le_t, dc_le_f, dc_eq_t, dc_eq_f, dn_lt_t, dn_le_t, dn_eq_t, dn_eq_f, hi_1, hi_2, and_self, Option.isSome_none, Option.isSome_some, Bool.false_eq_true, ii_s, ii_m, ii_mn, ii_2, st1_, st1_i, st1_r, st1_ii, st1_ir, st1_ri, st1_rr, st1_iii, st1_iir, st1_iri, st1_irr, st1_rii, st1_rir, st1_rri, st1_rrr, st1_iiii, st1_iiir, st1_iiri, st1_iirr, st1_irii, st1_irir, st1_irri, st1_irrr, st1_riii, st1_riir, st1_riri, st1_rirr, st1_rrii, st1_rrir, st1_rrri, st1_rrrr, st1_iiiii, st1_iiiir, st1_iiiri, st1_iiirr, st1_iirii, st1_iirir, st1_iirri, st1_iirrr, st1_iriii, st1_iriir, st1_iriri, st1_irirr, st1_irrii, st1_irrir, st1_irrri, st1_irrrr, st1_riiii, st1_riiir, st1_riiri, st1_riirr, st1_ririi, st1_ririr, st1_rirri, st1_rirrr, st1_rriii, st1_rriir, st1_rriri, st1_rrirr, st1_rrrii, st1_rrrir, st1_rrrri, st1_rrrrr, Option.toList_some, Option.toList_none, List.cons_append, List.nil_append, true_and, and_true, true_implies, false_implies, not_true_eq_false, not_false_eq_true, implies_true, eq_self, q0, q1, q2, q3, q6, q8, q23, hh_192, hh_193, hh_194, hh_195, hh_196, hh_197, hh_198, hh_199, Int.add_zero, ii_p2, ii_p3, ii_p4, ii_p5, f3]
        refine hy s0 H0 rfl h1 ⟨f0, fun k i1 i2 i3 i4 i5 => f1 k i2 i1, fun j j1 j2 => f2 j j1⟩ ⟨hF.of f0, g2.cg g1 (fun k hk => ?_), ⟨f3, by omega, fun i s' hs => ?_⟩, by rw [f2 5 (by omega)]; exact h5⟩
        · rw [f4 k hk]; rfl
        · have hs2 : (s0 :: H0)[i + 1]? = some s' := by rw [List.getElem?_cons_succ]; exact hs
          have hi : i < H0.length := by
            rcases Nat.lt_or_ge i H0.length with g | g
            · exact g
            · rw [List.getElem?_eq_none g] at hs; cases hs
          have g := m2 (i + 1) s' hs2
          rw [List.length_cons, show H0.length + 1 - 1 - (i + 1) = H0.length - 1 - i by omega] at g
          rw [f1 196 (by omega) (by omega)]
          exact g
      | succ k ih =>
        intro i h1 hi f0 f1 f2 f3 f4
        obtain ⟨q0, q1, q2, q3, q6, q8, q23⟩ := sp_M (hF.of f0)
        have ej : (235 : Int) * (H0.length : Int) + (i : Int) = ((235 * H0.length + i : Nat) : Int) := rfl
        refine ab_go [22] 12 bo_Model_undo ?_
        simp -implicitDefEqProofs (disch := omega) only [ii_b, ↓ev_rn, ↓ev_aload_0, ↓ev_aload_0N, ↓ev_dup_i, ↓ev_dup_r, ↓ev_getfield_0, ↓ev_getfield_1, ↓ev_goto, ↓ev_iadd, ↓ev_iaload, ↓ev_iastore, ↓ev_icmp_ge, ↓ev_iconst, ↓ev_if_ne, ↓ev_iinc_1, ↓ev_iload_1, ↓ev_imul, ↓ev_ireturn_0, ↓ev_istore_1, ↓ev_isub, ↓ev_ldc, ↓ev_nop, ↓ev_putfield_0, ↓ev_sipush, bq_Model_undo_0, bk_Model_undo_0, bq_Model_undo_10, bk_Model_undo_10, bq_Model_undo_22, bk_Model_undo_22, bq_Model_undo_56, bk_Model_undo_56, ↓reduceIte, false_and, and_false, List.not_mem_nil, List.mem_cons, or_false, or_true, true_or, false_or, Nat.reduceEqDiff, ab_ac, ab_ar, Nat.reduceSub, Nat.reduceLeDiff, Nat.reduceAdd, Nat.reduceLT, Int.cast_ofNat_Int, Int.ofNat_toNat, Int.toNat_natCast, ii_0, ii_1, ii_add, ii_sub, ii_mul, ii_neg, ii_lt, ii_le, ii_eq, ii_cl, ii_in, dc_lt_t, dc_lt_f, dc_le_t, dc_le_f, dc_eq_t, dc_eq_f, dn_lt_t, dn_le_t, dn_eq_t, dn_eq_f, hi_1, hi_2, and_self, Option.isSome_none, Option.isSome_some, Bool.false_eq_true, ii_s, ii_m, ii_mn, ii_2, st1_, st1_i, st1_r, st1_ii, st1_ir, st1_ri, st1_rr, st1_iii, st1_iir, st1_iri, st1_irr, st1_rii, st1_rir, st1_rri, st1_rrr, st1_iiii, st1_iiir, st1_iiri, st1_iirr, st1_irii, st1_irir, st1_irri, st1_irrr, st1_riii, st1_riir, st1_riri, st1_rirr, st1_rrii, st1_rrir, st1_rrri, st1_rrrr, st1_iiiii, st1_iiiir, st1_iiiri, st1_iiirr, st1_iirii, st1_iirir, st1_iirri, st1_iirrr, st1_iriii, st1_iriir, st1_iriri, st1_irirr, st1_irrii, st1_irrir, st1_irrri, st1_irrrr, st1_riiii, st1_riiir, st1_riiri, st1_riirr, st1_ririi, st1_ririr, st1_rirri, st1_rirrr, st1_rriii, st1_rriir, st1_rriri, st1_rrirr, st1_rrrii, st1_rrrir, st1_rrrri, st1_rrrrr, Option.toList_some, Option.toList_none, List.cons_append, List.nil_append, true_and, and_true, true_implies, false_implies, not_true_eq_false, not_false_eq_true, implies_true, eq_self, q0, q1, q2, q3, q6, q8, q23, hh_192, hh_193, hh_194, hh_195, hh_196, hh_197, hh_198, hh_199, Int.add_zero, ii_p2, ii_p3, ii_p4, ii_p5, f3, ej]
        refine ih (i + 1) _ (by omega) f0 (fun k k1 k2 => by rw [hi_o k1]; exact f1 k k1 k2) (fun j j4 => by rw [hi_o (by omega)]; exact f2 j j4) (by rw [hi_o (by omega)]; exact f3) (fun j hj => ?_)
        rw [hi_1]
        by_cases c : j = i
        · rw [if_pos ⟨rfl, c⟩, f1 196 (by omega) (by omega), c]
        · rw [if_neg (fun q => c q.2)]
          exact f4 j (by omega)
    have g := loop 235 0 (ab_hi h 192 4 (Int32.ofInt H0.length)) (by omega) rfl (fun k k1 k2 => hi_o k2) (fun j j4 => by rw [hi_1, if_neg (fun q => j4 q.2)]) (by rw [hi_1, if_pos ⟨rfl, rfl⟩]) (fun j hj => absurd hj (Nat.not_lt_zero j))
    refine ab_go [22] 12 bo_Model_undo ?_
    simp -implicitDefEqProofs (disch := omega) only [ii_b, ↓ev_rn, ↓ev_aload_0, ↓ev_aload_0N, ↓ev_dup_i, ↓ev_dup_r, ↓ev_getfield_0, ↓ev_getfield_1, ↓ev_goto, ↓ev_iadd, ↓ev_iaload, ↓ev_iastore, ↓ev_icmp_ge, ↓ev_iconst, ↓ev_if_ne, ↓ev_iinc_1, ↓ev_iload_1, ↓ev_imul, ↓ev_ireturn_0, ↓ev_istore_1, ↓ev_isub, ↓ev_ldc, ↓ev_nop, ↓ev_putfield_0, ↓ev_sipush, bq_Model_undo_0, bk_Model_undo_0, bq_Model_undo_10, bk_Model_undo_10, bq_Model_undo_22, bk_Model_undo_22, bq_Model_undo_56, bk_Model_undo_56, ↓reduceIte, false_and, and_false, List.not_mem_nil, List.mem_cons, or_false, or_true, true_or, false_or, Nat.reduceEqDiff, ab_ac, ab_ar, Nat.reduceSub, Nat.reduceLeDiff, Nat.reduceAdd, Nat.reduceLT, Int.cast_ofNat_Int, Int.ofNat_toNat, Int.toNat_natCast, ii_0, ii_1, ii_add, ii_sub, ii_mul, ii_neg, ii_lt, ii_le, ii_eq, ii_cl, ii_in, dc_lt_t, dc_lt_f, dc_le_t, dc_le_f, dc_eq_t, dc_eq_f, dn_lt_t, dn_le_t, dn_eq_t, dn_eq_f, hi_1, hi_2, and_self, Option.isSome_none, Option.isSome_some, Bool.false_eq_true, ii_s, ii_m, ii_mn, ii_2, st1_, st1_i, st1_r, st1_ii, st1_ir, st1_ri, st1_rr, st1_iii, st1_iir, st1_iri, st1_irr, st1_rii, st1_rir, st1_rri, st1_rrr, st1_iiii, st1_iiir, st1_iiri, st1_iirr, st1_irii, st1_irir, st1_irri, st1_irrr, st1_riii, st1_riir, st1_riri, st1_rirr, st1_rrii, st1_rrir, st1_rrri, st1_rrrr, st1_iiiii, st1_iiiir, st1_iiiri, st1_iiirr, st1_iirii, st1_iirir, st1_iirri, st1_iirrr, st1_iriii, st1_iriir, st1_iriri, st1_irirr, st1_irrii, st1_irrir, st1_irrri, st1_irrrr, st1_riiii, st1_riiir, st1_riiri, st1_riirr, st1_ririi, st1_ririr, st1_rirri, st1_rirrr, st1_rriii, st1_rriir, st1_rriri, st1_rrirr, st1_rrrii, st1_rrrir, st1_rrrri, st1_rrrrr, Option.toList_some, Option.toList_none, List.cons_append, List.nil_append, true_and, and_true, true_implies, false_implies, not_true_eq_false, not_false_eq_true, implies_true, eq_self, q0, q1, q2, q3, q6, q8, q23, hh_192, hh_193, hh_194, hh_195, hh_196, hh_197, hh_198, hh_199, Int.add_zero, ii_p2, ii_p3, ii_p4, ii_p5, m0]
    exact g
