/-! ===== mean, on both sides ===== -/
theorem w_val_1 {N : Nm} {c t : Int32} {i : Nat} {o : Bool} (hN : nm_ok N) (hi : i < N.length) (h16 : N.length ≤ 16) : ∃ z : Int, 5 ≤ z ∧ z ≤ 1500 ∧ w_val N c (Int32.ofInt i) t o = Int32.ofInt z := by
  obtain ⟨⟨f, f1, f2, ef⟩, -⟩ := hN i hi
  unfold w_val
  rw [ii_cl (by omega) (by omega), Int.toNat_natCast, ef]
  have hv : ∃ v : Int, 10 ≤ v ∧ v ≤ 750 ∧ (if o then Int32.ofInt 15 else Int32.ofInt 10) * Int32.ofInt f = Int32.ofInt v := by
    cases o
    · exact ⟨10 * f, by omega, by omega, ii_mul _ _⟩
    · exact ⟨15 * f, by omega, by omega, ii_mul _ _⟩
  obtain ⟨v, v1, v2, ev⟩ := hv
  simp only [ev]
  split
  · exact ⟨v, by omega, by omega, rfl⟩
  · split
    · exact ⟨v * 2, by omega, by omega, ii_mul _ _⟩
    · exact ⟨v / 2, by omega, by omega, ii_div2 (by omega) (by omega)⟩
theorem w_vb_1 {N : Nm} {c a t : Int32} {i : Nat} {o : Bool} (hN : nm_ok N) (hi : i < N.length) (h16 : N.length ≤ 16) : ∃ z : Int, 1 ≤ z ∧ z ≤ 1500 ∧ w_vb N c a (Int32.ofInt i) t o = Int32.ofInt z := by
  obtain ⟨z, z1, z2, e⟩ := w_val_1 (c := c) (t := t) (o := o) hN hi h16
  unfold w_vb
  split
  · exact ⟨z, by omega, z2, e⟩
  · rw [e]; exact ⟨z / 2, by omega, by omega, ii_div2 (by omega) (by omega)⟩
theorem w_vs_1 {N : Nm} {c : Int32} {L : Bk} (hN : nm_ok N) (hw : bk_ok N.length L) : ∀ q, q ≤ 2 * L.length → ∃ z : Nat, pg_c (fun _ _ _ => true) L q ≤ z ∧ z ≤ 1500 * q ∧ w_vs N c L q = Int32.ofInt z
  | 0, _ => ⟨0, Nat.le_refl _, by omega, rfl⟩
  | q + 1, hq => by
    obtain ⟨z, z1, z2, e⟩ := w_vs_1 (c := c) hN hw q (by omega)
    rw [w_vs, pg_c]
    rcases pg_cases hw (show q < 2 * L.length by omega) with ⟨nm, t, o, he, -, -, -, ⟨i, hi, rfl⟩, -⟩ | ⟨he, -⟩
    · rw [he]
      obtain ⟨y, y1, y2, ey⟩ := w_vb_1 (c := c) (a := w_ns L q) (t := t) (o := o) hN hi hw.1
      refine ⟨z + y.toNat, ?_, by omega, ?_⟩
      · show (if true = true then pg_c (fun _ _ _ => true) L q + 1 else pg_c (fun _ _ _ => true) L q) ≤ _
        rw [if_pos rfl]; omega
      · show w_vs N c L q + w_vb N c (w_ns L q) (Int32.ofInt i) t o = _
        rw [e, ey, ii_add]
        congr 1
        omega
    · rw [he]; exact ⟨z, z1, by omega, e⟩
def me_n (L : Bk) : Nat := pg_c (fun _ _ _ => true) L (2 * L.length)
def qa_mean (s : St) (c : Int) : Int32 :=
  if 0 ≤ c ∧ c ≤ 3 then
    (if me_n (s.2.1 c.toNat) = 0 then e_nf else (FP.fdiv (FP.i2f (w_vs s.1 (Int32.ofInt c) (s.2.1 c.toNat) (2 * (s.2.1 c.toNat).length))) (FP.i2f (Int32.ofInt (me_n (s.2.1 c.toNat))))).toInt32)
  else e_inv
/-- the mean of a book is a float of full digits -/
theorem me_fl {m : Int} {s : St} {c : Nat} (hi : st_inv m s) (hc : c < 4) (h0 : me_n (s.2.1 c) ≠ 0) : ∃ a G, FP.fdiv (FP.i2f (w_vs s.1 (Int32.ofInt c) (s.2.1 c) (2 * (s.2.1 c).length))) (FP.i2f (Int32.ofInt (me_n (s.2.1 c)))) = fl a G ∧ fl_ok a G ∧ 127 ≤ G ∧ G ≤ 148 := by
  obtain ⟨h8, hw⟩ := hi.1.2.1 c hc
  obtain ⟨z, z1, z2, e⟩ := w_vs_1 (c := Int32.ofInt c) hi.2.1 hw (2 * (s.2.1 c).length) (Nat.le_refl _)
  rw [e]
  exact fl_quot (by unfold me_n at h0 ⊢; omega) z1 (by omega)
set_option maxRecDepth 100000 in
set_option maxHeartbeats 4000000 in
theorem sp_Fair_bitsOf {a G : Nat} {h : ab_H} {Q : Option Value → ab_H → Prop} (ok : fl_ok a G) (g1 : 127 ≤ G) (g2 : G ≤ 148)
    (hq : Q (some (.int (fl a G).toInt32)) h) : ab_C 0 yn_Fair_bitsOf 192 [.float (fl a G)] h Q := by
  refine ab_of ⟨Nat.le_of_ble_eq_true rfl, Nat.le_of_ble_eq_true rfl⟩ (by simp [Value.category]) (Nat.le_of_ble_eq_true rfl) ?_
  show ab_W 0 yn_Fair_bitsOf 0 192 0 0 [some (.float (fl a G)), none, none, none] [] h Q
  obtain ⟨k1, k2, k3, k4⟩ := id ok
  have okk : ∀ i, G + i ≤ 150 → fl_ok a (G + i) := fun i hi => ⟨k1, k2, by omega, by omega⟩
  rw [fl_bits ok] at hq
  have loop : ∀ (k i : Nat), i + k = 150 - G → ab_W 0 yn_Fair_bitsOf 8 192 0 0 [some (.float (fl a G)), some (.float (fl a (G + i))), some (.int (Int32.ofInt (150 - (i : Int)))), some (.int (Int32.ofInt i))] [] h Q := by
    intro k
    induction k with
    | zero =>
      intro i hi
      have e150 : G + i = 150 := by omega
      have eE : (150 : Int) - (i : Int) = ((G : Nat) : Int) := by omega
      have ok5 := okk i (by omega)
      have c1 := fl_cmp ok5 (by omega)
      have f1 := fl_f2i (m := a) (by rw [← e150]; exact ok5)
      have s1 := sh_23 G (by omega)
      rw [e150] at ok5 c1 ⊢
      rw [if_neg (by omega)] at c1
      rw [eE]
      have cl : ∀ t, t = Int32.ofInt ((G : Int) * 8388608 + ((a : Int) - 8388608)) → Q (some (.int t)) h := fun t ht => by rw [ht]; exact hq
      have fin : Q (some (.int (Int32.ofInt ((G : Nat) : Int) <<< (Int32.ofInt 23 &&& 31) + (FP.f2i (fl a 150) - Int32.ofInt 8388608)))) h := cl _ (by rw [s1, f1, ii_sub, ii_add]; rfl)
      refine ab_go [8] 12 bo_Fair_bitsOf ?_
      by_cases c23 : i < 23
      · by_cases ca : a = 8388608
        · rw [if_pos ca] at c1
          have c2 : cmpValue (FP.fcmp (fl a 150) (UInt32.ofNat (Int.toNat 1258291200))) CmpOp.g = Int32.ofInt 0 := by
            show cmpValue (FP.fcmp (fl a 150) 1258291200) CmpOp.g = _
            rw [c1]; rfl
          simp -implicitDefEqProofs (disch := omega) only [↓ev_rn, ↓ev_bipush, ↓ev_f2i, ↓ev_fcmp, ↓ev_fconst, ↓ev_fload_0, ↓ev_fload_1, ↓ev_fmul, ↓ev_fstore_1, ↓ev_goto, ↓ev_iadd, ↓ev_icmp_ge, ↓ev_iconst, ↓ev_if_ge, ↓ev_iinc_2, ↓ev_iinc_3, ↓ev_iload_2, ↓ev_iload_3, ↓ev_ireturn_0, ↓ev_ishl, ↓ev_istore_2, ↓ev_istore_3, ↓ev_isub, ↓ev_ldc_w, ↓ev_ldc_w_f, ↓ev_nop, ↓ev_sipush, bq_Fair_bitsOf_0, bk_Fair_bitsOf_0, bq_Fair_bitsOf_8, bk_Fair_bitsOf_8, bq_Fair_bitsOf_35, bk_Fair_bitsOf_35, ↓reduceIte, false_and, and_false, List.not_mem_nil, List.mem_cons, or_false, or_true, true_or, false_or, Nat.reduceEqDiff, ab_ac, ab_ar, Nat.reduceSub, Nat.reduceLeDiff, Nat.reduceAdd, Nat.reduceLT, Int.cast_ofNat_Int, Int.ofNat_toNat, Int.toNat_natCast, ii_0, ii_1, ii_add, ii_sub, ii_mul, ii_neg, ii_lt, ii_le, ii_eq, ii_cl, ii_in, dc_lt_t, dc_lt_f, dc_le_t, dc_le_f, dc_eq_t, dc_eq_f, dn_lt_t, dn_le_t, dn_eq_t, dn_eq_f, hi_1, hi_2, and_self, Option.isSome_none, Option.isSome_some, Bool.false_eq_true, ii_s, ii_m, ii_mn, ii_2, st1_, st1_i, st1_r, st1_ii, st1_ir, st1_ri, st1_rr, st1_iii, st1_iir, st1_iri, st1_irr, st1_rii, st1_rir, st1_rri, st1_rrr, st1_iiii, st1_iiir, st1_iiri, st1_iirr, st1_irii, st1_irir, st1_irri, st1_irrr, st1_riii, st1_riir, st1_riri, st1_rirr, st1_rrii, st1_rrir, st1_rrri, st1_rrrr, st1_iiiii, st1_iiiir, st1_iiiri, st1_iiirr, st1_iirii, st1_iirir, st1_iirri, st1_iirrr, st1_iriii, st1_iriir, st1_iriri, st1_irirr, st1_irrii, st1_irrir, st1_irrri, st1_irrrr, st1_riiii, st1_riiir, st1_riiri, st1_riirr, st1_ririi, st1_ririr, st1_rirri, st1_rirrr, st1_rriii, st1_rriir, st1_rriri, st1_rrirr, st1_rrrii, st1_rrrir, st1_rrrri, st1_rrrrr, Option.toList_some, Option.toList_none, List.cons_append, List.nil_append, true_and, and_true, true_implies, false_implies, not_true_eq_false, not_false_eq_true, implies_true, eq_self, c2]
          exact fin
        · rw [if_neg ca] at c1
          have c2 : cmpValue (FP.fcmp (fl a 150) (UInt32.ofNat (Int.toNat 1258291200))) CmpOp.g = Int32.ofInt 1 := by
            show cmpValue (FP.fcmp (fl a 150) 1258291200) CmpOp.g = _
            rw [c1]; rfl
          simp -implicitDefEqProofs (disch := omega) only [↓ev_rn, ↓ev_bipush, ↓ev_f2i, ↓ev_fcmp, ↓ev_fconst, ↓ev_fload_0, ↓ev_fload_1, ↓ev_fmul, ↓ev_fstore_1, ↓ev_goto, ↓ev_iadd, ↓ev_icmp_ge, ↓ev_iconst, ↓ev_if_ge, ↓ev_iinc_2, ↓ev_iinc_3, ↓ev_iload_2, ↓ev_iload_3, ↓ev_ireturn_0, ↓ev_ishl, ↓ev_istore_2, ↓ev_istore_3, ↓ev_isub, ↓ev_ldc_w, ↓ev_ldc_w_f, ↓ev_nop, ↓ev_sipush, bq_Fair_bitsOf_0, bk_Fair_bitsOf_0, bq_Fair_bitsOf_8, bk_Fair_bitsOf_8, bq_Fair_bitsOf_35, bk_Fair_bitsOf_35, ↓reduceIte, false_and, and_false, List.not_mem_nil, List.mem_cons, or_false, or_true, true_or, false_or, Nat.reduceEqDiff, ab_ac, ab_ar, Nat.reduceSub, Nat.reduceLeDiff, Nat.reduceAdd, Nat.reduceLT, Int.cast_ofNat_Int, Int.ofNat_toNat, Int.toNat_natCast, ii_0, ii_1, ii_add, ii_sub, ii_mul, ii_neg, ii_lt, ii_le, ii_eq, ii_cl, ii_in, dc_lt_t, dc_lt_f, dc_le_t, dc_le_f, dc_eq_t, dc_eq_f, dn_lt_t, dn_le_t, dn_eq_t, dn_eq_f, hi_1, hi_2, and_self, Option.isSome_none, Option.isSome_some, Bool.false_eq_true, ii_s, ii_m, ii_mn, ii_2, st1_, st1_i, st1_r, st1_ii, st1_ir, st1_ri, st1_rr, st1_iii, st1_iir, st1_iri, st1_irr, st1_rii, st1_rir, st1_rri, st1_rrr, st1_iiii, st1_iiir, st1_iiri, st1_iirr, st1_irii, st1_irir, st1_irri, st1_irrr, st1_riii, st1_riir, st1_riri, st1_rirr, st1_rrii, st1_rrir, st1_rrri, st1_rrrr, st1_iiiii, st1_iiiir, st1_iiiri, st1_iiirr, st1_iirii, st1_iirir, st1_iirri, st1_iirrr, st1_iriii, st1_iriir, st1_iriri, st1_irirr, st1_irrii, st1_irrir, st1_irrri, st1_irrrr, st1_riiii, st1_riiir, st1_riiri, st1_riirr, st1_ririi, st1_ririr, st1_rirri, st1_rirrr, st1_rriii, st1_rriir, st1_rriri, st1_rrirr, st1_rrrii, st1_rrrir, st1_rrrri, st1_rrrrr, Option.toList_some, Option.toList_none, List.cons_append, List.nil_append, true_and, and_true, true_implies, false_implies, not_true_eq_false, not_false_eq_true, implies_true, eq_self, c2]
          exact fin
      · simp -implicitDefEqProofs (disch := omega) only [↓ev_rn, ↓ev_bipush, ↓ev_f2i, ↓ev_fcmp, ↓ev_fconst, ↓ev_fload_0, ↓ev_fload_1, ↓ev_fmul, ↓ev_fstore_1, ↓ev_goto, ↓ev_iadd, ↓ev_icmp_ge, ↓ev_iconst, ↓ev_if_ge, ↓ev_iinc_2, ↓ev_iinc_3, ↓ev_iload_2, ↓ev_iload_3, ↓ev_ireturn_0, ↓ev_ishl, ↓ev_istore_2, ↓ev_istore_3, ↓ev_isub, ↓ev_ldc_w, ↓ev_ldc_w_f, ↓ev_nop, ↓ev_sipush, bq_Fair_bitsOf_0, bk_Fair_bitsOf_0, bq_Fair_bitsOf_8, bk_Fair_bitsOf_8, bq_Fair_bitsOf_35, bk_Fair_bitsOf_35, ↓reduceIte, false_and, and_false, List.not_mem_nil, List.mem_cons, or_false, or_true, true_or, false_or, Nat.reduceEqDiff, ab_ac, ab_ar, Nat.reduceSub, Nat.reduceLeDiff, Nat.reduceAdd, Nat.reduceLT, Int.cast_ofNat_Int, Int.ofNat_toNat, Int.toNat_natCast, ii_0, ii_1, ii_add, ii_sub, ii_mul, ii_neg, ii_lt, ii_le, ii_eq, ii_cl, ii_in, dc_lt_t, dc_lt_f, dc_le_t, dc_le_f, dc_eq_t, dc_eq_f, dn_lt_t, dn_le_t, dn_eq_t, dn_eq_f, hi_1, hi_2, and_self, Option.isSome_none, Option.isSome_some, Bool.false_eq_true, ii_s, ii_m, ii_mn, ii_2, st1_, st1_i, st1_r, st1_ii, st1_ir, st1_ri, st1_rr, st1_iii, st1_iir, st1_iri, st1_irr, st1_rii, st1_rir, st1_rri, st1_rrr, st1_iiii, st1_iiir, st1_iiri, st1_iirr, st1_irii, st1_irir, st1_irri, st1_irrr, st1_riii, st1_riir, st1_riri, st1_rirr, st1_rrii, st1_rrir, st1_rrri, st1_rrrr, st1_iiiii, st1_iiiir, st1_iiiri, st1_iiirr, st1_iirii, st1_iirir, st1_iirri, st1_iirrr, st1_iriii, st1_iriir, st1_iriri, st1_irirr, st1_irrii, st1_irrir, st1_irrri, st1_irrrr, st1_riiii, st1_riiir, st1_riiri, st1_riirr, st1_ririi, st1_ririr, st1_rirri, st1_rirrr, st1_rriii, st1_rriir, st1_rriri, st1_rrirr, st1_rrrii, st1_rrrir, st1_rrrri, st1_rrrrr, Option.toList_some, Option.toList_none, List.cons_append, List.nil_append, true_and, and_true, true_implies, false_implies, not_true_eq_false, not_false_eq_true, implies_true, eq_self]
        exact fin
    | succ k ih =>
      intro i hi
      have g := ih (i + 1) (by omega)
      have c1 := fl_cmp (okk i (by omega)) (by omega)
      rw [if_pos (by omega)] at c1
      have m1 := fl_mul2 (okk i (by omega)) (by omega)
      have n1 := fl_n32 (okk (i + 1) (by omega))
      rw [← Nat.add_assoc] at g n1
      have eE : (150 : Int) - (i : Int) + -1 = 150 - ((i + 1 : Nat) : Int) := by omega
      have c2 : cmpValue (FP.fcmp (fl a (G + i)) (UInt32.ofNat (Int.toNat 1258291200))) CmpOp.g = Int32.ofInt (-1) := by
        show cmpValue (FP.fcmp (fl a (G + i)) 1258291200) CmpOp.g = _
        rw [c1]; rfl
      refine ab_go [8] 12 bo_Fair_bitsOf ?_
      simp -implicitDefEqProofs (disch := omega) only [↓ev_rn, ↓ev_bipush, ↓ev_f2i, ↓ev_fcmp, ↓ev_fconst, ↓ev_fload_0, ↓ev_fload_1, ↓ev_fmul, ↓ev_fstore_1, ↓ev_goto, ↓ev_iadd, ↓ev_icmp_ge, ↓ev_iconst, ↓ev_if_ge, ↓ev_iinc_2, ↓ev_iinc_3, ↓ev_iload_2, ↓ev_iload_3, ↓ev_ireturn_0, ↓ev_ishl, ↓ev_istore_2, ↓ev_istore_3, ↓ev_isub, ↓ev_ldc_w, ↓ev_ldc_w_f, ↓ev_nop, ↓ev_sipush, bq_Fair_bitsOf_0, bk_Fair_bitsOf_0, bq_Fair_bitsOf_8, bk_Fair_bitsOf_8, bq_Fair_bitsOf_35, bk_Fair_bitsOf_35, ↓reduceIte, false_and, and_false, List.not_mem_nil, List.mem_cons, or_false, or_true, true_or, false_or, Nat.reduceEqDiff, ab_ac, ab_ar, Nat.reduceSub, Nat.reduceLeDiff, Nat.reduceAdd, Nat.reduceLT, Int.cast_ofNat_Int, Int.ofNat_toNat, Int.toNat_natCast, ii_0, ii_1, ii_add, ii_sub, ii_mul, ii_neg, ii_lt, ii_le, ii_eq, ii_cl, ii_in, dc_lt_t, dc_lt_f, dc_le_t, dc_le_f, dc_eq_t, dc_eq_f, dn_lt_t, dn_le_t, dn_eq_t, dn_eq_f, hi_1, hi_2, and_self, Option.isSome_none, Option.isSome_some, Bool.false_eq_true, ii_s, ii_m, ii_mn, ii_2, st1_, st1_i, st1_r, st1_ii, st1_ir, st1_ri, st1_rr, st1_iii, st1_iir, st1_iri, st1_irr, st1_rii, st1_rir, st1_rri, st1_rrr, st1_iiii, st1_iiir, st1_iiri, st1_iirr, st1_irii, st1_irir, st1_irri, st1_irrr, st1_riii, st1_riir, st1_riri, st1_rirr, st1_rrii, st1_rrir, st1_rrri, st1_rrrr, st1_iiiii, st1_iiiir, st1_iiiri, st1_iiirr, st1_iirii, st1_iirir, st1_iirri, st1_iirrr, st1_iriii, st1_iriir, st1_iriri, st1_irirr, st1_irrii, st1_irrir, st1_irrri, st1_irrrr, st1_riiii, st1_riiir, st1_riiri, st1_riirr, st1_ririi, st1_ririr, st1_rirri, st1_rirrr, st1_rriii, st1_rriir, st1_rriri, st1_rrirr, st1_rrrii, st1_rrrir, st1_rrrri, st1_rrrrr, Option.toList_some, Option.toList_none, List.cons_append, List.nil_append, true_and, and_true, true_implies, false_implies, not_true_eq_false, not_false_eq_true, implies_true, eq_self, c2, m1, eE]
      exact ⟨n1, g⟩
  refine ab_go [8] 12 bo_Fair_bitsOf ?_
  have g := loop (150 - G) 0 (by omega)
  simp -implicitDefEqProofs (disch := omega) only [↓ev_rn, ↓ev_bipush, ↓ev_f2i, ↓ev_fcmp, ↓ev_fconst, ↓ev_fload_0, ↓ev_fload_1, ↓ev_fmul, ↓ev_fstore_1, ↓ev_goto, ↓ev_iadd, ↓ev_icmp_ge, ↓ev_iconst, ↓ev_if_ge, ↓ev_iinc_2, ↓ev_iinc_3, ↓ev_iload_2, ↓ev_iload_3, ↓ev_ireturn_0, ↓ev_ishl, ↓ev_istore_2, ↓ev_istore_3, ↓ev_isub, ↓ev_ldc_w, ↓ev_ldc_w_f, ↓ev_nop, ↓ev_sipush, bq_Fair_bitsOf_0, bk_Fair_bitsOf_0, bq_Fair_bitsOf_8, bk_Fair_bitsOf_8, bq_Fair_bitsOf_35, bk_Fair_bitsOf_35, ↓reduceIte, false_and, and_false, List.not_mem_nil, List.mem_cons, or_false, or_true, true_or, false_or, Nat.reduceEqDiff, ab_ac, ab_ar, Nat.reduceSub, Nat.reduceLeDiff, Nat.reduceAdd, Nat.reduceLT, Int.cast_ofNat_Int, Int.ofNat_toNat, Int.toNat_natCast, ii_0, ii_1, ii_add, ii_sub, ii_mul, ii_neg, ii_lt, ii_le, ii_eq, ii_cl, ii_in, dc_lt_t, dc_lt_f, dc_le_t, dc_le_f, dc_eq_t, dc_eq_f, dn_lt_t, dn_le_t, dn_eq_t, dn_eq_f, hi_1, hi_2, and_self, Option.isSome_none, Option.isSome_some, Bool.false_eq_true, ii_s, ii_m, ii_mn, ii_2, st1_, st1_i, st1_r, st1_ii, st1_ir, st1_ri, st1_rr, st1_iii, st1_iir, st1_iri, st1_irr, st1_rii, st1_rir, st1_rri, st1_rrr, st1_iiii, st1_iiir, st1_iiri, st1_iirr, st1_irii, st1_irir, st1_irri, st1_irrr, st1_riii, st1_riir, st1_riri, st1_rirr, st1_rrii, st1_rrir, st1_rrri, st1_rrrr, st1_iiiii, st1_iiiir, st1_iiiri, st1_iiirr, st1_iirii, st1_iirir, st1_iirri, st1_iirrr, st1_iriii, st1_iriir, st1_iriri, st1_irirr, st1_irrii, st1_irrir, st1_irrri, st1_irrrr, st1_riiii, st1_riiir, st1_riiri, st1_riirr, st1_ririi, st1_ririr, st1_rirri, st1_rirrr, st1_rriii, st1_rriir, st1_rriri, st1_rrirr, st1_rrrii, st1_rrrir, st1_rrrri, st1_rrrrr, Option.toList_some, Option.toList_none, List.cons_append, List.nil_append, true_and, and_true, true_implies, false_implies, not_true_eq_false, not_false_eq_true, implies_true, eq_self]
  exact g
set_option maxRecDepth 100000 in
set_option maxHeartbeats 4000000 in
theorem fc_mean {w : Wd} {m : Int} {f : Int} {h : ab_H} {Q : Option Value → ab_H → Prop} (hW : sp_CW h w) (hI : st_inv m w.1) (f1 : -2147483648 ≤ f) (f2 : f < 2147483648)
    (hq : Q (some (.int (qa_mean w.1 f))) h) : ab_C 3 yn_Fair_mean 192 [.ref 0, .int (Int32.ofInt f)] h Q := by
  refine ab_of ⟨Nat.le_of_ble_eq_true rfl, Nat.le_of_ble_eq_true rfl⟩ (by simp [Value.category]) (Nat.le_of_ble_eq_true rfl) ?_
  show ab_W 3 yn_Fair_mean 0 192 0 0 [some (.ref 0), some (.int (Int32.ofInt f)), none, none] [] h Q
  obtain ⟨hF, hS, hH, hO⟩ := id hW
  obtain ⟨a0, a1, a2, a3, a4, a5⟩ := sp_0 hF
  obtain ⟨r0, -, -, -, -, -, -, -, hl, na, -⟩ := sp_S hF in_1
  refine ab_go [] 12 bo_Fair_mean ?_
  unfold qa_mean at hq
  simp -implicitDefEqProofs (disch := omega) only [↓ev_rn, ↓ev_aload_0, ↓ev_aload_0N, ↓ev_aload_2, ↓ev_aload_2N, ↓ev_astore_2, ↓ev_astore_2N, ↓ev_calls_1, ↓ev_callv_1, ↓ev_callv_2, ↓ev_fdiv, ↓ev_getfield_1, ↓ev_i2f, ↓ev_if_gt, ↓ev_if_ne, ↓ev_iload_1, ↓ev_iload_3, ↓ev_ireturn_0, ↓ev_istore_3, ↓ev_ldc, ↓ev_nop, bq_Fair_mean_0, bk_Fair_mean_0, bq_Fair_mean_10, bk_Fair_mean_10, bq_Fair_mean_31, bk_Fair_mean_31, ↓reduceIte, false_and, and_false, List.not_mem_nil, List.mem_cons, or_false, or_true, true_or, false_or, Nat.reduceEqDiff, ab_ac, ab_ar, Nat.reduceSub, Nat.reduceLeDiff, Nat.reduceAdd, Nat.reduceLT, Int.cast_ofNat_Int, Int.ofNat_toNat, Int.toNat_natCast, ii_0, ii_1, ii_add, ii_sub, ii_mul, ii_neg, ii_lt, ii_le, ii_eq, ii_cl, ii_in, dc_lt_t, dc_lt_f, dc_le_t, dc_le_f, dc_eq_t, dc_eq_f, dn_lt_t, dn_le_t, dn_eq_t, dn_eq_f, hi_1, hi_2, and_self, Option.isSome_none, Option.isSome_some, Bool.false_eq_true, ii_s, ii_m, ii_mn, ii_2, st1_, st1_i, st1_r, st1_ii, st1_ir, st1_ri, st1_rr, st1_iii, st1_iir, st1_iri, st1_irr, st1_rii, st1_rir, st1_rri, st1_rrr, st1_iiii, st1_iiir, st1_iiri, st1_iirr, st1_irii, st1_irir, st1_irri, st1_irrr, st1_riii, st1_riir, st1_riri, st1_rirr, st1_rrii, st1_rrir, st1_rrri, st1_rrrr, st1_iiiii, st1_iiiir, st1_iiiri, st1_iiirr, st1_iirii, st1_iirir, st1_iirri, st1_iirrr, st1_iriii, st1_iriir, st1_iriri, st1_irirr, st1_irrii, st1_irrir, st1_irrri, st1_irrrr, st1_riiii, st1_riiir, st1_riiri, st1_riirr, st1_ririi, st1_ririr, st1_rirri, st1_rirrr, st1_rriii, st1_rriir, st1_rriri, st1_rrirr, st1_rrrii, st1_rrrir, st1_rrrri, st1_rrrrr, Option.toList_some, Option.toList_none, List.cons_append, List.nil_append, true_and, and_true, true_implies, false_implies, not_true_eq_false, not_false_eq_true, implies_true, eq_self, a0, hh_0, hh_1]
  refine ab_C.up (d := 0) (sp_Fair_isCollector f1 f2 ?_) (Nat.le_of_ble_eq_true rfl)
  by_cases c1 : 0 ≤ f ∧ f ≤ 3
  rotate_left
  · rw [if_neg c1] at hq
    rw [if_neg c1]
    simp -implicitDefEqProofs (disch := omega) only [↓ev_rn, ↓ev_aload_0, ↓ev_aload_0N, ↓ev_aload_2, ↓ev_aload_2N, ↓ev_astore_2, ↓ev_astore_2N, ↓ev_calls_1, ↓ev_callv_1, ↓ev_callv_2, ↓ev_fdiv, ↓ev_getfield_1, ↓ev_i2f, ↓ev_if_gt, ↓ev_if_ne, ↓ev_iload_1, ↓ev_iload_3, ↓ev_ireturn_0, ↓ev_istore_3, ↓ev_ldc, ↓ev_nop, bq_Fair_mean_0, bk_Fair_mean_0, bq_Fair_mean_10, bk_Fair_mean_10, bq_Fair_mean_31, bk_Fair_mean_31, ↓reduceIte, false_and, and_false, List.not_mem_nil, List.mem_cons, or_false, or_true, true_or, false_or, Nat.reduceEqDiff, ab_ac, ab_ar, Nat.reduceSub, Nat.reduceLeDiff, Nat.reduceAdd, Nat.reduceLT, Int.cast_ofNat_Int, Int.ofNat_toNat, Int.toNat_natCast, ii_0, ii_1, ii_add, ii_sub, ii_mul, ii_neg, ii_lt, ii_le, ii_eq, ii_cl, ii_in, dc_lt_t, dc_lt_f, dc_le_t, dc_le_f, dc_eq_t, dc_eq_f, dn_lt_t, dn_le_t, dn_eq_t, dn_eq_f, hi_1, hi_2, and_self, Option.isSome_none, Option.isSome_some, Bool.false_eq_true, ii_s, ii_m, ii_mn, ii_2, st1_, st1_i, st1_r, st1_ii, st1_ir, st1_ri, st1_rr, st1_iii, st1_iir, st1_iri, st1_irr, st1_rii, st1_rir, st1_rri, st1_rrr, st1_iiii, st1_iiir, st1_iiri, st1_iirr, st1_irii, st1_irir, st1_irri, st1_irrr, st1_riii, st1_riir, st1_riri, st1_rirr, st1_rrii, st1_rrir, st1_rrri, st1_rrrr, st1_iiiii, st1_iiiir, st1_iiiri, st1_iiirr, st1_iirii, st1_iirir, st1_iirri, st1_iirrr, st1_iriii, st1_iriir, st1_iriri, st1_irirr, st1_irrii, st1_irrir, st1_irrri, st1_irrrr, st1_riiii, st1_riiir, st1_riiri, st1_riirr, st1_ririi, st1_ririr, st1_rirri, st1_rirrr, st1_rriii, st1_rriir, st1_rriri, st1_rrirr, st1_rrrii, st1_rrrir, st1_rrrri, st1_rrrrr, Option.toList_some, Option.toList_none, List.cons_append, List.nil_append, true_and, and_true, true_implies, false_implies, not_true_eq_false, not_false_eq_true, implies_true, eq_self]
    exact hq
  rw [if_pos c1]
  rw [if_pos c1] at hq
  obtain ⟨c, rfl⟩ : ∃ c : Nat, f = c := ⟨f.toNat, by omega⟩
  rw [Int.toNat_natCast] at hq
  have hc : c < 4 := by omega
  obtain ⟨hb, hb1, hb2⟩ := sp_bks in_1 hc
  have hB := hS.2.1 c hc
  obtain ⟨h8, hw⟩ := hI.1.2.1 c hc
  have s0b := (sp_B hF hb).2.2.2.2.1
  have hle := pg_c_le (fun _ _ _ => true) (w.1.2.1 c) (2 * (w.1.2.1 c).length)
  have mfl := me_fl hI hc
  unfold me_n at hq mfl
  simp -implicitDefEqProofs (disch := omega) only [↓ev_rn, ↓ev_aload_0, ↓ev_aload_0N, ↓ev_aload_2, ↓ev_aload_2N, ↓ev_astore_2, ↓ev_astore_2N, ↓ev_calls_1, ↓ev_callv_1, ↓ev_callv_2, ↓ev_fdiv, ↓ev_getfield_1, ↓ev_i2f, ↓ev_if_gt, ↓ev_if_ne, ↓ev_iload_1, ↓ev_iload_3, ↓ev_ireturn_0, ↓ev_istore_3, ↓ev_ldc, ↓ev_nop, bq_Fair_mean_0, bk_Fair_mean_0, bq_Fair_mean_10, bk_Fair_mean_10, bq_Fair_mean_31, bk_Fair_mean_31, ↓reduceIte, false_and, and_false, List.not_mem_nil, List.mem_cons, or_false, or_true, true_or, false_or, Nat.reduceEqDiff, ab_ac, ab_ar, Nat.reduceSub, Nat.reduceLeDiff, Nat.reduceAdd, Nat.reduceLT, Int.cast_ofNat_Int, Int.ofNat_toNat, Int.toNat_natCast, ii_0, ii_1, ii_add, ii_sub, ii_mul, ii_neg, ii_lt, ii_le, ii_eq, ii_cl, ii_in, dc_lt_t, dc_lt_f, dc_le_t, dc_le_f, dc_eq_t, dc_eq_f, dn_lt_t, dn_le_t, dn_eq_t, dn_eq_f, hi_1, hi_2, and_self, Option.isSome_none, Option.isSome_some, Bool.false_eq_true, ii_s, ii_m, ii_mn, ii_2, st1_, st1_i, st1_r, st1_ii, st1_ir, st1_ri, st1_rr, st1_iii, st1_iir, st1_iri, st1_irr, st1_rii, st1_rir, st1_rri, st1_rrr, st1_iiii, st1_iiir, st1_iiri, st1_iirr, st1_irii, st1_irir, st1_irri, st1_irrr, st1_riii, st1_riir, st1_riri, st1_rirr, st1_rrii, st1_rrir, st1_rrri, st1_rrrr, st1_iiiii, st1_iiiir, st1_iiiri, st1_iiirr, st1_iirii, st1_iirir, st1_iirri, st1_iirrr, st1_iriii, st1_iriir, st1_iriri, st1_irirr, st1_irrii, st1_irrir, st1_irrri, st1_irrrr, st1_riiii, st1_riiir, st1_riiri, st1_riirr, st1_ririi, st1_ririr, st1_rirri, st1_rirrr, st1_rriii, st1_rriir, st1_rriri, st1_rrirr, st1_rrrii, st1_rrrir, st1_rrrri, st1_rrrrr, Option.toList_some, Option.toList_none, List.cons_append, List.nil_append, true_and, and_true, true_implies, false_implies, not_true_eq_false, not_false_eq_true, implies_true, eq_self, a0, hh_0, hh_1]
  refine ab_C.up (d := 0) (sp_State_bookOf hF in_1 hc ?_) (Nat.le_of_ble_eq_true rfl)
  simp -implicitDefEqProofs (disch := omega) only [↓ev_rn, ↓ev_aload_0, ↓ev_aload_0N, ↓ev_aload_2, ↓ev_aload_2N, ↓ev_astore_2, ↓ev_astore_2N, ↓ev_calls_1, ↓ev_callv_1, ↓ev_callv_2, ↓ev_fdiv, ↓ev_getfield_1, ↓ev_i2f, ↓ev_if_gt, ↓ev_if_ne, ↓ev_iload_1, ↓ev_iload_3, ↓ev_ireturn_0, ↓ev_istore_3, ↓ev_ldc, ↓ev_nop, bq_Fair_mean_0, bk_Fair_mean_0, bq_Fair_mean_10, bk_Fair_mean_10, bq_Fair_mean_31, bk_Fair_mean_31, ↓reduceIte, false_and, and_false, List.not_mem_nil, List.mem_cons, or_false, or_true, true_or, false_or, Nat.reduceEqDiff, ab_ac, ab_ar, Nat.reduceSub, Nat.reduceLeDiff, Nat.reduceAdd, Nat.reduceLT, Int.cast_ofNat_Int, Int.ofNat_toNat, Int.toNat_natCast, ii_0, ii_1, ii_add, ii_sub, ii_mul, ii_neg, ii_lt, ii_le, ii_eq, ii_cl, ii_in, dc_lt_t, dc_lt_f, dc_le_t, dc_le_f, dc_eq_t, dc_eq_f, dn_lt_t, dn_le_t, dn_eq_t, dn_eq_f, hi_1, hi_2, and_self, Option.isSome_none, Option.isSome_some, Bool.false_eq_true, ii_s, ii_m, ii_mn, ii_2, st1_, st1_i, st1_r, st1_ii, st1_ir, st1_ri, st1_rr, st1_iii, st1_iir, st1_iri, st1_irr, st1_rii, st1_rir, st1_rri, st1_rrr, st1_iiii, st1_iiir, st1_iiri, st1_iirr, st1_irii, st1_irir, st1_irri, st1_irrr, st1_riii, st1_riir, st1_riri, st1_rirr, st1_rrii, st1_rrir, st1_rrri, st1_rrrr, st1_iiiii, st1_iiiir, st1_iiiri, st1_iiirr, st1_iirii, st1_iirir, st1_iirri, st1_iirrr, st1_iriii, st1_iriir, st1_iriri, st1_irirr, st1_irrii, st1_irrir, st1_irrri, st1_irrrr, st1_riiii, st1_riiir, st1_riiri, st1_riirr, st1_ririi, st1_ririr, st1_rirri, st1_rirrr, st1_rriii, st1_rriir, st1_rriri, st1_rrirr, st1_rrrii, st1_rrrir, st1_rrrri, st1_rrrrr, Option.toList_some, Option.toList_none, List.cons_append, List.nil_append, true_and, and_true, true_implies, false_implies, not_true_eq_false, not_false_eq_true, implies_true, eq_self, s0b]
  refine ab_C.up (d := 2) (sp_Book_countEntries hF hb hB hw ?_) (Nat.le_of_ble_eq_true rfl)
  by_cases c2 : pg_c (fun _ _ _ => true) (w.1.2.1 c) (2 * (w.1.2.1 c).length) = 0
  · rw [if_pos c2] at hq
    rw [c2]
    simp -implicitDefEqProofs (disch := omega) only [↓ev_rn, ↓ev_aload_0, ↓ev_aload_0N, ↓ev_aload_2, ↓ev_aload_2N, ↓ev_astore_2, ↓ev_astore_2N, ↓ev_calls_1, ↓ev_callv_1, ↓ev_callv_2, ↓ev_fdiv, ↓ev_getfield_1, ↓ev_i2f, ↓ev_if_gt, ↓ev_if_ne, ↓ev_iload_1, ↓ev_iload_3, ↓ev_ireturn_0, ↓ev_istore_3, ↓ev_ldc, ↓ev_nop, bq_Fair_mean_0, bk_Fair_mean_0, bq_Fair_mean_10, bk_Fair_mean_10, bq_Fair_mean_31, bk_Fair_mean_31, ↓reduceIte, false_and, and_false, List.not_mem_nil, List.mem_cons, or_false, or_true, true_or, false_or, Nat.reduceEqDiff, ab_ac, ab_ar, Nat.reduceSub, Nat.reduceLeDiff, Nat.reduceAdd, Nat.reduceLT, Int.cast_ofNat_Int, Int.ofNat_toNat, Int.toNat_natCast, ii_0, ii_1, ii_add, ii_sub, ii_mul, ii_neg, ii_lt, ii_le, ii_eq, ii_cl, ii_in, dc_lt_t, dc_lt_f, dc_le_t, dc_le_f, dc_eq_t, dc_eq_f, dn_lt_t, dn_le_t, dn_eq_t, dn_eq_f, hi_1, hi_2, and_self, Option.isSome_none, Option.isSome_some, Bool.false_eq_true, ii_s, ii_m, ii_mn, ii_2, st1_, st1_i, st1_r, st1_ii, st1_ir, st1_ri, st1_rr, st1_iii, st1_iir, st1_iri, st1_irr, st1_rii, st1_rir, st1_rri, st1_rrr, st1_iiii, st1_iiir, st1_iiri, st1_iirr, st1_irii, st1_irir, st1_irri, st1_irrr, st1_riii, st1_riir, st1_riri, st1_rirr, st1_rrii, st1_rrir, st1_rrri, st1_rrrr, st1_iiiii, st1_iiiir, st1_iiiri, st1_iiirr, st1_iirii, st1_iirir, st1_iirri, st1_iirrr, st1_iriii, st1_iriir, st1_iriri, st1_irirr, st1_irrii, st1_irrir, st1_irrri, st1_irrrr, st1_riiii, st1_riiir, st1_riiri, st1_riirr, st1_ririi, st1_ririr, st1_rirri, st1_rirrr, st1_rriii, st1_rriir, st1_rriri, st1_rrirr, st1_rrrii, st1_rrrir, st1_rrrri, st1_rrrrr, Option.toList_some, Option.toList_none, List.cons_append, List.nil_append, true_and, and_true, true_implies, false_implies, not_true_eq_false, not_false_eq_true, implies_true, eq_self, Int.reduceAdd, Int.reduceNeg, Int.reduceLT, Int.reduceEq, Int.reduceLE, zn_0, zn_1, zn_2, zn_3]
    exact hq
  rw [if_neg c2] at hq
  obtain ⟨a, G, eq, ok, g1, g2⟩ := mfl c2
  rw [eq] at hq
  simp -implicitDefEqProofs (disch := omega) only [↓ev_rn, ↓ev_aload_0, ↓ev_aload_0N, ↓ev_aload_2, ↓ev_aload_2N, ↓ev_astore_2, ↓ev_astore_2N, ↓ev_calls_1, ↓ev_callv_1, ↓ev_callv_2, ↓ev_fdiv, ↓ev_getfield_1, ↓ev_i2f, ↓ev_if_gt, ↓ev_if_ne, ↓ev_iload_1, ↓ev_iload_3, ↓ev_ireturn_0, ↓ev_istore_3, ↓ev_ldc, ↓ev_nop, bq_Fair_mean_0, bk_Fair_mean_0, bq_Fair_mean_10, bk_Fair_mean_10, bq_Fair_mean_31, bk_Fair_mean_31, ↓reduceIte, false_and, and_false, List.not_mem_nil, List.mem_cons, or_false, or_true, true_or, false_or, Nat.reduceEqDiff, ab_ac, ab_ar, Nat.reduceSub, Nat.reduceLeDiff, Nat.reduceAdd, Nat.reduceLT, Int.cast_ofNat_Int, Int.ofNat_toNat, Int.toNat_natCast, ii_0, ii_1, ii_add, ii_sub, ii_mul, ii_neg, ii_lt, ii_le, ii_eq, ii_cl, ii_in, dc_lt_t, dc_lt_f, dc_le_t, dc_le_f, dc_eq_t, dc_eq_f, dn_lt_t, dn_le_t, dn_eq_t, dn_eq_f, hi_1, hi_2, and_self, Option.isSome_none, Option.isSome_some, Bool.false_eq_true, ii_s, ii_m, ii_mn, ii_2, st1_, st1_i, st1_r, st1_ii, st1_ir, st1_ri, st1_rr, st1_iii, st1_iir, st1_iri, st1_irr, st1_rii, st1_rir, st1_rri, st1_rrr, st1_iiii, st1_iiir, st1_iiri, st1_iirr, st1_irii, st1_irir, st1_irri, st1_irrr, st1_riii, st1_riir, st1_riri, st1_rirr, st1_rrii, st1_rrir, st1_rrri, st1_rrrr, st1_iiiii, st1_iiiir, st1_iiiri, st1_iiirr, st1_iirii, st1_iirir, st1_iirri, st1_iirrr, st1_iriii, st1_iriir, st1_iriri, st1_irirr, st1_irrii, st1_irrir, st1_irrri, st1_irrrr, st1_riiii, st1_riiir, st1_riiri, st1_riirr, st1_ririi, st1_ririr, st1_rirri, st1_rirrr, st1_rriii, st1_rriir, st1_rriri, st1_rrirr, st1_rrrii, st1_rrrir, st1_rrrri, st1_rrrrr, Option.toList_some, Option.toList_none, List.cons_append, List.nil_append, true_and, and_true, true_implies, false_implies, not_true_eq_false, not_false_eq_true, implies_true, eq_self, a0, hh_0, hh_1, s0b, r0]
  refine ab_C.up (d := 2) (sp_Book_sumOfValues hF hb hB hw na hS.1 ?_) (Nat.le_of_ble_eq_true rfl)
  simp -implicitDefEqProofs (disch := omega) only [↓ev_rn, ↓ev_aload_0, ↓ev_aload_0N, ↓ev_aload_2, ↓ev_aload_2N, ↓ev_astore_2, ↓ev_astore_2N, ↓ev_calls_1, ↓ev_callv_1, ↓ev_callv_2, ↓ev_fdiv, ↓ev_getfield_1, ↓ev_i2f, ↓ev_if_gt, ↓ev_if_ne, ↓ev_iload_1, ↓ev_iload_3, ↓ev_ireturn_0, ↓ev_istore_3, ↓ev_ldc, ↓ev_nop, bq_Fair_mean_0, bk_Fair_mean_0, bq_Fair_mean_10, bk_Fair_mean_10, bq_Fair_mean_31, bk_Fair_mean_31, ↓reduceIte, false_and, and_false, List.not_mem_nil, List.mem_cons, or_false, or_true, true_or, false_or, Nat.reduceEqDiff, ab_ac, ab_ar, Nat.reduceSub, Nat.reduceLeDiff, Nat.reduceAdd, Nat.reduceLT, Int.cast_ofNat_Int, Int.ofNat_toNat, Int.toNat_natCast, ii_0, ii_1, ii_add, ii_sub, ii_mul, ii_neg, ii_lt, ii_le, ii_eq, ii_cl, ii_in, dc_lt_t, dc_lt_f, dc_le_t, dc_le_f, dc_eq_t, dc_eq_f, dn_lt_t, dn_le_t, dn_eq_t, dn_eq_f, hi_1, hi_2, and_self, Option.isSome_none, Option.isSome_some, Bool.false_eq_true, ii_s, ii_m, ii_mn, ii_2, st1_, st1_i, st1_r, st1_ii, st1_ir, st1_ri, st1_rr, st1_iii, st1_iir, st1_iri, st1_irr, st1_rii, st1_rir, st1_rri, st1_rrr, st1_iiii, st1_iiir, st1_iiri, st1_iirr, st1_irii, st1_irir, st1_irri, st1_irrr, st1_riii, st1_riir, st1_riri, st1_rirr, st1_rrii, st1_rrir, st1_rrri, st1_rrrr, st1_iiiii, st1_iiiir, st1_iiiri, st1_iiirr, st1_iirii, st1_iirir, st1_iirri, st1_iirrr, st1_iriii, st1_iriir, st1_iriri, st1_irirr, st1_irrii, st1_irrir, st1_irrri, st1_irrrr, st1_riiii, st1_riiir, st1_riiri, st1_riirr, st1_ririi, st1_ririr, st1_rirri, st1_rirrr, st1_rriii, st1_rriir, st1_rriri, st1_rrirr, st1_rrrii, st1_rrrir, st1_rrrri, st1_rrrrr, Option.toList_some, Option.toList_none, List.cons_append, List.nil_append, true_and, and_true, true_implies, false_implies, not_true_eq_false, not_false_eq_true, implies_true, eq_self, eq]
  refine ⟨fl_n32 ok, ?_⟩
  refine ab_C.up (d := 0) (sp_Fair_bitsOf ok g1 g2 ?_) (Nat.le_of_ble_eq_true rfl)
  simp -implicitDefEqProofs (disch := omega) only [↓ev_rn, ↓ev_aload_0, ↓ev_aload_0N, ↓ev_aload_2, ↓ev_aload_2N, ↓ev_astore_2, ↓ev_astore_2N, ↓ev_calls_1, ↓ev_callv_1, ↓ev_callv_2, ↓ev_fdiv, ↓ev_getfield_1, ↓ev_i2f, ↓ev_if_gt, ↓ev_if_ne, ↓ev_iload_1, ↓ev_iload_3, ↓ev_ireturn_0, ↓ev_istore_3, ↓ev_ldc, ↓ev_nop, bq_Fair_mean_0, bk_Fair_mean_0, bq_Fair_mean_10, bk_Fair_mean_10, bq_Fair_mean_31, bk_Fair_mean_31, ↓reduceIte, false_and, and_false, List.not_mem_nil, List.mem_cons, or_false, or_true, true_or, false_or, Nat.reduceEqDiff, ab_ac, ab_ar, Nat.reduceSub, Nat.reduceLeDiff, Nat.reduceAdd, Nat.reduceLT, Int.cast_ofNat_Int, Int.ofNat_toNat, Int.toNat_natCast, ii_0, ii_1, ii_add, ii_sub, ii_mul, ii_neg, ii_lt, ii_le, ii_eq, ii_cl, ii_in, dc_lt_t, dc_lt_f, dc_le_t, dc_le_f, dc_eq_t, dc_eq_f, dn_lt_t, dn_le_t, dn_eq_t, dn_eq_f, hi_1, hi_2, and_self, Option.isSome_none, Option.isSome_some, Bool.false_eq_true, ii_s, ii_m, ii_mn, ii_2, st1_, st1_i, st1_r, st1_ii, st1_ir, st1_ri, st1_rr, st1_iii, st1_iir, st1_iri, st1_irr, st1_rii, st1_rir, st1_rri, st1_rrr, st1_iiii, st1_iiir, st1_iiri, st1_iirr, st1_irii, st1_irir, st1_irri, st1_irrr, st1_riii, st1_riir, st1_riri, st1_rirr, st1_rrii, st1_rrir, st1_rrri, st1_rrrr, st1_iiiii, st1_iiiir, st1_iiiri, st1_iiirr, st1_iirii, st1_iirir, st1_iirri, st1_iirrr, st1_iriii, st1_iriir, st1_iriri, st1_irirr, st1_irrii, st1_irrir, st1_irrri, st1_irrrr, st1_riiii, st1_riiir, st1_riiri, st1_riirr, st1_ririi, st1_ririr, st1_rirri, st1_rirrr, st1_rriii, st1_rriir, st1_rriri, st1_rrirr, st1_rrrii, st1_rrrir, st1_rrrri, st1_rrrrr, Option.toList_some, Option.toList_none, List.cons_append, List.nil_append, true_and, and_true, true_implies, false_implies, not_true_eq_false, not_false_eq_true, implies_true, eq_self]
  exact hq
