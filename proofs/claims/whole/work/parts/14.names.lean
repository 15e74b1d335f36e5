/-! ===== FairBooks$Names ===== -/
set_option maxRecDepth 100000 in
set_option maxHeartbeats 4000000 in
theorem sp_Names_has {a : Nat} {N : Nm} {z : Int} {h : ab_H} {Q : Option Value → ab_H → Prop} (hF : sp_F h) (ha : a ∈ ab_namesl) (hN : sp_Nm h.1 a N) (z1 : -2147483648 ≤ z) (z2 : z < 2147483648)
    (hq : Q (some (.int (Int32.ofInt (if 0 ≤ z ∧ z < N.length then 1 else 0)))) h) : ab_C 0 yn_Names_has 200 [.ref a, .int (Int32.ofInt z)] h Q := by
  refine ab_of ⟨Nat.le_of_ble_eq_true rfl, Nat.le_of_ble_eq_true rfl⟩ (by simp [Value.category]) (Nat.le_of_ble_eq_true rfl) ?_
  show ab_W 0 yn_Names_has 0 200 0 0 [some (.ref a), some (.int (Int32.ofInt z))] [] h Q
  obtain ⟨r0, r1, s0, s1, s2, hl⟩ := sp_N hF ha
  obtain ⟨n0, n1, n2⟩ := hN
  refine ab_go [] 9 bo_Names_has ?_
  by_cases c1 : z < 0
  · rw [if_neg (by omega)] at hq
    simp (disch := omega) only [↓ev_rn, ↓ev_aload_0, ↓ev_aload_0N, ↓ev_getfield_0, ↓ev_goto, ↓ev_icmp_ge, ↓ev_iconst, ↓ev_if_lt, ↓ev_iload_1, ↓ev_ireturn_1, ↓ev_nop, bq_Names_has_0, bk_Names_has_0, bq_Names_has_16, bk_Names_has_16, bq_Names_has_17, bk_Names_has_17, ↓reduceIte, List.not_mem_nil, List.mem_cons, or_false, or_true, true_or, false_or, Nat.reduceEqDiff, ab_ac, ab_ar, Nat.reduceSub, Nat.reduceLeDiff, Nat.reduceAdd, Nat.reduceLT, Int.cast_ofNat_Int, Int.ofNat_toNat, Int.toNat_natCast, ii_0, ii_1, ii_add, ii_sub, ii_mul, ii_neg, ii_lt, ii_le, ii_eq, ii_cl, ii_in, dc_lt_t, dc_lt_f, dc_le_t, dc_le_f, dc_eq_t, dc_eq_f, dn_lt_t, dn_le_t, dn_eq_t, dn_eq_f, hi_1, hi_2, and_self, ii_s, true_and, and_true, true_implies, false_implies, not_true_eq_false, not_false_eq_true, implies_true, eq_self, r0, r1, s0, s1, s2, n0]
    exact hq
  · by_cases c2 : z < N.length
    · rw [if_pos (by omega)] at hq
      simp (disch := omega) only [↓ev_rn, ↓ev_aload_0, ↓ev_aload_0N, ↓ev_getfield_0, ↓ev_goto, ↓ev_icmp_ge, ↓ev_iconst, ↓ev_if_lt, ↓ev_iload_1, ↓ev_ireturn_1, ↓ev_nop, bq_Names_has_0, bk_Names_has_0, bq_Names_has_16, bk_Names_has_16, bq_Names_has_17, bk_Names_has_17, ↓reduceIte, List.not_mem_nil, List.mem_cons, or_false, or_true, true_or, false_or, Nat.reduceEqDiff, ab_ac, ab_ar, Nat.reduceSub, Nat.reduceLeDiff, Nat.reduceAdd, Nat.reduceLT, Int.cast_ofNat_Int, Int.ofNat_toNat, Int.toNat_natCast, ii_0, ii_1, ii_add, ii_sub, ii_mul, ii_neg, ii_lt, ii_le, ii_eq, ii_cl, ii_in, dc_lt_t, dc_lt_f, dc_le_t, dc_le_f, dc_eq_t, dc_eq_f, dn_lt_t, dn_le_t, dn_eq_t, dn_eq_f, hi_1, hi_2, and_self, ii_s, true_and, and_true, true_implies, false_implies, not_true_eq_false, not_false_eq_true, implies_true, eq_self, r0, r1, s0, s1, s2, n0]
      exact hq
    · rw [if_neg (by omega)] at hq
      simp (disch := omega) only [↓ev_rn, ↓ev_aload_0, ↓ev_aload_0N, ↓ev_getfield_0, ↓ev_goto, ↓ev_icmp_ge, ↓ev_iconst, ↓ev_if_lt, ↓ev_iload_1, ↓ev_ireturn_1, ↓ev_nop, bq_Names_has_0, bk_Names_has_0, bq_Names_has_16, bk_Names_has_16, bq_Names_has_17, bk_Names_has_17, ↓reduceIte, List.not_mem_nil, List.mem_cons, or_false, or_true, true_or, false_or, Nat.reduceEqDiff, ab_ac, ab_ar, Nat.reduceSub, Nat.reduceLeDiff, Nat.reduceAdd, Nat.reduceLT, Int.cast_ofNat_Int, Int.ofNat_toNat, Int.toNat_natCast, ii_0, ii_1, ii_add, ii_sub, ii_mul, ii_neg, ii_lt, ii_le, ii_eq, ii_cl, ii_in, dc_lt_t, dc_lt_f, dc_le_t, dc_le_f, dc_eq_t, dc_eq_f, dn_lt_t, dn_le_t, dn_eq_t, dn_eq_f, hi_1, hi_2, and_self, ii_s, true_and, and_true, true_implies, false_implies, not_true_eq_false, not_false_eq_true, implies_true, eq_self, r0, r1, s0, s1, s2, n0]
      exact hq
set_option maxRecDepth 100000 in
set_option maxHeartbeats 4000000 in
theorem sp_Names_fameOf {a i : Nat} {h : ab_H} {Q : Option Value → ab_H → Prop} (hF : sp_F h) (ha : a ∈ ab_namesl) (hi : i < 16)
    (hq : Q (some (.int (h.1 (a + 1) i))) h) : ab_C 0 yn_Names_fameOf 200 [.ref a, .int (Int32.ofInt i)] h Q := by
  refine ab_of ⟨Nat.le_of_ble_eq_true rfl, Nat.le_of_ble_eq_true rfl⟩ (by simp [Value.category]) (Nat.le_of_ble_eq_true rfl) ?_
  show ab_W 0 yn_Names_fameOf 0 200 0 0 [some (.ref a), some (.int (Int32.ofInt i))] [] h Q
  obtain ⟨r0, r1, s0, s1, s2, hl⟩ := sp_N hF ha
  refine ab_go [] 9 bo_Names_fameOf ?_
  simp (disch := omega) only [↓ev_rn, ↓ev_aload_0, ↓ev_aload_0N, ↓ev_arraylength, ↓ev_getfield_1, ↓ev_goto, ↓ev_iaload, ↓ev_icmp_ge, ↓ev_iconst, ↓ev_if_lt, ↓ev_iload_1, ↓ev_ireturn_0, ↓ev_nop, bq_Names_fameOf_0, bk_Names_fameOf_0, bq_Names_fameOf_22, bk_Names_fameOf_22, bq_Names_fameOf_23, bk_Names_fameOf_23, ↓reduceIte, List.not_mem_nil, List.mem_cons, or_false, or_true, true_or, false_or, Nat.reduceEqDiff, ab_ac, ab_ar, Nat.reduceSub, Nat.reduceLeDiff, Nat.reduceAdd, Nat.reduceLT, Int.cast_ofNat_Int, Int.ofNat_toNat, Int.toNat_natCast, ii_0, ii_1, ii_add, ii_sub, ii_mul, ii_neg, ii_lt, ii_le, ii_eq, ii_cl, ii_in, dc_lt_t, dc_lt_f, dc_le_t, dc_le_f, dc_eq_t, dc_eq_f, dn_lt_t, dn_le_t, dn_eq_t, dn_eq_f, hi_1, hi_2, and_self, ii_s, true_and, and_true, true_implies, false_implies, not_true_eq_false, not_false_eq_true, implies_true, eq_self, r0, r1, s0, s1, s2]
  exact hq
set_option maxRecDepth 100000 in
set_option maxHeartbeats 4000000 in
theorem sp_Names_themeOf {a i : Nat} {h : ab_H} {Q : Option Value → ab_H → Prop} (hF : sp_F h) (ha : a ∈ ab_namesl) (hi : i < 16)
    (hq : Q (some (.int (h.1 (a + 2) i))) h) : ab_C 0 yn_Names_themeOf 200 [.ref a, .int (Int32.ofInt i)] h Q := by
  refine ab_of ⟨Nat.le_of_ble_eq_true rfl, Nat.le_of_ble_eq_true rfl⟩ (by simp [Value.category]) (Nat.le_of_ble_eq_true rfl) ?_
  show ab_W 0 yn_Names_themeOf 0 200 0 0 [some (.ref a), some (.int (Int32.ofInt i))] [] h Q
  obtain ⟨r0, r1, s0, s1, s2, hl⟩ := sp_N hF ha
  refine ab_go [] 9 bo_Names_themeOf ?_
  simp (disch := omega) only [↓ev_rn, ↓ev_aload_0, ↓ev_aload_0N, ↓ev_arraylength, ↓ev_getfield_1, ↓ev_goto, ↓ev_iaload, ↓ev_icmp_ge, ↓ev_iconst, ↓ev_if_lt, ↓ev_iload_1, ↓ev_ireturn_0, ↓ev_nop, bq_Names_themeOf_0, bk_Names_themeOf_0, bq_Names_themeOf_22, bk_Names_themeOf_22, bq_Names_themeOf_23, bk_Names_themeOf_23, ↓reduceIte, List.not_mem_nil, List.mem_cons, or_false, or_true, true_or, false_or, Nat.reduceEqDiff, ab_ac, ab_ar, Nat.reduceSub, Nat.reduceLeDiff, Nat.reduceAdd, Nat.reduceLT, Int.cast_ofNat_Int, Int.ofNat_toNat, Int.toNat_natCast, ii_0, ii_1, ii_add, ii_sub, ii_mul, ii_neg, ii_lt, ii_le, ii_eq, ii_cl, ii_in, dc_lt_t, dc_lt_f, dc_le_t, dc_le_f, dc_eq_t, dc_eq_f, dn_lt_t, dn_le_t, dn_eq_t, dn_eq_f, hi_1, hi_2, and_self, ii_s, true_and, and_true, true_implies, false_implies, not_true_eq_false, not_false_eq_true, implies_true, eq_self, r0, r1, s0, s1, s2]
  exact hq
def bt_1 (i : Nat) : Int32 := Int32.ofInt 1 <<< (Int32.ofInt i &&& 31)
/-- the names of a theme among the first k, as bits -/
def w_set (N : Nm) (t : Int32) : Nat → Int32
  | 0 => Int32.ofInt 0
  | k + 1 => if (nm_at N k).2 = t then w_set N t k ||| bt_1 k else w_set N t k
set_option maxRecDepth 100000 in
set_option maxHeartbeats 4000000 in
theorem sp_Names_setOf {a : Nat} {N : Nm} {t : Int32} {h : ab_H} {Q : Option Value → ab_H → Prop} (hF : sp_F h) (ha : a ∈ ab_namesl) (hN : sp_Nm h.1 a N)
    (hq : Q (some (.int (w_set N t N.length))) h) : ab_C 0 yn_Names_setOf 200 [.ref a, .int t] h Q := by
  refine ab_of ⟨Nat.le_of_ble_eq_true rfl, Nat.le_of_ble_eq_true rfl⟩ (by simp [Value.category]) (Nat.le_of_ble_eq_true rfl) ?_
  show ab_W 0 yn_Names_setOf 0 200 0 0 [some (.ref a), some (.int t), none, none] [] h Q
  obtain ⟨r0, r1, s0, s1, s2, hl⟩ := sp_N hF ha
  obtain ⟨n0, n1, n2⟩ := hN
  have loop : ∀ (k i : Nat), i + k = N.length → ab_W 0 yn_Names_setOf 4 200 0 0 [some (.ref a), some (.int t), some (.int (w_set N t i)), some (.int (Int32.ofInt i))] [] h Q := by
    intro k
    induction k with
    | zero =>
      intro i hi
      obtain rfl : i = N.length := by omega
      refine ab_go [4] 9 bo_Names_setOf ?_
      simp (disch := omega) only [↓ev_rn, ↓ev_aload_0, ↓ev_aload_0N, ↓ev_arraylength, ↓ev_getfield_0, ↓ev_getfield_1, ↓ev_goto, ↓ev_iaload, ↓ev_icmp_ge, ↓ev_icmp_ne, ↓ev_iconst, ↓ev_iinc_3, ↓ev_iload_1, ↓ev_iload_2, ↓ev_iload_3, ↓ev_ior, ↓ev_ireturn_0, ↓ev_ishl, ↓ev_istore_2, ↓ev_istore_3, ↓ev_nop, bq_Names_setOf_0, bk_Names_setOf_0, bq_Names_setOf_4, bk_Names_setOf_4, bq_Names_setOf_37, bk_Names_setOf_37, bq_Names_setOf_43, bk_Names_setOf_43, ↓reduceIte, List.not_mem_nil, List.mem_cons, or_false, or_true, true_or, false_or, Nat.reduceEqDiff, ab_ac, ab_ar, Nat.reduceSub, Nat.reduceLeDiff, Nat.reduceAdd, Nat.reduceLT, Int.cast_ofNat_Int, Int.ofNat_toNat, Int.toNat_natCast, ii_0, ii_1, ii_add, ii_sub, ii_mul, ii_neg, ii_lt, ii_le, ii_eq, ii_cl, ii_in, dc_lt_t, dc_lt_f, dc_le_t, dc_le_f, dc_eq_t, dc_eq_f, dn_lt_t, dn_le_t, dn_eq_t, dn_eq_f, hi_1, hi_2, and_self, ii_s, true_and, and_true, true_implies, false_implies, not_true_eq_false, not_false_eq_true, implies_true, eq_self, r0, r1, s0, s1, s2, n0]
      exact hq
    | succ k ih =>
      intro i hi
      refine ab_go [4] 9 bo_Names_setOf ?_
      have g := ih (i + 1) (by omega)
      rw [w_set] at g
      have e2 := (n2 i (by omega)).2
      by_cases c : (nm_at N i).2 = t
      · rw [if_pos c] at g
        simp (disch := omega) only [↓ev_rn, ↓ev_aload_0, ↓ev_aload_0N, ↓ev_arraylength, ↓ev_getfield_0, ↓ev_getfield_1, ↓ev_goto, ↓ev_iaload, ↓ev_icmp_ge, ↓ev_icmp_ne, ↓ev_iconst, ↓ev_iinc_3, ↓ev_iload_1, ↓ev_iload_2, ↓ev_iload_3, ↓ev_ior, ↓ev_ireturn_0, ↓ev_ishl, ↓ev_istore_2, ↓ev_istore_3, ↓ev_nop, bq_Names_setOf_0, bk_Names_setOf_0, bq_Names_setOf_4, bk_Names_setOf_4, bq_Names_setOf_37, bk_Names_setOf_37, bq_Names_setOf_43, bk_Names_setOf_43, ↓reduceIte, List.not_mem_nil, List.mem_cons, or_false, or_true, true_or, false_or, Nat.reduceEqDiff, ab_ac, ab_ar, Nat.reduceSub, Nat.reduceLeDiff, Nat.reduceAdd, Nat.reduceLT, Int.cast_ofNat_Int, Int.ofNat_toNat, Int.toNat_natCast, ii_0, ii_1, ii_add, ii_sub, ii_mul, ii_neg, ii_lt, ii_le, ii_eq, ii_cl, ii_in, dc_lt_t, dc_lt_f, dc_le_t, dc_le_f, dc_eq_t, dc_eq_f, dn_lt_t, dn_le_t, dn_eq_t, dn_eq_f, hi_1, hi_2, and_self, ii_s, true_and, and_true, true_implies, false_implies, not_true_eq_false, not_false_eq_true, implies_true, eq_self, r0, r1, s0, s1, s2, n0, e2, c]
        exact g
      · rw [if_neg c] at g
        simp (disch := omega) only [↓ev_rn, ↓ev_aload_0, ↓ev_aload_0N, ↓ev_arraylength, ↓ev_getfield_0, ↓ev_getfield_1, ↓ev_goto, ↓ev_iaload, ↓ev_icmp_ge, ↓ev_icmp_ne, ↓ev_iconst, ↓ev_iinc_3, ↓ev_iload_1, ↓ev_iload_2, ↓ev_iload_3, ↓ev_ior, ↓ev_ireturn_0, ↓ev_ishl, ↓ev_istore_2, ↓ev_istore_3, ↓ev_nop, bq_Names_setOf_0, bk_Names_setOf_0, bq_Names_setOf_4, bk_Names_setOf_4, bq_Names_setOf_37, bk_Names_setOf_37, bq_Names_setOf_43, bk_Names_setOf_43, ↓reduceIte, List.not_mem_nil, List.mem_cons, or_false, or_true, true_or, false_or, Nat.reduceEqDiff, ab_ac, ab_ar, Nat.reduceSub, Nat.reduceLeDiff, Nat.reduceAdd, Nat.reduceLT, Int.cast_ofNat_Int, Int.ofNat_toNat, Int.toNat_natCast, ii_0, ii_1, ii_add, ii_sub, ii_mul, ii_neg, ii_lt, ii_le, ii_eq, ii_cl, ii_in, dc_lt_t, dc_lt_f, dc_le_t, dc_le_f, dc_eq_t, dc_eq_f, dn_lt_t, dn_le_t, dn_eq_t, dn_eq_f, hi_1, hi_2, and_self, ii_s, true_and, and_true, true_implies, false_implies, not_true_eq_false, not_false_eq_true, implies_true, eq_self, r0, r1, s0, s1, s2, n0, e2, c]
        exact g
  refine ab_go [4] 9 bo_Names_setOf ?_
  have g := loop N.length 0 (by omega)
  simp (disch := omega) only [↓ev_rn, ↓ev_aload_0, ↓ev_aload_0N, ↓ev_arraylength, ↓ev_getfield_0, ↓ev_getfield_1, ↓ev_goto, ↓ev_iaload, ↓ev_icmp_ge, ↓ev_icmp_ne, ↓ev_iconst, ↓ev_iinc_3, ↓ev_iload_1, ↓ev_iload_2, ↓ev_iload_3, ↓ev_ior, ↓ev_ireturn_0, ↓ev_ishl, ↓ev_istore_2, ↓ev_istore_3, ↓ev_nop, bq_Names_setOf_0, bk_Names_setOf_0, bq_Names_setOf_4, bk_Names_setOf_4, bq_Names_setOf_37, bk_Names_setOf_37, bq_Names_setOf_43, bk_Names_setOf_43, ↓reduceIte, List.not_mem_nil, List.mem_cons, or_false, or_true, true_or, false_or, Nat.reduceEqDiff, ab_ac, ab_ar, Nat.reduceSub, Nat.reduceLeDiff, Nat.reduceAdd, Nat.reduceLT, Int.cast_ofNat_Int, Int.ofNat_toNat, Int.toNat_natCast, ii_0, ii_1, ii_add, ii_sub, ii_mul, ii_neg, ii_lt, ii_le, ii_eq, ii_cl, ii_in, dc_lt_t, dc_lt_f, dc_le_t, dc_le_f, dc_eq_t, dc_eq_f, dn_lt_t, dn_le_t, dn_eq_t, dn_eq_f, hi_1, hi_2, and_self, ii_s, true_and, and_true, true_implies, false_implies, not_true_eq_false, not_false_eq_true, implies_true, eq_self]
  exact g
