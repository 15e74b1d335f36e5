/-! ===== the constructors of the two objects of the law ===== -/
/-- the class's object as it is made -/
def sp_N0 (h h' : ab_H) : Prop := sp_fx 0 192 h h' ∧ (∀ q ∈ ab_fr, q.1 < 192 → h'.2 q.1 q.2.1 = q.2.2) ∧ sp_St h'.1 1 s_0 ∧ (∀ j, h'.1 51 j = 0) ∧ (∀ i, i < 5 → h'.2 51 i = 52 + 25 * i) ∧ h'.1 177 2 = 0
def fr_all : List (Nat × Nat × Nat) := [(0, 0, 1), (0, 1, 26), (0, 2, 51), (0, 3, 177), (0, 4, 180), (0, 5, 191)] ++ (st_fr 1 ++ (st_fr 26 ++ (st_fr 52 ++ (st_fr 77 ++ (st_fr 102 ++ (st_fr 127 ++ (st_fr 152 ++ ([(177, 0, 178), (177, 1, 179)] ++ ([(180, 0, 181), (180, 1, 186)] ++ (bk_fr 181 ++ bk_fr 186))))))))))
theorem fr_mem : ∀ q ∈ ab_fr, q.1 < 192 → q ∈ fr_all := by decide +kernel
theorem shp_1 : st_shp 1 := by unfold st_shp; decide +kernel
theorem shp_26 : st_shp 26 := by unfold st_shp; decide +kernel
theorem shp_hi : ∀ i, i < 5 → st_shp (51 + 1 + 25 * i) := by unfold st_shp; decide +kernel
theorem ab_sh_0 : ab_sh 0 = 7 := by decide +kernel
theorem shp_m : ab_sh 51 = 3 ∧ ab_sh 177 = 5 ∧ ab_sh 178 = 160 ∧ ab_sh 179 = 104 ∧ ab_sh 191 = 1 := by decide +kernel
theorem shp_b : ab_sh 180 = 0 ∧ ab_sh 181 = 2 ∧ ab_sh 182 = 116 ∧ ab_sh 183 = 132 ∧ ab_sh 184 = 132 ∧ ab_sh 185 = 132 ∧ ab_sh 186 = 2 ∧ ab_sh 187 = 116 ∧ ab_sh 188 = 132 ∧ ab_sh 189 = 132 ∧ ab_sh 190 = 132 := by decide +kernel
theorem sp_refs.pt2 {X X' : ab_H} {l : List (Nat × Nat × Nat)} {b : Nat} (R : sp_refs X l) (hl : ∀ q ∈ l, 0 < q.1 ∧ q.1 < b) (e : ∀ k, k < b → k ≠ 0 → X'.2 k = X.2 k) : sp_refs X' l := R.pt (fun q hq => e q.1 (hl q hq).2 (by have := (hl q hq).1; omega))
set_option maxRecDepth 100000 in
set_option maxHeartbeats 4000000 in
theorem sp_Fair_init {h : ab_H} {Q : Option Value → ab_H → Prop}
    (hq : ∀ h', sp_N0 h h' → Q none h') : ab_C 4 yn_Fair_init 1 [.ref 0] h Q := by
  refine ab_of ⟨Nat.le_of_ble_eq_true rfl, Nat.le_of_ble_eq_true rfl⟩ (by simp [Value.category]) (Nat.le_of_ble_eq_true rfl) ?_
  show ab_W 4 yn_Fair_init 0 1 191 3955 [some (.ref 0)] [] h Q
  obtain ⟨m51, m177, m178, m179, m191⟩ := shp_m
  obtain ⟨b0, b1, b2, b3, b4, b5, b6, b7, b8, b9, b10⟩ := shp_b
  refine ab_go [] 12 bo_Fair_init ?_
  simp -implicitDefEqProofs (disch := omega) only [↓ev_rn, ↓ev_aload_0, ↓ev_aload_0N, ↓ev_calli_1, ↓ev_dup_i, ↓ev_dup_r, ↓ev_new, ↓ev_nop, ↓ev_objinit, ↓ev_putfield_1, ↓ev_return_, bq_Fair_init_0, bk_Fair_init_0, ↓reduceIte, false_and, and_false, List.not_mem_nil, List.mem_cons, or_false, or_true, true_or, false_or, Nat.reduceEqDiff, ab_ac, ab_ar, Nat.reduceSub, Nat.reduceLeDiff, Nat.reduceAdd, Nat.reduceLT, Int.cast_ofNat_Int, Int.ofNat_toNat, Int.toNat_natCast, ii_0, ii_1, ii_add, ii_sub, ii_mul, ii_neg, ii_lt, ii_le, ii_eq, ii_cl, ii_in, dc_lt_t, dc_lt_f, dc_le_t, dc_le_f, dc_eq_t, dc_eq_f, dn_lt_t, dn_le_t, dn_eq_t, dn_eq_f, hi_1, hi_2, and_self, Option.isSome_none, Option.isSome_some, Bool.false_eq_true, ii_s, ii_m, ii_mn, ii_2, st1_, st1_i, st1_r, st1_ii, st1_ir, st1_ri, st1_rr, st1_iii, st1_iir, st1_iri, st1_irr, st1_rii, st1_rir, st1_rri, st1_rrr, st1_iiii, st1_iiir, st1_iiri, st1_iirr, st1_irii, st1_irir, st1_irri, st1_irrr, st1_riii, st1_riir, st1_riri, st1_rirr, st1_rrii, st1_rrir, st1_rrri, st1_rrrr, st1_iiiii, st1_iiiir, st1_iiiri, st1_iiirr, st1_iirii, st1_iirir, st1_iirri, st1_iirrr, st1_iriii, st1_iriir, st1_iriri, st1_irirr, st1_irrii, st1_irrir, st1_irrri, st1_irrrr, st1_riiii, st1_riiir, st1_riiri, st1_riirr, st1_ririi, st1_ririr, st1_rirri, st1_rirrr, st1_rriii, st1_rriir, st1_rriri, st1_rrirr, st1_rrrii, st1_rrrir, st1_rrrri, st1_rrrrr, Option.toList_some, Option.toList_none, List.cons_append, List.nil_append, true_and, and_true, true_implies, false_implies, not_true_eq_false, not_false_eq_true, implies_true, eq_self, ab_sh_0, shp_1.1, nf_6, mc_133, ms_133]
  refine ab_C.up (d := 2) (sp_State_init (a := 1) shp_1 (by omega) (fun j => by rw [hn_1, if_pos rfl]) (fun h1 f1 r1 t1 => ?_)) (Nat.le_of_ble_eq_true rfl)
  obtain ⟨p1, p2, p3, p4⟩ := st_part (a := 0) (f := 0) (show 0 < 1 by omega) (show 1 < 1 + 25 by omega) f1
  have A1 : sp_refs (ab_hr h1 0 0 1) (st_fr 1) := r1.pt (fun q hq => (p4 _ (st_fr_in _ q hq).1 (st_fr_in _ q hq).2).2)
  have S1 : sp_St (ab_hr h1 0 0 1).1 1 s_0 := t1
  have Z1 : ∀ k, 26 ≤ k → (ab_hr h1 0 0 1).1 k = h.1 k ∧ (ab_hr h1 0 0 1).2 k = h.2 k := fun k hk => ⟨p1 k (by omega), p2 k (by omega) (by omega)⟩
  have E1 : (ab_hr h1 0 0 1).2 0 0 = 1 := by rw [p3, if_pos rfl]
  simp -implicitDefEqProofs (disch := omega) only [↓ev_rn, ↓ev_aload_0, ↓ev_aload_0N, ↓ev_calli_1, ↓ev_dup_i, ↓ev_dup_r, ↓ev_new, ↓ev_nop, ↓ev_objinit, ↓ev_putfield_1, ↓ev_return_, bq_Fair_init_0, bk_Fair_init_0, ↓reduceIte, false_and, and_false, List.not_mem_nil, List.mem_cons, or_false, or_true, true_or, false_or, Nat.reduceEqDiff, ab_ac, ab_ar, Nat.reduceSub, Nat.reduceLeDiff, Nat.reduceAdd, Nat.reduceLT, Int.cast_ofNat_Int, Int.ofNat_toNat, Int.toNat_natCast, ii_0, ii_1, ii_add, ii_sub, ii_mul, ii_neg, ii_lt, ii_le, ii_eq, ii_cl, ii_in, dc_lt_t, dc_lt_f, dc_le_t, dc_le_f, dc_eq_t, dc_eq_f, dn_lt_t, dn_le_t, dn_eq_t, dn_eq_f, hi_1, hi_2, and_self, Option.isSome_none, Option.isSome_some, Bool.false_eq_true, ii_s, ii_m, ii_mn, ii_2, st1_, st1_i, st1_r, st1_ii, st1_ir, st1_ri, st1_rr, st1_iii, st1_iir, st1_iri, st1_irr, st1_rii, st1_rir, st1_rri, st1_rrr, st1_iiii, st1_iiir, st1_iiri, st1_iirr, st1_irii, st1_irir, st1_irri, st1_irrr, st1_riii, st1_riir, st1_riri, st1_rirr, st1_rrii, st1_rrir, st1_rrri, st1_rrrr, st1_iiiii, st1_iiiir, st1_iiiri, st1_iiirr, st1_iirii, st1_iirir, st1_iirri, st1_iirrr, st1_iriii, st1_iriir, st1_iriri, st1_irirr, st1_irrii, st1_irrir, st1_irrri, st1_irrrr, st1_riiii, st1_riiir, st1_riiri, st1_riirr, st1_ririi, st1_ririr, st1_rirri, st1_rirrr, st1_rriii, st1_rriir, st1_rriri, st1_rrirr, st1_rrrii, st1_rrrir, st1_rrrri, st1_rrrrr, Option.toList_some, Option.toList_none, List.cons_append, List.nil_append, true_and, and_true, true_implies, false_implies, not_true_eq_false, not_false_eq_true, implies_true, eq_self, ab_sh_0, shp_26.1, nf_6, mc_133, ms_133]
  generalize ab_hr h1 0 0 1 = X1 at *
  clear p1 p2 p3 p4 r1 t1 f1
  refine ab_C.up (d := 2) (sp_State_init (a := 26) shp_26 (by omega) (fun j => by rw [hn_1, if_pos rfl]) (fun h2 f2 r2 _ => ?_)) (Nat.le_of_ble_eq_true rfl)
  obtain ⟨p1, p2, p3, p4⟩ := st_part (a := 0) (f := 1) (show 0 < 26 by omega) (show 26 < 26 + 25 by omega) f2
  have A2 : sp_refs (ab_hr h2 0 1 26) (st_fr 26) := r2.pt (fun q hq => (p4 _ (st_fr_in _ q hq).1 (st_fr_in _ q hq).2).2)
  replace A1 := A1.pt2 (X' := ab_hr h2 0 1 26) (b := 26) (fun q hq => by have := st_fr_in _ q hq; omega) (fun k k1 k2 => p2 k (by omega) k2)
  have S2 : sp_St (ab_hr h2 0 1 26).1 1 s_0 := S1.frame (fun k k1 k2 => p1 k (by omega))
  have Z2 : ∀ k, 51 ≤ k → (ab_hr h2 0 1 26).1 k = h.1 k ∧ (ab_hr h2 0 1 26).2 k = h.2 k := fun k hk => ⟨(p1 k (by omega)).trans (Z1 k (by omega)).1, (p2 k (by omega) (by omega)).trans (Z1 k (by omega)).2⟩
  have E2 : (ab_hr h2 0 1 26).2 0 0 = 1 ∧ (ab_hr h2 0 1 26).2 0 1 = 26 := ⟨by rw [p3, if_neg (by omega)]; exact E1, by rw [p3, if_pos rfl]⟩
  simp -implicitDefEqProofs (disch := omega) only [↓ev_rn, ↓ev_aload_0, ↓ev_aload_0N, ↓ev_calli_1, ↓ev_dup_i, ↓ev_dup_r, ↓ev_new, ↓ev_nop, ↓ev_objinit, ↓ev_putfield_1, ↓ev_return_, bq_Fair_init_0, bk_Fair_init_0, ↓reduceIte, false_and, and_false, List.not_mem_nil, List.mem_cons, or_false, or_true, true_or, false_or, Nat.reduceEqDiff, ab_ac, ab_ar, Nat.reduceSub, Nat.reduceLeDiff, Nat.reduceAdd, Nat.reduceLT, Int.cast_ofNat_Int, Int.ofNat_toNat, Int.toNat_natCast, ii_0, ii_1, ii_add, ii_sub, ii_mul, ii_neg, ii_lt, ii_le, ii_eq, ii_cl, ii_in, dc_lt_t, dc_lt_f, dc_le_t, dc_le_f, dc_eq_t, dc_eq_f, dn_lt_t, dn_le_t, dn_eq_t, dn_eq_f, hi_1, hi_2, and_self, Option.isSome_none, Option.isSome_some, Bool.false_eq_true, ii_s, ii_m, ii_mn, ii_2, st1_, st1_i, st1_r, st1_ii, st1_ir, st1_ri, st1_rr, st1_iii, st1_iir, st1_iri, st1_irr, st1_rii, st1_rir, st1_rri, st1_rrr, st1_iiii, st1_iiir, st1_iiri, st1_iirr, st1_irii, st1_irir, st1_irri, st1_irrr, st1_riii, st1_riir, st1_riri, st1_rirr, st1_rrii, st1_rrir, st1_rrri, st1_rrrr, st1_iiiii, st1_iiiir, st1_iiiri, st1_iiirr, st1_iirii, st1_iirir, st1_iirri, st1_iirrr, st1_iriii, st1_iriir, st1_iriri, st1_irirr, st1_irrii, st1_irrir, st1_irrri, st1_irrrr, st1_riiii, st1_riiir, st1_riiri, st1_riirr, st1_ririi, st1_ririr, st1_rirri, st1_rirrr, st1_rriii, st1_rriir, st1_rriri, st1_rrirr, st1_rrrii, st1_rrrir, st1_rrrri, st1_rrrrr, Option.toList_some, Option.toList_none, List.cons_append, List.nil_append, true_and, and_true, true_implies, false_implies, not_true_eq_false, not_false_eq_true, implies_true, eq_self, ab_sh_0, m51, nf_3, mc_159, ms_159]
  generalize ab_hr h2 0 1 26 = X2 at *
  clear p1 p2 p3 p4 r2 f2 S1 Z1 E1
  refine ab_C.up (d := 3) (sp_History_init (a := 51) m51 shp_hi (by omega) (fun j => by rw [hn_1, if_pos rfl]) (fun h3 P => ?_)) (Nat.le_of_ble_eq_true rfl)
  obtain ⟨i0, i1, i2, i3⟩ := P
  have f3 : sp_fx 51 (51 + 126) (ab_hn X2 51) h3 := i1
  obtain ⟨p1, p2, p3, p4⟩ := st_part (a := 0) (f := 2) (show 0 < 51 by omega) (show 51 < 51 + 126 by omega) f3
  replace A1 := A1.pt2 (X' := ab_hr h3 0 2 51) (b := 51) (fun q hq => by have := st_fr_in _ q hq; omega) (fun k k1 k2 => p2 k (by omega) k2)
  replace A2 := A2.pt2 (X' := ab_hr h3 0 2 51) (b := 51) (fun q hq => by have := st_fr_in _ q hq; omega) (fun k k1 k2 => p2 k (by omega) k2)
  have A3 : ∀ i, i < 5 → sp_refs (ab_hr h3 0 2 51) (st_fr (52 + 25 * i)) := fun i hi => by
    have g := i3 i hi
    rw [show 51 + 1 + 25 * i = 52 + 25 * i by omega] at g
    exact g.pt (fun q hq => by have := st_fr_in _ q hq; exact (p4 _ (by omega) (by omega)).2)
  have H3 : (∀ j, (ab_hr h3 0 2 51).1 51 j = 0) ∧ ∀ i, i < 5 → (ab_hr h3 0 2 51).2 51 i = 52 + 25 * i := ⟨fun j => by rw [(p4 51 (by omega) (by omega)).1]; exact i0 j, fun i hi => by rw [(p4 51 (by omega) (by omega)).2, i2 i hi]⟩
  have S3 : sp_St (ab_hr h3 0 2 51).1 1 s_0 := S2.frame (fun k k1 k2 => p1 k (by omega))
  have Z3 : ∀ k, 177 ≤ k → (ab_hr h3 0 2 51).1 k = h.1 k ∧ (ab_hr h3 0 2 51).2 k = h.2 k := fun k hk => ⟨(p1 k (by omega)).trans (Z2 k (by omega)).1, (p2 k (by omega) (by omega)).trans (Z2 k (by omega)).2⟩
  have E3 : (ab_hr h3 0 2 51).2 0 0 = 1 ∧ (ab_hr h3 0 2 51).2 0 1 = 26 ∧ (ab_hr h3 0 2 51).2 0 2 = 51 := ⟨by rw [p3, if_neg (by omega)]; exact E2.1, by rw [p3, if_neg (by omega)]; exact E2.2, by rw [p3, if_pos rfl]⟩
  simp -implicitDefEqProofs (disch := omega) only [↓ev_rn, ↓ev_aload_0, ↓ev_aload_0N, ↓ev_calli_1, ↓ev_dup_i, ↓ev_dup_r, ↓ev_new, ↓ev_nop, ↓ev_objinit, ↓ev_putfield_1, ↓ev_return_, bq_Fair_init_0, bk_Fair_init_0, ↓reduceIte, false_and, and_false, List.not_mem_nil, List.mem_cons, or_false, or_true, true_or, false_or, Nat.reduceEqDiff, ab_ac, ab_ar, Nat.reduceSub, Nat.reduceLeDiff, Nat.reduceAdd, Nat.reduceLT, Int.cast_ofNat_Int, Int.ofNat_toNat, Int.toNat_natCast, ii_0, ii_1, ii_add, ii_sub, ii_mul, ii_neg, ii_lt, ii_le, ii_eq, ii_cl, ii_in, dc_lt_t, dc_lt_f, dc_le_t, dc_le_f, dc_eq_t, dc_eq_f, dn_lt_t, dn_le_t, dn_eq_t, dn_eq_f, hi_1, hi_2, and_self, Option.isSome_none, Option.isSome_some, Bool.false_eq_true, ii_s, ii_m, ii_mn, ii_2, st1_, st1_i, st1_r, st1_ii, st1_ir, st1_ri, st1_rr, st1_iii, st1_iir, st1_iri, st1_irr, st1_rii, st1_rir, st1_rri, st1_rrr, st1_iiii, st1_iiir, st1_iiri, st1_iirr, st1_irii, st1_irir, st1_irri, st1_irrr, st1_riii, st1_riir, st1_riri, st1_rirr, st1_rrii, st1_rrir, st1_rrri, st1_rrrr, st1_iiiii, st1_iiiir, st1_iiiri, st1_iiirr, st1_iirii, st1_iirir, st1_iirri, st1_iirrr, st1_iriii, st1_iriir, st1_iriri, st1_irirr, st1_irrii, st1_irrir, st1_irrri, st1_irrrr, st1_riiii, st1_riiir, st1_riiri, st1_riirr, st1_ririi, st1_ririr, st1_rirri, st1_rirrr, st1_rriii, st1_rriir, st1_rriri, st1_rrirr, st1_rrrii, st1_rrrir, st1_rrrri, st1_rrrrr, Option.toList_some, Option.toList_none, List.cons_append, List.nil_append, true_and, and_true, true_implies, false_implies, not_true_eq_false, not_false_eq_true, implies_true, eq_self, ab_sh_0, m177, nf_5, mc_163, ms_163]
  generalize ab_hr h3 0 2 51 = X3 at *
  clear p1 p2 p3 p4 i0 i1 i2 i3 f3 S2 Z2 E2
  refine ab_C.up (d := 1) (sp_Orders_init (a := 177) m177 m178 m179 (by omega) (fun h4 f4 z4 r4 => ?_)) (Nat.le_of_ble_eq_true rfl)
  obtain ⟨p1, p2, p3, p4⟩ := st_part (a := 0) (f := 3) (show 0 < 177 by omega) (show 177 < 177 + 3 by omega) f4
  replace A1 := A1.pt2 (X' := ab_hr h4 0 3 177) (b := 177) (fun q hq => by have := st_fr_in _ q hq; omega) (fun k k1 k2 => p2 k (by omega) k2)
  replace A2 := A2.pt2 (X' := ab_hr h4 0 3 177) (b := 177) (fun q hq => by have := st_fr_in _ q hq; omega) (fun k k1 k2 => p2 k (by omega) k2)
  replace A3 : ∀ i, i < 5 → sp_refs (ab_hr h4 0 3 177) (st_fr (52 + 25 * i)) := fun i hi => (A3 i hi).pt2 (b := 177) (fun q hq => by have := st_fr_in _ q hq; omega) (fun k k1 k2 => p2 k (by omega) k2)
  have H4 : (∀ j, (ab_hr h4 0 3 177).1 51 j = 0) ∧ ∀ i, i < 5 → (ab_hr h4 0 3 177).2 51 i = 52 + 25 * i := ⟨fun j => by rw [p1 51 (by omega)]; exact H3.1 j, fun i hi => by rw [p2 51 (by omega) (by omega)]; exact H3.2 i hi⟩
  have S4 : sp_St (ab_hr h4 0 3 177).1 1 s_0 := S3.frame (fun k k1 k2 => p1 k (by omega))
  have Z4 : ∀ k, 180 ≤ k → (ab_hr h4 0 3 177).1 k = h.1 k ∧ (ab_hr h4 0 3 177).2 k = h.2 k := fun k hk => ⟨(p1 k (by omega)).trans (Z3 k (by omega)).1, (p2 k (by omega) (by omega)).trans (Z3 k (by omega)).2⟩
  have E4 : (ab_hr h4 0 3 177).2 0 0 = 1 ∧ (ab_hr h4 0 3 177).2 0 1 = 26 ∧ (ab_hr h4 0 3 177).2 0 2 = 51 ∧ (ab_hr h4 0 3 177).2 0 3 = 177 := ⟨by rw [p3, if_neg (by omega)]; exact E3.1, by rw [p3, if_neg (by omega)]; exact E3.2.1, by rw [p3, if_neg (by omega)]; exact E3.2.2, by rw [p3, if_pos rfl]⟩
  have O4 : sp_refs (ab_hr h4 0 3 177) [(177, 0, 178), (177, 1, 179)] := r4.pt (fun q hq => by
    simp only [List.mem_cons, List.not_mem_nil, or_false] at hq
    rcases hq with rfl | rfl <;> exact (p4 177 (by omega) (by omega)).2)
  have T4 : (ab_hr h4 0 3 177).1 177 2 = 0 := by rw [(p4 177 (by omega) (by omega)).1, z4, hn_1, if_pos rfl]
  simp -implicitDefEqProofs (disch := omega) only [↓ev_rn, ↓ev_aload_0, ↓ev_aload_0N, ↓ev_calli_1, ↓ev_dup_i, ↓ev_dup_r, ↓ev_new, ↓ev_nop, ↓ev_objinit, ↓ev_putfield_1, ↓ev_return_, bq_Fair_init_0, bk_Fair_init_0, ↓reduceIte, false_and, and_false, List.not_mem_nil, List.mem_cons, or_false, or_true, true_or, false_or, Nat.reduceEqDiff, ab_ac, ab_ar, Nat.reduceSub, Nat.reduceLeDiff, Nat.reduceAdd, Nat.reduceLT, Int.cast_ofNat_Int, Int.ofNat_toNat, Int.toNat_natCast, ii_0, ii_1, ii_add, ii_sub, ii_mul, ii_neg, ii_lt, ii_le, ii_eq, ii_cl, ii_in, dc_lt_t, dc_lt_f, dc_le_t, dc_le_f, dc_eq_t, dc_eq_f, dn_lt_t, dn_le_t, dn_eq_t, dn_eq_f, hi_1, hi_2, and_self, Option.isSome_none, Option.isSome_some, Bool.false_eq_true, ii_s, ii_m, ii_mn, ii_2, st1_, st1_i, st1_r, st1_ii, st1_ir, st1_ri, st1_rr, st1_iii, st1_iir, st1_iri, st1_irr, st1_rii, st1_rir, st1_rri, st1_rrr, st1_iiii, st1_iiir, st1_iiri, st1_iirr, st1_irii, st1_irir, st1_irri, st1_irrr, st1_riii, st1_riir, st1_riri, st1_rirr, st1_rrii, st1_rrir, st1_rrri, st1_rrrr, st1_iiiii, st1_iiiir, st1_iiiri, st1_iiirr, st1_iirii, st1_iirir, st1_iirri, st1_iirrr, st1_iriii, st1_iriir, st1_iriri, st1_irirr, st1_irrii, st1_irrir, st1_irrri, st1_irrrr, st1_riiii, st1_riiir, st1_riiri, st1_riirr, st1_ririi, st1_ririr, st1_rirri, st1_rirrr, st1_rriii, st1_rriir, st1_rriri, st1_rrirr, st1_rrrii, st1_rrrir, st1_rrrri, st1_rrrrr, Option.toList_some, Option.toList_none, List.cons_append, List.nil_append, true_and, and_true, true_implies, false_implies, not_true_eq_false, not_false_eq_true, implies_true, eq_self, ab_sh_0, b0, nf_0, mc_124, ms_124]
  generalize ab_hr h4 0 3 177 = X4 at *
  clear p1 p2 p3 p4 r4 z4 f4 S3 Z3 E3 H3
  refine ab_C.up (d := 2) (sp_Bench_init (a := 180) b0 b1 b2 b3 b4 b5 b6 b7 b8 b9 b10 (by omega) (fun h5 f5 k0 k1 r5 r6 => ?_)) (Nat.le_of_ble_eq_true rfl)
  obtain ⟨p1, p2, p3, p4⟩ := st_part (a := 0) (f := 4) (show 0 < 180 by omega) (show 180 < 180 + 11 by omega) f5
  replace A1 := A1.pt2 (X' := ab_hr h5 0 4 180) (b := 180) (fun q hq => by have := st_fr_in _ q hq; omega) (fun k k1 k2 => p2 k (by omega) k2)
  replace A2 := A2.pt2 (X' := ab_hr h5 0 4 180) (b := 180) (fun q hq => by have := st_fr_in _ q hq; omega) (fun k k1 k2 => p2 k (by omega) k2)
  replace A3 : ∀ i, i < 5 → sp_refs (ab_hr h5 0 4 180) (st_fr (52 + 25 * i)) := fun i hi => (A3 i hi).pt2 (b := 180) (fun q hq => by have := st_fr_in _ q hq; omega) (fun k k1 k2 => p2 k (by omega) k2)
  have H5 : (∀ j, (ab_hr h5 0 4 180).1 51 j = 0) ∧ ∀ i, i < 5 → (ab_hr h5 0 4 180).2 51 i = 52 + 25 * i := ⟨fun j => by rw [p1 51 (by omega)]; exact H4.1 j, fun i hi => by rw [p2 51 (by omega) (by omega)]; exact H4.2 i hi⟩
  have S5 : sp_St (ab_hr h5 0 4 180).1 1 s_0 := S4.frame (fun k k1 k2 => p1 k (by omega))
  have Z5 : ∀ k, 191 ≤ k → (ab_hr h5 0 4 180).1 k = h.1 k ∧ (ab_hr h5 0 4 180).2 k = h.2 k := fun k hk => ⟨(p1 k (by omega)).trans (Z4 k (by omega)).1, (p2 k (by omega) (by omega)).trans (Z4 k (by omega)).2⟩
  have E5 : (ab_hr h5 0 4 180).2 0 0 = 1 ∧ (ab_hr h5 0 4 180).2 0 1 = 26 ∧ (ab_hr h5 0 4 180).2 0 2 = 51 ∧ (ab_hr h5 0 4 180).2 0 3 = 177 ∧ (ab_hr h5 0 4 180).2 0 4 = 180 := ⟨by rw [p3, if_neg (by omega)]; exact E4.1, by rw [p3, if_neg (by omega)]; exact E4.2.1, by rw [p3, if_neg (by omega)]; exact E4.2.2.1, by rw [p3, if_neg (by omega)]; exact E4.2.2.2, by rw [p3, if_pos rfl]⟩
  replace O4 : sp_refs (ab_hr h5 0 4 180) [(177, 0, 178), (177, 1, 179)] := O4.pt (fun q hq => by
    simp only [List.mem_cons, List.not_mem_nil, or_false] at hq
    rcases hq with rfl | rfl <;> exact p2 177 (by omega) (by omega))
  have T5 : (ab_hr h5 0 4 180).1 177 2 = 0 := by rw [p1 177 (by omega)]; exact T4
  have K5 : sp_refs (ab_hr h5 0 4 180) [(180, 0, 181), (180, 1, 186)] := fun q hq => by
    simp only [List.mem_cons, List.not_mem_nil, or_false] at hq
    rcases hq with rfl | rfl
    · show (ab_hr h5 0 4 180).2 180 0 = _
      rw [(p4 180 (by omega) (by omega)).2]; exact k0
    · show (ab_hr h5 0 4 180).2 180 1 = _
      rw [(p4 180 (by omega) (by omega)).2]; exact k1
  have B5 : sp_refs (ab_hr h5 0 4 180) (bk_fr 181) := r5.at (bk_fr_k _) ((p4 181 (by omega) (by omega)).2)
  have B6 : sp_refs (ab_hr h5 0 4 180) (bk_fr 186) := r6.at (bk_fr_k _) ((p4 186 (by omega) (by omega)).2)
  simp -implicitDefEqProofs (disch := omega) only [↓ev_rn, ↓ev_aload_0, ↓ev_aload_0N, ↓ev_calli_1, ↓ev_dup_i, ↓ev_dup_r, ↓ev_new, ↓ev_nop, ↓ev_objinit, ↓ev_putfield_1, ↓ev_return_, bq_Fair_init_0, bk_Fair_init_0, ↓reduceIte, false_and, and_false, List.not_mem_nil, List.mem_cons, or_false, or_true, true_or, false_or, Nat.reduceEqDiff, ab_ac, ab_ar, Nat.reduceSub, Nat.reduceLeDiff, Nat.reduceAdd, Nat.reduceLT, Int.cast_ofNat_Int, Int.ofNat_toNat, Int.toNat_natCast, ii_0, ii_1, ii_add, ii_sub, ii_mul, ii_neg, ii_lt, ii_le, ii_eq, ii_cl, ii_in, dc_lt_t, dc_lt_f, dc_le_t, dc_le_f, dc_eq_t, dc_eq_f, dn_lt_t, dn_le_t, dn_eq_t, dn_eq_f, hi_1, hi_2, and_self, Option.isSome_none, Option.isSome_some, Bool.false_eq_true, ii_s, ii_m, ii_mn, ii_2, st1_, st1_i, st1_r, st1_ii, st1_ir, st1_ri, st1_rr, st1_iii, st1_iir, st1_iri, st1_irr, st1_rii, st1_rir, st1_rri, st1_rrr, st1_iiii, st1_iiir, st1_iiri, st1_iirr, st1_irii, st1_irir, st1_irri, st1_irrr, st1_riii, st1_riir, st1_riri, st1_rirr, st1_rrii, st1_rrir, st1_rrri, st1_rrrr, st1_iiiii, st1_iiiir, st1_iiiri, st1_iiirr, st1_iirii, st1_iirir, st1_iirri, st1_iirrr, st1_iriii, st1_iriir, st1_iriri, st1_irirr, st1_irrii, st1_irrir, st1_irrri, st1_irrrr, st1_riiii, st1_riiir, st1_riiri, st1_riirr, st1_ririi, st1_ririr, st1_rirri, st1_rirrr, st1_rriii, st1_rriir, st1_rriri, st1_rrirr, st1_rrrii, st1_rrrir, st1_rrrri, st1_rrrrr, Option.toList_some, Option.toList_none, List.cons_append, List.nil_append, true_and, and_true, true_implies, false_implies, not_true_eq_false, not_false_eq_true, implies_true, eq_self, ab_sh_0, m191, nf_1, mc_156, ms_156]
  generalize ab_hr h5 0 4 180 = X5 at *
  clear p1 p2 p3 p4 k0 k1 r5 r6 f5 S4 Z4 E4 H4 T4
  refine ab_C.up (d := 1) (sp_BestTrade_init (a := 191) ?_) (Nat.le_of_ble_eq_true rfl)
  have f6 : sp_fx 191 (191 + 1) (ab_hn X5 191) (ab_hn X5 191) := sp_fx.rf
  obtain ⟨p1, p2, p3, p4⟩ := st_part (a := 0) (f := 5) (show 0 < 191 by omega) (show 191 < 191 + 1 by omega) f6
  simp -implicitDefEqProofs (disch := omega) only [↓ev_rn, ↓ev_aload_0, ↓ev_aload_0N, ↓ev_calli_1, ↓ev_dup_i, ↓ev_dup_r, ↓ev_new, ↓ev_nop, ↓ev_objinit, ↓ev_putfield_1, ↓ev_return_, bq_Fair_init_0, bk_Fair_init_0, ↓reduceIte, false_and, and_false, List.not_mem_nil, List.mem_cons, or_false, or_true, true_or, false_or, Nat.reduceEqDiff, ab_ac, ab_ar, Nat.reduceSub, Nat.reduceLeDiff, Nat.reduceAdd, Nat.reduceLT, Int.cast_ofNat_Int, Int.ofNat_toNat, Int.toNat_natCast, ii_0, ii_1, ii_add, ii_sub, ii_mul, ii_neg, ii_lt, ii_le, ii_eq, ii_cl, ii_in, dc_lt_t, dc_lt_f, dc_le_t, dc_le_f, dc_eq_t, dc_eq_f, dn_lt_t, dn_le_t, dn_eq_t, dn_eq_f, hi_1, hi_2, and_self, Option.isSome_none, Option.isSome_some, Bool.false_eq_true, ii_s, ii_m, ii_mn, ii_2, st1_, st1_i, st1_r, st1_ii, st1_ir, st1_ri, st1_rr, st1_iii, st1_iir, st1_iri, st1_irr, st1_rii, st1_rir, st1_rri, st1_rrr, st1_iiii, st1_iiir, st1_iiri, st1_iirr, st1_irii, st1_irir, st1_irri, st1_irrr, st1_riii, st1_riir, st1_riri, st1_rirr, st1_rrii, st1_rrir, st1_rrri, st1_rrrr, st1_iiiii, st1_iiiir, st1_iiiri, st1_iiirr, st1_iirii, st1_iirir, st1_iirri, st1_iirrr, st1_iriii, st1_iriir, st1_iriri, st1_irirr, st1_irrii, st1_irrir, st1_irrri, st1_irrrr, st1_riiii, st1_riiir, st1_riiri, st1_riirr, st1_ririi, st1_ririr, st1_rirri, st1_rirrr, st1_rriii, st1_rriir, st1_rriri, st1_rrirr, st1_rrrii, st1_rrrir, st1_rrrri, st1_rrrrr, Option.toList_some, Option.toList_none, List.cons_append, List.nil_append, true_and, and_true, true_implies, false_implies, not_true_eq_false, not_false_eq_true, implies_true, eq_self, ab_sh_0]
  generalize ab_hr (ab_hn X5 191) 0 5 191 = X6 at *
  refine hq X6 ⟨fun k hk => ⟨(p1 k (by omega)).trans (Z5 k (by omega)).1, (p2 k (by omega) (by omega)).trans (Z5 k (by omega)).2⟩, fun q hq hlt => ?_, S5.frame (fun k k1 k2 => p1 k (by omega)), fun j => by rw [p1 51 (by omega)]; exact H5.1 j, fun i hi => by rw [p2 51 (by omega) (by omega)]; exact H5.2 i hi, by rw [p1 177 (by omega)]; exact T5⟩
  have W : ∀ l, sp_refs X5 l → (∀ q ∈ l, 0 < q.1 ∧ q.1 < 191) → sp_refs X6 l := fun l r e => r.pt2 e (fun k k1 k2 => p2 k (by omega) k2)
  have all : sp_refs X6 fr_all := by
    refine sp_refs.app (fun q hq => ?_) (sp_refs.app (W _ A1 (fun q hq => by have := st_fr_in _ q hq; omega)) (sp_refs.app (W _ A2 (fun q hq => by have := st_fr_in _ q hq; omega)) (sp_refs.app (W _ (A3 0 (by omega)) (fun q hq => by have := st_fr_in _ q hq; omega)) (sp_refs.app (W _ (A3 1 (by omega)) (fun q hq => by have := st_fr_in _ q hq; omega)) (sp_refs.app (W _ (A3 2 (by omega)) (fun q hq => by have := st_fr_in _ q hq; omega)) (sp_refs.app (W _ (A3 3 (by omega)) (fun q hq => by have := st_fr_in _ q hq; omega)) (sp_refs.app (W _ (A3 4 (by omega)) (fun q hq => by have := st_fr_in _ q hq; omega)) (sp_refs.app (W _ O4 (by decide)) (sp_refs.app (W _ K5 (by decide)) (sp_refs.app (W _ B5 (by decide)) (W _ B6 (by decide))))))))))))
    simp only [List.mem_cons, List.not_mem_nil, or_false] at hq
    obtain ⟨e0, e1, e2, e3, e4⟩ := E5
    rcases hq with rfl | rfl | rfl | rfl | rfl | rfl
    · show X6.2 0 0 = _
      rw [p3, if_neg (by omega)]; exact e0
    · show X6.2 0 1 = _
      rw [p3, if_neg (by omega)]; exact e1
    · show X6.2 0 2 = _
      rw [p3, if_neg (by omega)]; exact e2
    · show X6.2 0 3 = _
      rw [p3, if_neg (by omega)]; exact e3
    · show X6.2 0 4 = _
      rw [p3, if_neg (by omega)]; exact e4
    · show X6.2 0 5 = _
      rw [p3, if_pos rfl]
  exact all q (fr_mem q hq hlt)
theorem fr_lt : ∀ q ∈ ab_fr, q.1 < 192 := by decide +kernel
/-- the world after the object is made -/
theorem sp_born {h h1 : ab_H} (n1 : sp_N0 (ab_hn h 0) h1) : sp_CW h1 (s_0, [], []) := by
  obtain ⟨a1, a2, a3, a4, a5, a6⟩ := n1
  have F : sp_F h1 := fun q hq => a2 q hq (by have := fr_lt q hq; omega)
  refine ⟨F, a3, ⟨fun i hi => ?_, fun i j hi hj hh => ?_, ?_, Nat.zero_le _, fun i s hs => by cases hs⟩, ?_, fun p hp => absurd hp (Nat.not_lt_zero p)⟩
  · rw [a5 i hi]
    rcases (show i = 0 ∨ i = 1 ∨ i = 2 ∨ i = 3 ∨ i = 4 by omega) with rfl | rfl | rfl | rfl | rfl <;> decide
  · rw [a5 i hi, a5 j hj] at hh
    omega
  · rw [a4]; rfl
  · rw [a6]; rfl
theorem s_0_inv : st_inv 0 s_0 := by
  refine ⟨⟨Nat.zero_le _, fun c hc => ⟨Nat.zero_le _, Nat.zero_le _, fun p hp => absurd hp (Nat.not_lt_zero p), fun p hp => absurd hp (Nat.not_lt_zero p)⟩, fun c hc => ⟨by show (0 : Int) ≤ 100; decide, by show (100 : Int) ≤ 9999; decide⟩⟩, fun i hi => absurd hi (Nat.not_lt_zero i), fun x => ?_, fun x hx => ?_, ⟨Int.le_refl _, Int.le_refl _⟩, ⟨Int.le_refl _, Int.le_refl _⟩⟩
  · show ct [] x + ct [] x + ct [] x + ct [] x ≤ 1
    rw [ct_nil]; omega
  · exfalso
    have hx2 : 0 < ct [] x + ct [] x + ct [] x + ct [] x := hx
    rw [ct_nil] at hx2; omega
