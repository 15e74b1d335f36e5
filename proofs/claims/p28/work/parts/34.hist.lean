/-! ===== FairBooks$History ===== -/
def ab_hs : List Nat := [52, 77, 102, 127, 152]
theorem hs_st : ∀ x ∈ ab_hs, x ∈ ab_states ∧ 52 ≤ x ∧ x + 25 ≤ 177 := by decide +kernel
def sp_Hi (h : ab_H) (H : List St) : Prop := (∀ i, i < 5 → h.2 51 i ∈ ab_hs) ∧ (∀ i j, i < 5 → j < 5 → h.2 51 i = h.2 51 j → i = j) ∧ h.1 51 5 = Int32.ofInt H.length ∧ H.length ≤ 4 ∧ ∀ i s, H[i]? = some s → sp_St h.1 (h.2 51 (i + 1)) s
theorem sp_Hi.frame {h h' : ab_H} {H : List St} (hH : sp_Hi h H) (e : h'.2 51 = h.2 51) (e2 : ∀ k, 51 ≤ k → k < 177 → h'.1 k = h.1 k) : sp_Hi h' H := by
  obtain ⟨h1, h2, h3, h4, h5⟩ := hH
  unfold sp_Hi
  rw [e, e2 51 (by omega) (by omega)]
  refine ⟨h1, h2, h3, h4, fun i s hs => ?_⟩
  have hi : i < H.length := (List.getElem?_eq_some_iff.mp hs).1
  obtain ⟨g1, g2, g3⟩ := hs_st _ (h1 (i + 1) (by omega))
  exact (h5 i s hs).frame (fun k k1 k2 => e2 k (by omega) (by omega))
theorem sp_F.hr51 {h : ab_H} {f r : Nat} (hF : sp_F h) : sp_F (ab_hr h 51 f r) := by
  have key : ∀ q ∈ ab_fr, q.1 ≠ 51 := by decide +kernel
  intro q hq
  have e : (ab_hr h 51 f r).2 q.1 q.2.1 = h.2 q.1 q.2.1 := by
    show (if q.1 = 51 ∧ q.2.1 = f then r else h.2 q.1 q.2.1) = _
    rw [if_neg]
    rintro ⟨h1, h2⟩
    exact key q hq h1
  rw [e]; exact hF q hq
theorem hs_apart : ∀ x ∈ ab_hs, ∀ y ∈ ab_hs, x ≠ y → x + 25 ≤ y ∨ y + 25 ≤ x := by decide +kernel
/-- the state was noted: it is in the spare one -/
def sp_Hp (h : ab_H) (H : List St) (s : St) : Prop := sp_Hi h H ∧ sp_St h.1 (h.2 51 0) s
theorem sp_Hp.frame {h h' : ab_H} {H : List St} {s : St} (hH : sp_Hp h H s) (e : h'.2 51 = h.2 51) (e2 : ∀ k, 51 ≤ k → k < 177 → h'.1 k = h.1 k) : sp_Hp h' H s := by
  refine ⟨hH.1.frame e e2, ?_⟩
  obtain ⟨g1, g2, g3⟩ := hs_st _ (hH.1.1 0 (by omega))
  rw [e]
  exact hH.2.frame (fun k k1 k2 => e2 k (by omega) (by omega))
set_option maxRecDepth 100000 in
set_option maxHeartbeats 4000000 in
theorem sp_History_prepare {s : St} {H : List St} {h : ab_H} {Q : Option Value → ab_H → Prop} (hF : sp_F h) (hH : sp_Hi h H) (hS : sp_St h.1 1 s)
    (hq : ∀ h', h'.2 = h.2 → sp_Hp h' H s → (∀ k, (k < 52 ∨ 177 ≤ k) → h'.1 k = h.1 k) → Q none h') : ab_C 4 yn_History_prepare 192 [.ref 51, .ref 1] h Q := by
  refine ab_of ⟨Nat.le_of_ble_eq_true rfl, Nat.le_of_ble_eq_true rfl⟩ (by simp [Value.category]) (Nat.le_of_ble_eq_true rfl) ?_
  show ab_W 4 yn_History_prepare 0 192 0 0 [some (.ref 51), some (.ref 1)] [] h Q
  have s51 : ab_sh 51 = 3 := by decide +kernel
  have s1 : ab_sh 1 = 6 := by decide +kernel
  obtain ⟨h1, h2, h3, h4, h5⟩ := id hH
  have m0 := h1 0 (by omega)
  obtain ⟨m1, m2, m3⟩ := hs_st _ m0
  have ssp := (sp_S hF m1).2.2.2.2.2.2.1
  refine ab_go [] 12 bo_History_prepare ?_
  simp (disch := omega) only [↓ev_rn, ↓ev_aload_0, ↓ev_aload_0N, ↓ev_aload_1, ↓ev_aload_1N, ↓ev_callv_2, ↓ev_getfield_1, ↓ev_nop, ↓ev_return_, bq_History_prepare_0, bk_History_prepare_0, ↓reduceIte, false_and, and_false, List.not_mem_nil, List.mem_cons, or_false, or_true, true_or, false_or, Nat.reduceEqDiff, ab_ac, ab_ar, Nat.reduceSub, Nat.reduceLeDiff, Nat.reduceAdd, Nat.reduceLT, Int.cast_ofNat_Int, Int.ofNat_toNat, Int.toNat_natCast, ii_0, ii_1, ii_add, ii_sub, ii_mul, ii_neg, ii_lt, ii_le, ii_eq, ii_cl, ii_in, dc_lt_t, dc_lt_f, dc_le_t, dc_le_f, dc_eq_t, dc_eq_f, dn_lt_t, dn_le_t, dn_eq_t, dn_eq_f, hi_1, hi_2, and_self, Option.isSome_none, Option.isSome_some, Bool.false_eq_true, ii_s, ii_m, ii_mn, ii_2, st1_, st1_i, st1_r, st1_ii, st1_ir, st1_ri, st1_rr, st1_iii, st1_iir, st1_iri, st1_irr, st1_rii, st1_rir, st1_rri, st1_rrr, st1_iiii, st1_iiir, st1_iiri, st1_iirr, st1_irii, st1_irir, st1_irri, st1_irrr, st1_riii, st1_riir, st1_riri, st1_rirr, st1_rrii, st1_rrir, st1_rrri, st1_rrrr, st1_iiiii, st1_iiiir, st1_iiiri, st1_iiirr, st1_iirii, st1_iirir, st1_iirri, st1_iirrr, st1_iriii, st1_iriir, st1_iriri, st1_irirr, st1_irrii, st1_irrir, st1_irrri, st1_irrrr, st1_riiii, st1_riiir, st1_riiri, st1_riirr, st1_ririi, st1_ririr, st1_rirri, st1_rirrr, st1_rriii, st1_rriir, st1_rriri, st1_rrirr, st1_rrrii, st1_rrrir, st1_rrrri, st1_rrrrr, Option.toList_some, Option.toList_none, List.cons_append, List.nil_append, true_and, and_true, true_implies, false_implies, not_true_eq_false, not_false_eq_true, implies_true, eq_self, s51, s1, ssp]
  refine ab_C.up (d := 3) (sp_State_copyFrom hF m1 (by decide +kernel) (by omega) hS (fun h' e1 e2 e3 => ?_)) (Nat.le_of_ble_eq_true rfl)
  simp (disch := omega) only [↓ev_rn, ↓ev_aload_0, ↓ev_aload_0N, ↓ev_aload_1, ↓ev_aload_1N, ↓ev_callv_2, ↓ev_getfield_1, ↓ev_nop, ↓ev_return_, bq_History_prepare_0, bk_History_prepare_0, ↓reduceIte, false_and, and_false, List.not_mem_nil, List.mem_cons, or_false, or_true, true_or, false_or, Nat.reduceEqDiff, ab_ac, ab_ar, Nat.reduceSub, Nat.reduceLeDiff, Nat.reduceAdd, Nat.reduceLT, Int.cast_ofNat_Int, Int.ofNat_toNat, Int.toNat_natCast, ii_0, ii_1, ii_add, ii_sub, ii_mul, ii_neg, ii_lt, ii_le, ii_eq, ii_cl, ii_in, dc_lt_t, dc_lt_f, dc_le_t, dc_le_f, dc_eq_t, dc_eq_f, dn_lt_t, dn_le_t, dn_eq_t, dn_eq_f, hi_1, hi_2, and_self, Option.isSome_none, Option.isSome_some, Bool.false_eq_true, ii_s, ii_m, ii_mn, ii_2, st1_, st1_i, st1_r, st1_ii, st1_ir, st1_ri, st1_rr, st1_iii, st1_iir, st1_iri, st1_irr, st1_rii, st1_rir, st1_rri, st1_rrr, st1_iiii, st1_iiir, st1_iiri, st1_iirr, st1_irii, st1_irir, st1_irri, st1_irrr, st1_riii, st1_riir, st1_riri, st1_rirr, st1_rrii, st1_rrir, st1_rrri, st1_rrrr, st1_iiiii, st1_iiiir, st1_iiiri, st1_iiirr, st1_iirii, st1_iirir, st1_iirri, st1_iirrr, st1_iriii, st1_iriir, st1_iriri, st1_irirr, st1_irrii, st1_irrir, st1_irrri, st1_irrrr, st1_riiii, st1_riiir, st1_riiri, st1_riirr, st1_ririi, st1_ririr, st1_rirri, st1_rirrr, st1_rriii, st1_rriir, st1_rriri, st1_rrirr, st1_rrrii, st1_rrrir, st1_rrrri, st1_rrrrr, Option.toList_some, Option.toList_none, List.cons_append, List.nil_append, true_and, and_true, true_implies, false_implies, not_true_eq_false, not_false_eq_true, implies_true, eq_self]
  refine hq h' e1 ⟨⟨?_, ?_, ?_, h4, fun i s' hs => ?_⟩, by rw [e1]; exact e2⟩ (fun k hk => e3 k (by omega))
  · rw [e1]; exact h1
  · rw [e1]; exact h2
  · rw [e3 51 (by omega)]; exact h3
  · rw [e1]
    have hi : i < H.length := (List.getElem?_eq_some_iff.mp hs).1
    have n1 := h1 (i + 1) (by omega)
    obtain ⟨n2, n3, n4⟩ := hs_st _ n1
    have ne : h.2 51 0 ≠ h.2 51 (i + 1) := fun q => by have := h2 0 (i + 1) (by omega) (by omega) q; omega
    have := hs_apart _ m0 _ n1 ne
    exact (h5 i s' hs).frame (fun k k1 k2 => e3 k (by omega))
def hi_keep (s : St) (H : List St) : List St := (s :: H).take 4
set_option maxRecDepth 100000 in
set_option maxHeartbeats 4000000 in
theorem sp_History_keep {z : Int} {s : St} {H : List St} {h : ab_H} {Q : Option Value → ab_H → Prop} (hF : sp_F h) (hH : sp_Hp h H s) (z1 : -2147483648 ≤ z) (z2 : z < 2147483648)
    (hq : ∀ h', sp_F h' → (∀ k, k ≠ 51 → h'.2 k = h.2 k ∧ h'.1 k = h.1 k) → sp_Hi h' (if 0 ≤ z then hi_keep s H else H) → Q (some (.int (Int32.ofInt z))) h') : ab_C 1 yn_History_keep 192 [.ref 51, .int (Int32.ofInt z)] h Q := by
  refine ab_of ⟨Nat.le_of_ble_eq_true rfl, Nat.le_of_ble_eq_true rfl⟩ (by simp [Value.category]) (Nat.le_of_ble_eq_true rfl) ?_
  show ab_W 1 yn_History_keep 0 192 0 0 [some (.ref 51), some (.int (Int32.ofInt z)), none] [] h Q
  have s51 : ab_sh 51 = 3 := by decide +kernel
  obtain ⟨⟨h1, h2, h3, h4, h5⟩, h6⟩ := id hH
  obtain ⟨-, m00, m01⟩ := hs_st _ (h1 0 (by omega))
  obtain ⟨-, m10, m11⟩ := hs_st _ (h1 1 (by omega))
  obtain ⟨-, m20, m21⟩ := hs_st _ (h1 2 (by omega))
  obtain ⟨-, m30, m31⟩ := hs_st _ (h1 3 (by omega))
  obtain ⟨-, m40, m41⟩ := hs_st _ (h1 4 (by omega))
  refine ab_go [] 12 bo_History_keep ?_
  by_cases c : 0 ≤ z
  rotate_left
  · simp (disch := omega) only [↓ev_rn, ↓ev_aload_0, ↓ev_aload_0N, ↓ev_aload_2, ↓ev_aload_2N, ↓ev_astore_2, ↓ev_astore_2N, ↓ev_getfield_0, ↓ev_getfield_1, ↓ev_iadd, ↓ev_iconst, ↓ev_if_lt, ↓ev_iload_1, ↓ev_ireturn_0, ↓ev_mmin, ↓ev_nop, ↓ev_putfield_0, ↓ev_putfield_1, bq_History_keep_0, bk_History_keep_0, bq_History_keep_60, bk_History_keep_60, ↓reduceIte, false_and, and_false, List.not_mem_nil, List.mem_cons, or_false, or_true, true_or, false_or, Nat.reduceEqDiff, ab_ac, ab_ar, Nat.reduceSub, Nat.reduceLeDiff, Nat.reduceAdd, Nat.reduceLT, Int.cast_ofNat_Int, Int.ofNat_toNat, Int.toNat_natCast, ii_0, ii_1, ii_add, ii_sub, ii_mul, ii_neg, ii_lt, ii_le, ii_eq, ii_cl, ii_in, dc_lt_t, dc_lt_f, dc_le_t, dc_le_f, dc_eq_t, dc_eq_f, dn_lt_t, dn_le_t, dn_eq_t, dn_eq_f, hi_1, hi_2, and_self, Option.isSome_none, Option.isSome_some, Bool.false_eq_true, ii_s, ii_m, ii_mn, ii_2, st1_, st1_i, st1_r, st1_ii, st1_ir, st1_ri, st1_rr, st1_iii, st1_iir, st1_iri, st1_irr, st1_rii, st1_rir, st1_rri, st1_rrr, st1_iiii, st1_iiir, st1_iiri, st1_iirr, st1_irii, st1_irir, st1_irri, st1_irrr, st1_riii, st1_riir, st1_riri, st1_rirr, st1_rrii, st1_rrir, st1_rrri, st1_rrrr, st1_iiiii, st1_iiiir, st1_iiiri, st1_iiirr, st1_iirii, st1_iirir, st1_iirri, st1_iirrr, st1_iriii, st1_iriir, st1_iriri, st1_irirr, st1_irrii, st1_irrir, st1_irrri, st1_irrrr, st1_riiii, st1_riiir, st1_riiri, st1_riirr, st1_ririi, st1_ririr, st1_rirri, st1_rirrr, st1_rriii, st1_rriir, st1_rriri, st1_rrirr, st1_rrrii, st1_rrrir, st1_rrrri, st1_rrrrr, Option.toList_some, Option.toList_none, List.cons_append, List.nil_append, true_and, and_true, true_implies, false_implies, not_true_eq_false, not_false_eq_true, implies_true, eq_self]
    have g := hq h hF (fun _ _ => ⟨rfl, rfl⟩)
    rw [if_neg c] at g
    exact g hH.1
  simp (disch := omega) only [↓ev_rn, ↓ev_aload_0, ↓ev_aload_0N, ↓ev_aload_2, ↓ev_aload_2N, ↓ev_astore_2, ↓ev_astore_2N, ↓ev_getfield_0, ↓ev_getfield_1, ↓ev_iadd, ↓ev_iconst, ↓ev_if_lt, ↓ev_iload_1, ↓ev_ireturn_0, ↓ev_mmin, ↓ev_nop, ↓ev_putfield_0, ↓ev_putfield_1, bq_History_keep_0, bk_History_keep_0, bq_History_keep_60, bk_History_keep_60, ↓reduceIte, false_and, and_false, List.not_mem_nil, List.mem_cons, or_false, or_true, true_or, false_or, Nat.reduceEqDiff, ab_ac, ab_ar, Nat.reduceSub, Nat.reduceLeDiff, Nat.reduceAdd, Nat.reduceLT, Int.cast_ofNat_Int, Int.ofNat_toNat, Int.toNat_natCast, ii_0, ii_1, ii_add, ii_sub, ii_mul, ii_neg, ii_lt, ii_le, ii_eq, ii_cl, ii_in, dc_lt_t, dc_lt_f, dc_le_t, dc_le_f, dc_eq_t, dc_eq_f, dn_lt_t, dn_le_t, dn_eq_t, dn_eq_f, hi_1, hi_2, and_self, Option.isSome_none, Option.isSome_some, Bool.false_eq_true, ii_s, ii_m, ii_mn, ii_2, st1_, st1_i, st1_r, st1_ii, st1_ir, st1_ri, st1_rr, st1_iii, st1_iir, st1_iri, st1_irr, st1_rii, st1_rir, st1_rri, st1_rrr, st1_iiii, st1_iiir, st1_iiri, st1_iirr, st1_irii, st1_irir, st1_irri, st1_irrr, st1_riii, st1_riir, st1_riri, st1_rirr, st1_rrii, st1_rrir, st1_rrri, st1_rrrr, st1_iiiii, st1_iiiir, st1_iiiri, st1_iiirr, st1_iirii, st1_iirir, st1_iirri, st1_iirrr, st1_iriii, st1_iriir, st1_iriri, st1_irirr, st1_irrii, st1_irrir, st1_irrri, st1_irrrr, st1_riiii, st1_riiir, st1_riiri, st1_riirr, st1_ririi, st1_ririr, st1_rirri, st1_rirrr, st1_rriii, st1_rriir, st1_rriri, st1_rrirr, st1_rrrii, st1_rrrir, st1_rrrri, st1_rrrrr, Option.toList_some, Option.toList_none, List.cons_append, List.nil_append, true_and, and_true, true_implies, false_implies, not_true_eq_false, not_false_eq_true, implies_true, eq_self, s51, hr_1, hr_2, h3]
  generalize hh : ab_hi (ab_hr (ab_hr (ab_hr (ab_hr (ab_hr h 51 4 (h.2 51 3)) 51 3 (h.2 51 2)) 51 2 (h.2 51 1)) 51 1 (h.2 51 0)) 51 0 (h.2 51 4)) 51 5 (if (4 : Int) < ((H.length + 1 : Nat) : Int) then Int32.ofInt 4 else Int32.ofInt ((H.length + 1 : Nat) : Int)) = h'
  have hF' : sp_F h' := by rw [← hh]; exact hF.hr51.hr51.hr51.hr51.hr51
  have f0 : h'.2 51 0 = h.2 51 4 := by rw [← hh]; rfl
  have f1 : h'.2 51 1 = h.2 51 0 := by rw [← hh]; rfl
  have f2 : h'.2 51 2 = h.2 51 1 := by rw [← hh]; rfl
  have f3 : h'.2 51 3 = h.2 51 2 := by rw [← hh]; rfl
  have f4 : h'.2 51 4 = h.2 51 3 := by rw [← hh]; rfl
  have fi : h'.1 51 5 = (if (4 : Int) < ((H.length + 1 : Nat) : Int) then Int32.ofInt 4 else Int32.ofInt ((H.length + 1 : Nat) : Int)) := by rw [← hh]; rfl
  have fr : ∀ k, k ≠ 51 → h'.2 k = h.2 k ∧ h'.1 k = h.1 k := fun k hk => by
    rw [← hh]
    refine ⟨?_, ?_⟩
    · funext j; simp (disch := omega) only [hi_2, hr_2, ↓reduceIte, false_and, and_false, List.not_mem_nil, List.mem_cons, or_false, or_true, true_or, false_or, Nat.reduceEqDiff, ab_ac, ab_ar, Nat.reduceSub, Nat.reduceLeDiff, Nat.reduceAdd, Nat.reduceLT, Int.cast_ofNat_Int, Int.ofNat_toNat, Int.toNat_natCast, ii_0, ii_1, ii_add, ii_sub, ii_mul, ii_neg, ii_lt, ii_le, ii_eq, ii_cl, ii_in, dc_lt_t, dc_lt_f, dc_le_t, dc_le_f, dc_eq_t, dc_eq_f, dn_lt_t, dn_le_t, dn_eq_t, dn_eq_f, hi_1, hi_2, and_self, Option.isSome_none, Option.isSome_some, Bool.false_eq_true, ii_s, ii_m, ii_mn, ii_2, st1_, st1_i, st1_r, st1_ii, st1_ir, st1_ri, st1_rr, st1_iii, st1_iir, st1_iri, st1_irr, st1_rii, st1_rir, st1_rri, st1_rrr, st1_iiii, st1_iiir, st1_iiri, st1_iirr, st1_irii, st1_irir, st1_irri, st1_irrr, st1_riii, st1_riir, st1_riri, st1_rirr, st1_rrii, st1_rrir, st1_rrri, st1_rrrr, st1_iiiii, st1_iiiir, st1_iiiri, st1_iiirr, st1_iirii, st1_iirir, st1_iirri, st1_iirrr, st1_iriii, st1_iriir, st1_iriri, st1_irirr, st1_irrii, st1_irrir, st1_irrri, st1_irrrr, st1_riiii, st1_riiir, st1_riiri, st1_riirr, st1_ririi, st1_ririr, st1_rirri, st1_rirrr, st1_rriii, st1_rriir, st1_rriri, st1_rrirr, st1_rrrii, st1_rrrir, st1_rrrri, st1_rrrrr, Option.toList_some, Option.toList_none, List.cons_append, List.nil_append, true_and, and_true, true_implies, false_implies, not_true_eq_false, not_false_eq_true, implies_true, eq_self, hk]
    · funext j; simp (disch := omega) only [hr_1, ↓reduceIte, false_and, and_false, List.not_mem_nil, List.mem_cons, or_false, or_true, true_or, false_or, Nat.reduceEqDiff, ab_ac, ab_ar, Nat.reduceSub, Nat.reduceLeDiff, Nat.reduceAdd, Nat.reduceLT, Int.cast_ofNat_Int, Int.ofNat_toNat, Int.toNat_natCast, ii_0, ii_1, ii_add, ii_sub, ii_mul, ii_neg, ii_lt, ii_le, ii_eq, ii_cl, ii_in, dc_lt_t, dc_lt_f, dc_le_t, dc_le_f, dc_eq_t, dc_eq_f, dn_lt_t, dn_le_t, dn_eq_t, dn_eq_f, hi_1, hi_2, and_self, Option.isSome_none, Option.isSome_some, Bool.false_eq_true, ii_s, ii_m, ii_mn, ii_2, st1_, st1_i, st1_r, st1_ii, st1_ir, st1_ri, st1_rr, st1_iii, st1_iir, st1_iri, st1_irr, st1_rii, st1_rir, st1_rri, st1_rrr, st1_iiii, st1_iiir, st1_iiri, st1_iirr, st1_irii, st1_irir, st1_irri, st1_irrr, st1_riii, st1_riir, st1_riri, st1_rirr, st1_rrii, st1_rrir, st1_rrri, st1_rrrr, st1_iiiii, st1_iiiir, st1_iiiri, st1_iiirr, st1_iirii, st1_iirir, st1_iirri, st1_iirrr, st1_iriii, st1_iriir, st1_iriri, st1_irirr, st1_irrii, st1_irrir, st1_irrri, st1_irrrr, st1_riiii, st1_riiir, st1_riiri, st1_riirr, st1_ririi, st1_ririr, st1_rirri, st1_rirrr, st1_rriii, st1_rriir, st1_rriri, st1_rrirr, st1_rrrii, st1_rrrir, st1_rrrri, st1_rrrrr, Option.toList_some, Option.toList_none, List.cons_append, List.nil_append, true_and, and_true, true_implies, false_implies, not_true_eq_false, not_false_eq_true, implies_true, eq_self, hk]
  have g := hq h' hF' fr
  rw [if_pos c] at g
  refine g ⟨fun i hi => ?_, fun i j hi hj e => ?_, ?_, ?_, fun i s' hs => ?_⟩
  · rcases (show i = 0 ∨ i = 1 ∨ i = 2 ∨ i = 3 ∨ i = 4 by omega) with rfl | rfl | rfl | rfl | rfl
    · rw [f0]; exact h1 4 (by omega)
    · rw [f1]; exact h1 0 (by omega)
    · rw [f2]; exact h1 1 (by omega)
    · rw [f3]; exact h1 2 (by omega)
    · rw [f4]; exact h1 3 (by omega)
  · have key : ∀ i, i < 5 → h'.2 51 i = h.2 51 ((i + 4) % 5) := fun i hi => by
      rcases (show i = 0 ∨ i = 1 ∨ i = 2 ∨ i = 3 ∨ i = 4 by omega) with rfl | rfl | rfl | rfl | rfl
      · exact f0
      · exact f1
      · exact f2
      · exact f3
      · exact f4
    rw [key i hi, key j hj] at e
    have := h2 _ _ (by omega) (by omega) e
    omega
  · rw [fi]
    unfold hi_keep
    rw [List.length_take, List.length_cons]
    by_cases c2 : H.length + 1 ≤ 4
    · rw [if_neg (by omega), Nat.min_eq_right c2]
    · rw [if_pos (by omega), Nat.min_eq_left (by omega)]; rfl
  · unfold hi_keep; rw [List.length_take]; omega
  · unfold hi_keep at hs
    have hi : i < 4 := by
      have := (List.getElem?_eq_some_iff.mp hs).1
      rw [List.length_take] at this; omega
    rw [List.getElem?_take_of_lt hi] at hs
    have same : ∀ x, x ∈ ab_hs → ∀ s', sp_St h.1 x s' → sp_St h'.1 x s' := fun x hx s' e => by
      obtain ⟨-, q1, q2⟩ := hs_st x hx
      exact e.frame (fun k k1 k2 => (fr k (by omega)).2)
    cases i with
    | zero =>
      rw [List.getElem?_cons_zero] at hs
      cases hs
      rw [f1]
      exact same _ (h1 0 (by omega)) _ h6
    | succ i =>
      rw [List.getElem?_cons_succ] at hs
      have e : h'.2 51 (i + 1 + 1) = h.2 51 (i + 1) := by
        rcases (show i = 0 ∨ i = 1 ∨ i = 2 by omega) with rfl | rfl | rfl
        · exact f2
        · exact f3
        · exact f4
      rw [e]
      exact same _ (h1 (i + 1) (by omega)) _ (h5 i s' hs)
set_option maxRecDepth 100000 in
set_option maxHeartbeats 4000000 in
theorem sp_History_restore {s : St} {H : List St} {h : ab_H} {Q : Option Value → ab_H → Prop} (hF : sp_F h) (hH : sp_Hi h (s :: H))
    (hq : ∀ h', sp_F h' → (∀ k, k ≠ 51 → h'.2 k = h.2 k) → sp_Hi h' H → sp_St h'.1 1 s → (∀ k, (k < 1 ∨ 26 ≤ k) → k ≠ 51 → h'.1 k = h.1 k) → Q none h') : ab_C 4 yn_History_restore 192 [.ref 51, .ref 1] h Q := by
  refine ab_of ⟨Nat.le_of_ble_eq_true rfl, Nat.le_of_ble_eq_true rfl⟩ (by simp [Value.category]) (Nat.le_of_ble_eq_true rfl) ?_
  show ab_W 4 yn_History_restore 0 192 0 0 [some (.ref 51), some (.ref 1), none] [] h Q
  have s51 : ab_sh 51 = 3 := by decide +kernel
  have s1 : ab_sh 1 = 6 := by decide +kernel
  obtain ⟨h1, h2, h3, h4, h5⟩ := id hH
  rw [List.length_cons] at h3 h4
  obtain ⟨m1s, m10, m11⟩ := hs_st _ (h1 1 (by omega))
  refine ab_go [] 12 bo_History_restore ?_
  simp (disch := omega) only [↓ev_rn, ↓ev_aload_0, ↓ev_aload_0N, ↓ev_aload_1, ↓ev_aload_1N, ↓ev_aload_2, ↓ev_aload_2N, ↓ev_astore_2, ↓ev_astore_2N, ↓ev_callv_2, ↓ev_dup_i, ↓ev_dup_r, ↓ev_getfield_0, ↓ev_getfield_1, ↓ev_iconst, ↓ev_isub, ↓ev_nop, ↓ev_putfield_0, ↓ev_putfield_1, ↓ev_return_, bq_History_restore_0, bk_History_restore_0, ↓reduceIte, false_and, and_false, List.not_mem_nil, List.mem_cons, or_false, or_true, true_or, false_or, Nat.reduceEqDiff, ab_ac, ab_ar, Nat.reduceSub, Nat.reduceLeDiff, Nat.reduceAdd, Nat.reduceLT, Int.cast_ofNat_Int, Int.ofNat_toNat, Int.toNat_natCast, ii_0, ii_1, ii_add, ii_sub, ii_mul, ii_neg, ii_lt, ii_le, ii_eq, ii_cl, ii_in, dc_lt_t, dc_lt_f, dc_le_t, dc_le_f, dc_eq_t, dc_eq_f, dn_lt_t, dn_le_t, dn_eq_t, dn_eq_f, hi_1, hi_2, and_self, Option.isSome_none, Option.isSome_some, Bool.false_eq_true, ii_s, ii_m, ii_mn, ii_2, st1_, st1_i, st1_r, st1_ii, st1_ir, st1_ri, st1_rr, st1_iii, st1_iir, st1_iri, st1_irr, st1_rii, st1_rir, st1_rri, st1_rrr, st1_iiii, st1_iiir, st1_iiri, st1_iirr, st1_irii, st1_irir, st1_irri, st1_irrr, st1_riii, st1_riir, st1_riri, st1_rirr, st1_rrii, st1_rrir, st1_rrri, st1_rrrr, st1_iiiii, st1_iiiir, st1_iiiri, st1_iiirr, st1_iirii, st1_iirir, st1_iirri, st1_iirrr, st1_iriii, st1_iriir, st1_iriri, st1_irirr, st1_irrii, st1_irrir, st1_irrri, st1_irrrr, st1_riiii, st1_riiir, st1_riiri, st1_riirr, st1_ririi, st1_ririr, st1_rirri, st1_rirrr, st1_rriii, st1_rriir, st1_rriri, st1_rrirr, st1_rrrii, st1_rrrir, st1_rrrri, st1_rrrrr, Option.toList_some, Option.toList_none, List.cons_append, List.nil_append, true_and, and_true, true_implies, false_implies, not_true_eq_false, not_false_eq_true, implies_true, eq_self, s51, s1]
  refine ab_C.up (d := 3) (sp_State_copyFrom hF (by decide +kernel) m1s (by omega) (h5 0 s rfl) (fun h' e1 e2 e3 => ?_)) (Nat.le_of_ble_eq_true rfl)
  have k1 : ∀ i, i < 5 → h'.2 51 i ∈ ab_hs := by rw [e1]; exact h1
  obtain ⟨-, m00, m01⟩ := hs_st _ (k1 0 (by omega))
  obtain ⟨-, n10, n11⟩ := hs_st _ (k1 1 (by omega))
  obtain ⟨-, m20, m21⟩ := hs_st _ (k1 2 (by omega))
  obtain ⟨-, m30, m31⟩ := hs_st _ (k1 3 (by omega))
  obtain ⟨-, m40, m41⟩ := hs_st _ (k1 4 (by omega))
  have k3 : h'.1 51 5 = Int32.ofInt ((H.length + 1 : Nat) : Int) := by rw [e3 51 (by omega)]; exact h3
  simp (disch := omega) only [↓ev_rn, ↓ev_aload_0, ↓ev_aload_0N, ↓ev_aload_1, ↓ev_aload_1N, ↓ev_aload_2, ↓ev_aload_2N, ↓ev_astore_2, ↓ev_astore_2N, ↓ev_callv_2, ↓ev_dup_i, ↓ev_dup_r, ↓ev_getfield_0, ↓ev_getfield_1, ↓ev_iconst, ↓ev_isub, ↓ev_nop, ↓ev_putfield_0, ↓ev_putfield_1, ↓ev_return_, bq_History_restore_0, bk_History_restore_0, ↓reduceIte, false_and, and_false, List.not_mem_nil, List.mem_cons, or_false, or_true, true_or, false_or, Nat.reduceEqDiff, ab_ac, ab_ar, Nat.reduceSub, Nat.reduceLeDiff, Nat.reduceAdd, Nat.reduceLT, Int.cast_ofNat_Int, Int.ofNat_toNat, Int.toNat_natCast, ii_0, ii_1, ii_add, ii_sub, ii_mul, ii_neg, ii_lt, ii_le, ii_eq, ii_cl, ii_in, dc_lt_t, dc_lt_f, dc_le_t, dc_le_f, dc_eq_t, dc_eq_f, dn_lt_t, dn_le_t, dn_eq_t, dn_eq_f, hi_1, hi_2, and_self, Option.isSome_none, Option.isSome_some, Bool.false_eq_true, ii_s, ii_m, ii_mn, ii_2, st1_, st1_i, st1_r, st1_ii, st1_ir, st1_ri, st1_rr, st1_iii, st1_iir, st1_iri, st1_irr, st1_rii, st1_rir, st1_rri, st1_rrr, st1_iiii, st1_iiir, st1_iiri, st1_iirr, st1_irii, st1_irir, st1_irri, st1_irrr, st1_riii, st1_riir, st1_riri, st1_rirr, st1_rrii, st1_rrir, st1_rrri, st1_rrrr, st1_iiiii, st1_iiiir, st1_iiiri, st1_iiirr, st1_iirii, st1_iirir, st1_iirri, st1_iirrr, st1_iriii, st1_iriir, st1_iriri, st1_irirr, st1_irrii, st1_irrir, st1_irrri, st1_irrrr, st1_riiii, st1_riiir, st1_riiri, st1_riirr, st1_ririi, st1_ririr, st1_rirri, st1_rirrr, st1_rriii, st1_rriir, st1_rriri, st1_rrirr, st1_rrrii, st1_rrrir, st1_rrrri, st1_rrrrr, Option.toList_some, Option.toList_none, List.cons_append, List.nil_append, true_and, and_true, true_implies, false_implies, not_true_eq_false, not_false_eq_true, implies_true, eq_self, s51, hr_1, hr_2, k3]
  generalize hh : ab_hi (ab_hr (ab_hr (ab_hr (ab_hr (ab_hr h' 51 1 (h'.2 51 2)) 51 2 (h'.2 51 3)) 51 3 (h'.2 51 4)) 51 4 (h'.2 51 0)) 51 0 (h.2 51 1)) 51 5 (Int32.ofInt H.length) = h3'
  have hF3 : sp_F h3' := by rw [← hh]; exact (hF.of e1).hr51.hr51.hr51.hr51.hr51
  have f0 : h3'.2 51 0 = h.2 51 1 := by rw [← hh]; rfl
  have f1 : h3'.2 51 1 = h.2 51 2 := by rw [← hh, ← e1]; rfl
  have f2 : h3'.2 51 2 = h.2 51 3 := by rw [← hh, ← e1]; rfl
  have f3 : h3'.2 51 3 = h.2 51 4 := by rw [← hh, ← e1]; rfl
  have f4 : h3'.2 51 4 = h.2 51 0 := by rw [← hh, ← e1]; rfl
  have fi : h3'.1 51 5 = Int32.ofInt H.length := by rw [← hh]; rfl
  have fr : ∀ k, k ≠ 51 → h3'.2 k = h.2 k ∧ h3'.1 k = h'.1 k := fun k hk => by
    rw [← hh, ← e1]
    refine ⟨?_, ?_⟩
    · funext j; simp (disch := omega) only [hi_2, hr_2, ↓reduceIte, false_and, and_false, List.not_mem_nil, List.mem_cons, or_false, or_true, true_or, false_or, Nat.reduceEqDiff, ab_ac, ab_ar, Nat.reduceSub, Nat.reduceLeDiff, Nat.reduceAdd, Nat.reduceLT, Int.cast_ofNat_Int, Int.ofNat_toNat, Int.toNat_natCast, ii_0, ii_1, ii_add, ii_sub, ii_mul, ii_neg, ii_lt, ii_le, ii_eq, ii_cl, ii_in, dc_lt_t, dc_lt_f, dc_le_t, dc_le_f, dc_eq_t, dc_eq_f, dn_lt_t, dn_le_t, dn_eq_t, dn_eq_f, hi_1, hi_2, and_self, Option.isSome_none, Option.isSome_some, Bool.false_eq_true, ii_s, ii_m, ii_mn, ii_2, st1_, st1_i, st1_r, st1_ii, st1_ir, st1_ri, st1_rr, st1_iii, st1_iir, st1_iri, st1_irr, st1_rii, st1_rir, st1_rri, st1_rrr, st1_iiii, st1_iiir, st1_iiri, st1_iirr, st1_irii, st1_irir, st1_irri, st1_irrr, st1_riii, st1_riir, st1_riri, st1_rirr, st1_rrii, st1_rrir, st1_rrri, st1_rrrr, st1_iiiii, st1_iiiir, st1_iiiri, st1_iiirr, st1_iirii, st1_iirir, st1_iirri, st1_iirrr, st1_iriii, st1_iriir, st1_iriri, st1_irirr, st1_irrii, st1_irrir, st1_irrri, st1_irrrr, st1_riiii, st1_riiir, st1_riiri, st1_riirr, st1_ririi, st1_ririr, st1_rirri, st1_rirrr, st1_rriii, st1_rriir, st1_rriri, st1_rrirr, st1_rrrii, st1_rrrir, st1_rrrri, st1_rrrrr, Option.toList_some, Option.toList_none, List.cons_append, List.nil_append, true_and, and_true, true_implies, false_implies, not_true_eq_false, not_false_eq_true, implies_true, eq_self, hk]
    · funext j; simp (disch := omega) only [hr_1, ↓reduceIte, false_and, and_false, List.not_mem_nil, List.mem_cons, or_false, or_true, true_or, false_or, Nat.reduceEqDiff, ab_ac, ab_ar, Nat.reduceSub, Nat.reduceLeDiff, Nat.reduceAdd, Nat.reduceLT, Int.cast_ofNat_Int, Int.ofNat_toNat, Int.toNat_natCast, ii_0, ii_1, ii_add, ii_sub, ii_mul, ii_neg, ii_lt, ii_le, ii_eq, ii_cl, ii_in, dc_lt_t, dc_lt_f, dc_le_t, dc_le_f, dc_eq_t, dc_eq_f, dn_lt_t, dn_le_t, dn_eq_t, dn_eq_f, hi_1, hi_2, and_self, Option.isSome_none, Option.isSome_some, Bool.false_eq_true, ii_s, ii_m, ii_mn, ii_2, st1_, st1_i, st1_r, st1_ii, st1_ir, st1_ri, st1_rr, st1_iii, st1_iir, st1_iri, st1_irr, st1_rii, st1_rir, st1_rri, st1_rrr, st1_iiii, st1_iiir, st1_iiri, st1_iirr, st1_irii, st1_irir, st1_irri, st1_irrr, st1_riii, st1_riir, st1_riri, st1_rirr, st1_rrii, st1_rrir, st1_rrri, st1_rrrr, st1_iiiii, st1_iiiir, st1_iiiri, st1_iiirr, st1_iirii, st1_iirir, st1_iirri, st1_iirrr, st1_iriii, st1_iriir, st1_iriri, st1_irirr, st1_irrii, st1_irrir, st1_irrri, st1_irrrr, st1_riiii, st1_riiir, st1_riiri, st1_riirr, st1_ririi, st1_ririr, st1_rirri, st1_rirrr, st1_rriii, st1_rriir, st1_rriri, st1_rrirr, st1_rrrii, st1_rrrir, st1_rrrri, st1_rrrrr, Option.toList_some, Option.toList_none, List.cons_append, List.nil_append, true_and, and_true, true_implies, false_implies, not_true_eq_false, not_false_eq_true, implies_true, eq_self, hk]
  refine hq h3' hF3 (fun k hk => (fr k hk).1) ⟨fun i hi => ?_, fun i j hi hj e => ?_, fi, by omega, fun i s' hs => ?_⟩ (e2.frame (fun k k1 k2 => (fr k (by omega)).2)) (fun k hk hk2 => ((fr k hk2).2).trans (e3 k (by omega)))
  · rcases (show i = 0 ∨ i = 1 ∨ i = 2 ∨ i = 3 ∨ i = 4 by omega) with rfl | rfl | rfl | rfl | rfl
    · rw [f0]; exact h1 1 (by omega)
    · rw [f1]; exact h1 2 (by omega)
    · rw [f2]; exact h1 3 (by omega)
    · rw [f3]; exact h1 4 (by omega)
    · rw [f4]; exact h1 0 (by omega)
  · have key : ∀ i, i < 5 → h3'.2 51 i = h.2 51 ((i + 1) % 5) := fun i hi => by
      rcases (show i = 0 ∨ i = 1 ∨ i = 2 ∨ i = 3 ∨ i = 4 by omega) with rfl | rfl | rfl | rfl | rfl
      · exact f0
      · exact f1
      · exact f2
      · exact f3
      · exact f4
    rw [key i hi, key j hj] at e
    have := h2 _ _ (by omega) (by omega) e
    omega
  · have hi : i < H.length := (List.getElem?_eq_some_iff.mp hs).1
    have e : h3'.2 51 (i + 1) = h.2 51 (i + 1 + 1) := by
      rcases (show i = 0 ∨ i = 1 ∨ i = 2 by omega) with rfl | rfl | rfl
      · exact f1
      · exact f2
      · exact f3
    rw [e]
    obtain ⟨-, q1, q2⟩ := hs_st _ (h1 (i + 1 + 1) (by omega))
    exact (h5 (i + 1) s' hs).frame (fun k k1 k2 => ((fr k (by omega)).2).trans (e3 k (by omega)))
