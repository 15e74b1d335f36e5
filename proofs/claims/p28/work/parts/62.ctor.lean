/-! ===== the constructors ===== -/
theorem hi_o {h : ab_H} {k i a : Nat} {v : Int32} (e : a ≠ k) : (ab_hi h k i v).1 a = h.1 a := by
  funext j; rw [hi_1, if_neg (fun q => e q.1)]
theorem hn_1 {h : ab_H} {k a j : Nat} : (ab_hn h k).1 a j = if a = k then 0 else h.1 a j := rfl
theorem hn_2 {h : ab_H} {k a j : Nat} : (ab_hn h k).2 a j = if a = k then ab_nul else h.2 a j := rfl
theorem hr_o {h : ab_H} {k i r a : Nat} (e : a ≠ k) : (ab_hr h k i r).2 a = h.2 a := by
  funext j; rw [hr_2, if_neg (fun q => e q.1)]
theorem hn_o {h : ab_H} {k a : Nat} (e : a ≠ k) : (ab_hn h k).1 a = h.1 a ∧ (ab_hn h k).2 a = h.2 a := by
  refine ⟨?_, ?_⟩
  · funext j; rw [hn_1, if_neg e]
  · funext j; rw [hn_2, if_neg e]
def sp_refs (h : ab_H) (l : List (Nat × Nat × Nat)) : Prop := ∀ q ∈ l, h.2 q.1 q.2.1 = q.2.2
def nm_fr (a : Nat) : List (Nat × Nat × Nat) := [(a, 0, a + 1), (a, 1, a + 2)]
def bk_fr (a : Nat) : List (Nat × Nat × Nat) := [(a, 0, a + 1), (a, 1, a + 2), (a, 2, a + 3), (a, 3, a + 4)]
/-- cells from a to b alone are changed -/
def sp_fx (a b : Nat) (h h' : ab_H) : Prop := ∀ k, (k < a ∨ b ≤ k) → h'.1 k = h.1 k ∧ h'.2 k = h.2 k
theorem sp_fx.rf {a b : Nat} {h : ab_H} : sp_fx a b h h := fun _ _ => ⟨rfl, rfl⟩
theorem sp_fx.tr {a b : Nat} {h h1 h2 : ab_H} (x : sp_fx a b h h1) (y : sp_fx a b h1 h2) : sp_fx a b h h2 := fun k hk => ⟨(y k hk).1.trans (x k hk).1, (y k hk).2.trans (x k hk).2⟩
theorem sp_fx.up {a b c d : Nat} {h h1 : ab_H} (x : sp_fx a b h h1) (h1' : c ≤ a) (h2 : b ≤ d) : sp_fx c d h h1 := fun k hk => x k (by omega)
theorem sp_fx.n {a b k : Nat} {h h1 : ab_H} (x : sp_fx a b h h1) (hk : a ≤ k ∧ k < b) : sp_fx a b h (ab_hn h1 k) := x.tr fun j hj => hn_o (by omega)
theorem sp_fx.r {a b k i r : Nat} {h h1 : ab_H} (x : sp_fx a b h h1) (hk : a ≤ k ∧ k < b) : sp_fx a b h (ab_hr h1 k i r) := x.tr fun j hj => ⟨rfl, hr_o (by omega)⟩
theorem sp_fx.i {a b k i : Nat} {v : Int32} {h h1 : ab_H} (x : sp_fx a b h h1) (hk : a ≤ k ∧ k < b) : sp_fx a b h (ab_hi h1 k i v) := x.tr fun j hj => ⟨hi_o (by omega), rfl⟩
theorem sp_refs.fx {a b : Nat} {h h' : ab_H} {l : List (Nat × Nat × Nat)} (x : sp_refs h l) (f : sp_fx a b h h') (e : ∀ q ∈ l, q.1 < a ∨ b ≤ q.1) : sp_refs h' l := fun q hq => by rw [(f q.1 (e q hq)).2]; exact x q hq
set_option maxRecDepth 100000 in
set_option maxHeartbeats 4000000 in
theorem sp_Names_init {a : Nat} {h : ab_H} {Q : Option Value → ab_H → Prop} (s0 : ab_sh a = 4) (s1 : ab_sh (a + 1) = 116) (s2 : ab_sh (a + 2) = 116) (ha : a < 900)
    (hq : ∀ h', sp_fx a (a + 3) h h' → h'.1 a = h.1 a → sp_refs h' (nm_fr a) → (∀ j, h'.1 (a + 1) j = 0 ∧ h'.1 (a + 2) j = 0) → Q none h') : ab_C 1 yn_Names_init (a + 1) [.ref a] h Q := by
  refine ab_of ⟨Nat.le_of_ble_eq_true rfl, Nat.le_of_ble_eq_true rfl⟩ (by simp [Value.category]) (Nat.le_of_ble_eq_true rfl) ?_
  show ab_W 1 yn_Names_init 0 (a + 1) 2 32 [some (.ref a)] [] h Q
  refine ab_go [] 12 bo_Names_init ?_
  simp -implicitDefEqProofs (disch := omega) only [↓ev_rn, ↓ev_aload_0, ↓ev_aload_0N, ↓ev_bipush, ↓ev_newarray, ↓ev_nop, ↓ev_objinit, ↓ev_putfield_1, ↓ev_return_, bq_Names_init_0, bk_Names_init_0, ↓reduceIte, false_and, and_false, List.not_mem_nil, List.mem_cons, or_false, or_true, true_or, false_or, Nat.reduceEqDiff, ab_ac, ab_ar, Nat.reduceSub, Nat.reduceLeDiff, Nat.reduceAdd, Nat.reduceLT, Int.cast_ofNat_Int, Int.ofNat_toNat, Int.toNat_natCast, ii_0, ii_1, ii_add, ii_sub, ii_mul, ii_neg, ii_lt, ii_le, ii_eq, ii_cl, ii_in, dc_lt_t, dc_lt_f, dc_le_t, dc_le_f, dc_eq_t, dc_eq_f, dn_lt_t, dn_le_t, dn_eq_t, dn_eq_f, hi_1, hi_2, and_self, Option.isSome_none, Option.isSome_some, Bool.false_eq_true, ii_s, ii_m, ii_mn, ii_2, st1_, st1_i, st1_r, st1_ii, st1_ir, st1_ri, st1_rr, st1_iii, st1_iir, st1_iri, st1_irr, st1_rii, st1_rir, st1_rri, st1_rrr, st1_iiii, st1_iiir, st1_iiri, st1_iirr, st1_irii, st1_irir, st1_irri, st1_irrr, st1_riii, st1_riir, st1_riri, st1_rirr, st1_rrii, st1_rrir, st1_rrri, st1_rrrr, st1_iiiii, st1_iiiir, st1_iiiri, st1_iiirr, st1_iirii, st1_iirir, st1_iirri, st1_iirrr, st1_iriii, st1_iriir, st1_iriri, st1_irirr, st1_irrii, st1_irrir, st1_irrri, st1_irrrr, st1_riiii, st1_riiir, st1_riiri, st1_riirr, st1_ririi, st1_ririr, st1_rirri, st1_rirrr, st1_rriii, st1_rriir, st1_rriri, st1_rrirr, st1_rrrii, st1_rrrir, st1_rrrri, st1_rrrrr, Option.toList_some, Option.toList_none, List.cons_append, List.nil_append, true_and, and_true, true_implies, false_implies, not_true_eq_false, not_false_eq_true, implies_true, eq_self, s0, s1, s2, Nat.add_assoc, Int.reduceToNat]
  refine hq _ (((((sp_fx.rf.n (by omega)).r (by omega)).n (by omega)).r (by omega))) ?_ (fun q hq => ?_) (fun j => ⟨?_, ?_⟩)
  · rw [hr_1, (hn_o (by omega)).1, hr_1, (hn_o (by omega)).1]
  · unfold nm_fr at hq
    simp only [List.mem_cons, List.not_mem_nil, or_false] at hq
    rcases hq with rfl | rfl
    · show (ab_hr _ a 1 _).2 a 0 = _
      rw [hr_2, if_neg (by omega), (hn_o (by omega)).2, hr_2, if_pos ⟨rfl, rfl⟩]
    · show (ab_hr _ a 1 _).2 a 1 = _
      rw [hr_2, if_pos ⟨rfl, rfl⟩]
  · rw [hr_1, (hn_o (by omega)).1, hr_1, hn_1, if_pos rfl]
  · rw [hr_1, hn_1, if_pos rfl]
set_option maxRecDepth 100000 in
set_option maxHeartbeats 4000000 in
theorem sp_Book_init {a : Nat} {own : Int32} {h : ab_H} {Q : Option Value → ab_H → Prop} (s0 : ab_sh a = 2) (s1 : ab_sh (a + 1) = 116) (s2 : ab_sh (a + 2) = 132) (s3 : ab_sh (a + 3) = 132) (s4 : ab_sh (a + 4) = 132) (ha : a < 900) (h5 : h.1 a 5 = 0)
    (hq : ∀ h', sp_fx a (a + 5) h h' → sp_refs h' (bk_fr a) → sp_Bk h'.1 a own [] → Q none h') : ab_C 1 yn_Book_init (a + 1) [.ref a, .int own] h Q := by
  refine ab_of ⟨Nat.le_of_ble_eq_true rfl, Nat.le_of_ble_eq_true rfl⟩ (by simp [Value.category]) (Nat.le_of_ble_eq_true rfl) ?_
  show ab_W 1 yn_Book_init 0 (a + 1) 4 112 [some (.ref a), some (.int own)] [] h Q
  refine ab_go [] 12 bo_Book_init ?_
  simp -implicitDefEqProofs (disch := omega) only [↓ev_rn, ↓ev_aload_0, ↓ev_aload_0N, ↓ev_bipush, ↓ev_iload_1, ↓ev_newarray, ↓ev_nop, ↓ev_objinit, ↓ev_putfield_0, ↓ev_putfield_1, ↓ev_return_, bq_Book_init_0, bk_Book_init_0, ↓reduceIte, false_and, and_false, List.not_mem_nil, List.mem_cons, or_false, or_true, true_or, false_or, Nat.reduceEqDiff, ab_ac, ab_ar, Nat.reduceSub, Nat.reduceLeDiff, Nat.reduceAdd, Nat.reduceLT, Int.cast_ofNat_Int, Int.ofNat_toNat, Int.toNat_natCast, ii_0, ii_1, ii_add, ii_sub, ii_mul, ii_neg, ii_lt, ii_le, ii_eq, ii_cl, ii_in, dc_lt_t, dc_lt_f, dc_le_t, dc_le_f, dc_eq_t, dc_eq_f, dn_lt_t, dn_le_t, dn_eq_t, dn_eq_f, hi_1, hi_2, and_self, Option.isSome_none, Option.isSome_some, Bool.false_eq_true, ii_s, ii_m, ii_mn, ii_2, st1_, st1_i, st1_r, st1_ii, st1_ir, st1_ri, st1_rr, st1_iii, st1_iir, st1_iri, st1_irr, st1_rii, st1_rir, st1_rri, st1_rrr, st1_iiii, st1_iiir, st1_iiri, st1_iirr, st1_irii, st1_irir, st1_irri, st1_irrr, st1_riii, st1_riir, st1_riri, st1_rirr, st1_rrii, st1_rrir, st1_rrri, st1_rrrr, st1_iiiii, st1_iiiir, st1_iiiri, st1_iiirr, st1_iirii, st1_iirir, st1_iirri, st1_iirrr, st1_iriii, st1_iriir, st1_iriri, st1_irirr, st1_irrii, st1_irrir, st1_irrri, st1_irrrr, st1_riiii, st1_riiir, st1_riiri, st1_riirr, st1_ririi, st1_ririr, st1_rirri, st1_rirrr, st1_rriii, st1_rriir, st1_rriri, st1_rrirr, st1_rrrii, st1_rrrir, st1_rrrri, st1_rrrrr, Option.toList_some, Option.toList_none, List.cons_append, List.nil_append, true_and, and_true, true_implies, false_implies, not_true_eq_false, not_false_eq_true, implies_true, eq_self, s0, s1, s2, s3, s4, Nat.add_assoc, Int.reduceToNat]
  refine hq _ (((((((((sp_fx.rf.n (by omega)).r (by omega)).n (by omega)).r (by omega)).n (by omega)).r (by omega)).n (by omega)).r (by omega)).i (by omega)) (fun q hq => ?_) ⟨?_, ?_, Nat.zero_le _, fun p hp => absurd hp (Nat.not_lt_zero p), fun q hq => absurd hq (Nat.not_lt_zero q)⟩
  · unfold bk_fr at hq
    simp only [List.mem_cons, List.not_mem_nil, or_false] at hq
    rcases hq with rfl | rfl | rfl | rfl
    · show (ab_hi (ab_hr _ a 3 _) a 4 _).2 a 0 = _
      rw [hi_2, hr_2, if_neg (by omega), (hn_o (by omega)).2, hr_2, if_neg (by omega), (hn_o (by omega)).2, hr_2, if_neg (by omega), (hn_o (by omega)).2, hr_2, if_pos ⟨rfl, rfl⟩]
    · show (ab_hi (ab_hr _ a 3 _) a 4 _).2 a 1 = _
      rw [hi_2, hr_2, if_neg (by omega), (hn_o (by omega)).2, hr_2, if_neg (by omega), (hn_o (by omega)).2, hr_2, if_pos ⟨rfl, rfl⟩]
    · show (ab_hi (ab_hr _ a 3 _) a 4 _).2 a 2 = _
      rw [hi_2, hr_2, if_neg (by omega), (hn_o (by omega)).2, hr_2, if_pos ⟨rfl, rfl⟩]
    · show (ab_hi (ab_hr _ a 3 _) a 4 _).2 a 3 = _
      rw [hi_2, hr_2, if_pos ⟨rfl, rfl⟩]
  · rw [hi_1, if_pos ⟨rfl, rfl⟩]
  · rw [hi_1, if_neg (by omega), hr_1, (hn_o (by omega)).1, hr_1, (hn_o (by omega)).1, hr_1, (hn_o (by omega)).1, hr_1, (hn_o (by omega)).1, h5]; rfl
def s_0 : St := ([], (fun _ => []), (fun _ => 100), 0, 0)
def st_fr (a : Nat) : List (Nat × Nat × Nat) := [(a, 0, a + 1), (a, 1, a + 4), (a, 2, a + 9), (a, 3, a + 14), (a, 4, a + 19), (a, 5, a + 24)] ++ (nm_fr (a + 1) ++ (bk_fr (a + 4) ++ (bk_fr (a + 9) ++ (bk_fr (a + 14) ++ bk_fr (a + 19)))))
/-- the shapes of a state at a -/
def st_shp (a : Nat) : Prop := ab_sh a = 6 ∧ ab_sh (a + 1) = 4 ∧ ab_sh (a + 2) = 116 ∧ ab_sh (a + 3) = 116 ∧ (∀ c, c < 4 → ab_sh (a + 4 + 5 * c) = 2 ∧ ab_sh (a + 4 + 5 * c + 1) = 116 ∧ ab_sh (a + 4 + 5 * c + 2) = 132 ∧ ab_sh (a + 4 + 5 * c + 3) = 132 ∧ ab_sh (a + 4 + 5 * c + 4) = 132) ∧ ab_sh (a + 24) = 104
theorem mc_86 : ab_mc 3 = 2 := by decide +kernel
theorem ms_86 : ab_ms 3 = 32 := by decide +kernel
theorem mc_93 : ab_mc 10 = 4 := by decide +kernel
theorem ms_93 : ab_ms 10 = 112 := by decide +kernel
theorem mc_133 : ab_mc 50 = 24 := by decide +kernel
theorem ms_133 : ab_ms 50 = 511 := by decide +kernel
theorem mc_124 : ab_mc 41 = 10 := by decide +kernel
theorem ms_124 : ab_ms 41 = 236 := by decide +kernel
theorem mc_156 : ab_mc 73 = 0 := by decide +kernel
theorem ms_156 : ab_ms 73 = 0 := by decide +kernel
theorem mc_159 : ab_mc 76 = 125 := by decide +kernel
theorem ms_159 : ab_ms 76 = 2595 := by decide +kernel
theorem mc_163 : ab_mc 80 = 2 := by decide +kernel
theorem ms_163 : ab_ms 80 = 64 := by decide +kernel
theorem nf_0 : ab_nf 0 = 5 := rfl
theorem nf_1 : ab_nf 1 = 3 := rfl
theorem nf_2 : ab_nf 2 = 6 := rfl
theorem nf_3 : ab_nf 3 = 6 := rfl
theorem nf_4 : ab_nf 4 = 3 := rfl
theorem nf_5 : ab_nf 5 = 8 := rfl
theorem nf_6 : ab_nf 6 = 8 := rfl
theorem sp_refs.at {X X' : ab_H} {l : List (Nat × Nat × Nat)} {k : Nat} (R : sp_refs X l) (e : ∀ q ∈ l, q.1 = k) (e2 : X'.2 k = X.2 k) : sp_refs X' l := fun q hq => by rw [e q hq, e2, ← e q hq]; exact R q hq
theorem nm_fr_k (a : Nat) : ∀ q ∈ nm_fr a, q.1 = a := by
  intro q hq
  unfold nm_fr at hq
  simp only [List.mem_cons, List.not_mem_nil, or_false] at hq
  rcases hq with rfl | rfl <;> rfl
theorem bk_fr_k (a : Nat) : ∀ q ∈ bk_fr a, q.1 = a := by
  intro q hq
  unfold bk_fr at hq
  simp only [List.mem_cons, List.not_mem_nil, or_false] at hq
  rcases hq with rfl | rfl | rfl | rfl <;> rfl
theorem sp_refs.app {X : ab_H} {l m : List (Nat × Nat × Nat)} (a : sp_refs X l) (b : sp_refs X m) : sp_refs X (l ++ m) := fun q hq => by
  rcases List.mem_append.mp hq with h | h
  · exact a q h
  · exact b q h
/-- a part is made at b, e its end, and told in field f of a -/
theorem st_part {a b e f : Nat} {X Y : ab_H} (hab : a < b) (he : b < e) (fx : sp_fx b e (ab_hn X b) Y) : (∀ k, (k < b ∨ e ≤ k) → (ab_hr Y a f b).1 k = X.1 k) ∧ (∀ k, (k < b ∨ e ≤ k) → k ≠ a → (ab_hr Y a f b).2 k = X.2 k) ∧ (∀ j, (ab_hr Y a f b).2 a j = if j = f then b else X.2 a j) ∧ (∀ k, b ≤ k → k < e → (ab_hr Y a f b).1 k = Y.1 k ∧ (ab_hr Y a f b).2 k = Y.2 k) := by
  refine ⟨fun k hk => ?_, fun k hk hka => ?_, fun j => ?_, fun k h1 h2 => ⟨rfl, hr_o (by omega)⟩⟩
  · rw [hr_1, (fx k hk).1, (hn_o (by omega)).1]
  · rw [hr_o hka, (fx k hk).2, (hn_o (by omega)).2]
  · rw [hr_2]
    by_cases c : j = f
    · rw [if_pos ⟨rfl, c⟩, if_pos c]
    · rw [if_neg (fun q => c q.2), if_neg c, (fx a (by omega)).2, (hn_o (by omega)).2]
/-- a state at a of which the names and c books are made -/
def st_P (a c : Nat) (h X : ab_H) : Prop := (∀ j, X.1 a j = 0) ∧ sp_fx a (a + 25) h X ∧ X.2 a 0 = a + 1 ∧ (∀ i, i < c → X.2 a (i + 1) = a + 4 + 5 * i) ∧ sp_refs X (nm_fr (a + 1)) ∧ sp_Nm X.1 (a + 1) [] ∧ ∀ i, i < c → sp_refs X (bk_fr (a + 4 + 5 * i)) ∧ sp_Bk X.1 (a + 4 + 5 * i) (Int32.ofInt i) []
theorem st_P.step {a b c f : Nat} {h X Y : ab_H} (p : st_P a c h X) (hc : c < 4) (hb : b = a + 4 + 5 * c) (hf : f = c + 1) (fx : sp_fx b (b + 5) (ab_hn X b) Y) (r : sp_refs Y (bk_fr b)) (B : sp_Bk Y.1 b (Int32.ofInt c) []) : st_P a (c + 1) h (ab_hr Y a f b) := by
  subst hf
  obtain ⟨p1, p2, p3, p4⟩ := st_part (f := c + 1) (show a < b by omega) (show b < b + 5 by omega) fx
  obtain ⟨i0, i1, i2, i3, i4, i5, i6⟩ := p
  refine ⟨fun j => by rw [p1 a (by omega)]; exact i0 j, i1.tr (fun k hk => ⟨p1 k (by omega), p2 k (by omega) (by omega)⟩), by rw [p3, if_neg (by omega)]; exact i2, fun i hi => ?_, i4.at (nm_fr_k _) (p2 (a + 1) (by omega) (by omega)), i5.frame (fun k k1 k2 => p1 k (by omega)), fun i hi => ?_⟩
  · rw [p3]
    by_cases g : i = c
    · rw [if_pos (by omega), hb, g]
    · rw [if_neg (by omega)]; exact i3 i (by omega)
  · by_cases g : i = c
    · subst g
      rw [← hb]
      exact ⟨r.at (bk_fr_k _) ((p4 b (by omega) (by omega)).2), B.frame (fun k k1 k2 => (p4 k k1 k2).1)⟩
    · obtain ⟨g1, g2⟩ := i6 i (by omega)
      exact ⟨g1.at (bk_fr_k _) (p2 _ (by omega) (by omega)), g2.frame (fun k k1 k2 => p1 k (by omega))⟩
theorem st_P.zero {a : Nat} {h Y : ab_H} (h0 : ∀ j, h.1 a j = 0) (fx : sp_fx (a + 1) (a + 4) (ab_hn h (a + 1)) Y) (e : Y.1 (a + 1) = (ab_hn h (a + 1)).1 (a + 1)) (r : sp_refs Y (nm_fr (a + 1))) : st_P a 0 h (ab_hr Y a 0 (a + 1)) := by
  obtain ⟨p1, p2, p3, p4⟩ := st_part (f := 0) (show a < a + 1 by omega) (show a + 1 < a + 4 by omega) fx
  refine ⟨fun j => by rw [p1 a (by omega)]; exact h0 j, fun k hk => ⟨p1 k (by omega), p2 k (by omega) (by omega)⟩, by rw [p3, if_pos rfl], fun i hi => absurd hi (Nat.not_lt_zero i), r.at (nm_fr_k _) ((p4 (a + 1) (by omega) (by omega)).2), ⟨?_, Nat.zero_le _, fun i hi => absurd hi (Nat.not_lt_zero i)⟩, fun i hi => absurd hi (Nat.not_lt_zero i)⟩
  rw [(p4 (a + 1) (by omega) (by omega)).1, e, hn_1, if_pos rfl]; rfl
set_option maxRecDepth 100000 in
set_option maxHeartbeats 4000000 in
theorem sp_State_init {a : Nat} {h : ab_H} {Q : Option Value → ab_H → Prop} (hs : st_shp a) (ha : a < 800) (h0 : ∀ j, h.1 a j = 0)
    (hq : ∀ h', sp_fx a (a + 25) h h' → sp_refs h' (st_fr a) → sp_St h'.1 a s_0 → Q none h') : ab_C 2 yn_State_init (a + 1) [.ref a] h Q := by
  refine ab_of ⟨Nat.le_of_ble_eq_true rfl, Nat.le_of_ble_eq_true rfl⟩ (by simp [Value.category]) (Nat.le_of_ble_eq_true rfl) ?_
  show ab_W 2 yn_State_init 0 (a + 1) 24 511 [some (.ref a)] [] h Q
  obtain ⟨s0, s1, s2, s3, sb, s24⟩ := hs
  obtain ⟨b00, b01, b02, b03, b04⟩ := sb 0 (by omega)
  obtain ⟨b10, b11, b12, b13, b14⟩ := sb 1 (by omega)
  obtain ⟨b20, b21, b22, b23, b24⟩ := sb 2 (by omega)
  obtain ⟨b30, b31, b32, b33, b34⟩ := sb 3 (by omega)
  simp only [Nat.add_assoc, Nat.reduceMul, Nat.reduceAdd] at b00 b01 b02 b03 b04 b10 b11 b12 b13 b14 b20 b21 b22 b23 b24 b30 b31 b32 b33 b34
  refine ab_go [] 12 bo_State_init ?_
  simp -implicitDefEqProofs (disch := omega) only [↓ev_rn, ↓ev_aload_0, ↓ev_aload_0N, ↓ev_bipush, ↓ev_calli_1, ↓ev_calli_2, ↓ev_dup_i, ↓ev_dup_r, ↓ev_iastore, ↓ev_iconst, ↓ev_new, ↓ev_newarray, ↓ev_nop, ↓ev_objinit, ↓ev_putfield_1, ↓ev_return_, bq_State_init_0, bk_State_init_0, ↓reduceIte, false_and, and_false, List.not_mem_nil, List.mem_cons, or_false, or_true, true_or, false_or, Nat.reduceEqDiff, ab_ac, ab_ar, Nat.reduceSub, Nat.reduceLeDiff, Nat.reduceAdd, Nat.reduceLT, Int.cast_ofNat_Int, Int.ofNat_toNat, Int.toNat_natCast, ii_0, ii_1, ii_add, ii_sub, ii_mul, ii_neg, ii_lt, ii_le, ii_eq, ii_cl, ii_in, dc_lt_t, dc_lt_f, dc_le_t, dc_le_f, dc_eq_t, dc_eq_f, dn_lt_t, dn_le_t, dn_eq_t, dn_eq_f, hi_1, hi_2, and_self, Option.isSome_none, Option.isSome_some, Bool.false_eq_true, ii_s, ii_m, ii_mn, ii_2, st1_, st1_i, st1_r, st1_ii, st1_ir, st1_ri, st1_rr, st1_iii, st1_iir, st1_iri, st1_irr, st1_rii, st1_rir, st1_rri, st1_rrr, st1_iiii, st1_iiir, st1_iiri, st1_iirr, st1_irii, st1_irir, st1_irri, st1_irrr, st1_riii, st1_riir, st1_riri, st1_rirr, st1_rrii, st1_rrir, st1_rrri, st1_rrrr, st1_iiiii, st1_iiiir, st1_iiiri, st1_iiirr, st1_iirii, st1_iirir, st1_iirri, st1_iirrr, st1_iriii, st1_iriir, st1_iriri, st1_irirr, st1_irrii, st1_irrir, st1_irrri, st1_irrrr, st1_riiii, st1_riiir, st1_riiri, st1_riirr, st1_ririi, st1_ririr, st1_rirri, st1_rirrr, st1_rriii, st1_rriir, st1_rriri, st1_rrirr, st1_rrrii, st1_rrrir, st1_rrrri, st1_rrrrr, Option.toList_some, Option.toList_none, List.cons_append, List.nil_append, true_and, and_true, true_implies, false_implies, not_true_eq_false, not_false_eq_true, implies_true, eq_self, s0, s1, s2, s3, Nat.add_assoc, Int.reduceToNat, nf_4, mc_86, ms_86]
  refine ab_C.up (d := 1) (sp_Names_init (a := a + 1) s1 s2 s3 (by omega) (fun h1 f1 i1 r1 z1 => ?_)) (Nat.le_of_ble_eq_true rfl)
  have P0 := st_P.zero h0 f1 i1 r1
  simp -implicitDefEqProofs (disch := omega) only [↓ev_rn, ↓ev_aload_0, ↓ev_aload_0N, ↓ev_bipush, ↓ev_calli_1, ↓ev_calli_2, ↓ev_dup_i, ↓ev_dup_r, ↓ev_iastore, ↓ev_iconst, ↓ev_new, ↓ev_newarray, ↓ev_nop, ↓ev_objinit, ↓ev_putfield_1, ↓ev_return_, bq_State_init_0, bk_State_init_0, ↓reduceIte, false_and, and_false, List.not_mem_nil, List.mem_cons, or_false, or_true, true_or, false_or, Nat.reduceEqDiff, ab_ac, ab_ar, Nat.reduceSub, Nat.reduceLeDiff, Nat.reduceAdd, Nat.reduceLT, Int.cast_ofNat_Int, Int.ofNat_toNat, Int.toNat_natCast, ii_0, ii_1, ii_add, ii_sub, ii_mul, ii_neg, ii_lt, ii_le, ii_eq, ii_cl, ii_in, dc_lt_t, dc_lt_f, dc_le_t, dc_le_f, dc_eq_t, dc_eq_f, dn_lt_t, dn_le_t, dn_eq_t, dn_eq_f, hi_1, hi_2, and_self, Option.isSome_none, Option.isSome_some, Bool.false_eq_true, ii_s, ii_m, ii_mn, ii_2, st1_, st1_i, st1_r, st1_ii, st1_ir, st1_ri, st1_rr, st1_iii, st1_iir, st1_iri, st1_irr, st1_rii, st1_rir, st1_rri, st1_rrr, st1_iiii, st1_iiir, st1_iiri, st1_iirr, st1_irii, st1_irir, st1_irri, st1_irrr, st1_riii, st1_riir, st1_riri, st1_rirr, st1_rrii, st1_rrir, st1_rrri, st1_rrrr, st1_iiiii, st1_iiiir, st1_iiiri, st1_iiirr, st1_iirii, st1_iirir, st1_iirri, st1_iirrr, st1_iriii, st1_iriir, st1_iriri, st1_irirr, st1_irrii, st1_irrir, st1_irrri, st1_irrrr, st1_riiii, st1_riiir, st1_riiri, st1_riirr, st1_ririi, st1_ririr, st1_rirri, st1_rirrr, st1_rriii, st1_rriir, st1_rriri, st1_rrirr, st1_rrrii, st1_rrrir, st1_rrrri, st1_rrrrr, Option.toList_some, Option.toList_none, List.cons_append, List.nil_append, true_and, and_true, true_implies, false_implies, not_true_eq_false, not_false_eq_true, implies_true, eq_self, s0, b00, Nat.add_assoc, nf_2, mc_93, ms_93]
  refine ab_C.up (d := 1) (sp_Book_init (a := a + 4) b00 b01 b02 b03 b04 (by omega) (by rw [hn_1, if_pos rfl]) (fun h2 f2 r2 B2 => ?_)) (Nat.le_of_ble_eq_true rfl)
  have P1 := P0.step (c := 0) (f := 1) (b := a + 4) (by omega) (by omega) rfl f2 r2 B2
  simp -implicitDefEqProofs (disch := omega) only [↓ev_rn, ↓ev_aload_0, ↓ev_aload_0N, ↓ev_bipush, ↓ev_calli_1, ↓ev_calli_2, ↓ev_dup_i, ↓ev_dup_r, ↓ev_iastore, ↓ev_iconst, ↓ev_new, ↓ev_newarray, ↓ev_nop, ↓ev_objinit, ↓ev_putfield_1, ↓ev_return_, bq_State_init_0, bk_State_init_0, ↓reduceIte, false_and, and_false, List.not_mem_nil, List.mem_cons, or_false, or_true, true_or, false_or, Nat.reduceEqDiff, ab_ac, ab_ar, Nat.reduceSub, Nat.reduceLeDiff, Nat.reduceAdd, Nat.reduceLT, Int.cast_ofNat_Int, Int.ofNat_toNat, Int.toNat_natCast, ii_0, ii_1, ii_add, ii_sub, ii_mul, ii_neg, ii_lt, ii_le, ii_eq, ii_cl, ii_in, dc_lt_t, dc_lt_f, dc_le_t, dc_le_f, dc_eq_t, dc_eq_f, dn_lt_t, dn_le_t, dn_eq_t, dn_eq_f, hi_1, hi_2, and_self, Option.isSome_none, Option.isSome_some, Bool.false_eq_true, ii_s, ii_m, ii_mn, ii_2, st1_, st1_i, st1_r, st1_ii, st1_ir, st1_ri, st1_rr, st1_iii, st1_iir, st1_iri, st1_irr, st1_rii, st1_rir, st1_rri, st1_rrr, st1_iiii, st1_iiir, st1_iiri, st1_iirr, st1_irii, st1_irir, st1_irri, st1_irrr, st1_riii, st1_riir, st1_riri, st1_rirr, st1_rrii, st1_rrir, st1_rrri, st1_rrrr, st1_iiiii, st1_iiiir, st1_iiiri, st1_iiirr, st1_iirii, st1_iirir, st1_iirri, st1_iirrr, st1_iriii, st1_iriir, st1_iriri, st1_irirr, st1_irrii, st1_irrir, st1_irrri, st1_irrrr, st1_riiii, st1_riiir, st1_riiri, st1_riirr, st1_ririi, st1_ririr, st1_rirri, st1_rirrr, st1_rriii, st1_rriir, st1_rriri, st1_rrirr, st1_rrrii, st1_rrrir, st1_rrrri, st1_rrrrr, Option.toList_some, Option.toList_none, List.cons_append, List.nil_append, true_and, and_true, true_implies, false_implies, not_true_eq_false, not_false_eq_true, implies_true, eq_self, s0, b10, Nat.add_assoc, nf_2, mc_93, ms_93]
  refine ab_C.up (d := 1) (sp_Book_init (a := a + 9) b10 b11 b12 b13 b14 (by omega) (by rw [hn_1, if_pos rfl]) (fun h3 f3 r3 B3 => ?_)) (Nat.le_of_ble_eq_true rfl)
  have P2 := P1.step (c := 1) (f := 2) (b := a + 9) (by omega) (by omega) rfl f3 r3 B3
  simp -implicitDefEqProofs (disch := omega) only [↓ev_rn, ↓ev_aload_0, ↓ev_aload_0N, ↓ev_bipush, ↓ev_calli_1, ↓ev_calli_2, ↓ev_dup_i, ↓ev_dup_r, ↓ev_iastore, ↓ev_iconst, ↓ev_new, ↓ev_newarray, ↓ev_nop, ↓ev_objinit, ↓ev_putfield_1, ↓ev_return_, bq_State_init_0, bk_State_init_0, ↓reduceIte, false_and, and_false, List.not_mem_nil, List.mem_cons, or_false, or_true, true_or, false_or, Nat.reduceEqDiff, ab_ac, ab_ar, Nat.reduceSub, Nat.reduceLeDiff, Nat.reduceAdd, Nat.reduceLT, Int.cast_ofNat_Int, Int.ofNat_toNat, Int.toNat_natCast, ii_0, ii_1, ii_add, ii_sub, ii_mul, ii_neg, ii_lt, ii_le, ii_eq, ii_cl, ii_in, dc_lt_t, dc_lt_f, dc_le_t, dc_le_f, dc_eq_t, dc_eq_f, dn_lt_t, dn_le_t, dn_eq_t, dn_eq_f, hi_1, hi_2, and_self, Option.isSome_none, Option.isSome_some, Bool.false_eq_true, ii_s, ii_m, ii_mn, ii_2, st1_, st1_i, st1_r, st1_ii, st1_ir, st1_ri, st1_rr, st1_iii, st1_iir, st1_iri, st1_irr, st1_rii, st1_rir, st1_rri, st1_rrr, st1_iiii, st1_iiir, st1_iiri, st1_iirr, st1_irii, st1_irir, st1_irri, st1_irrr, st1_riii, st1_riir, st1_riri, st1_rirr, st1_rrii, st1_rrir, st1_rrri, st1_rrrr, st1_iiiii, st1_iiiir, st1_iiiri, st1_iiirr, st1_iirii, st1_iirir, st1_iirri, st1_iirrr, st1_iriii, st1_iriir, st1_iriri, st1_irirr, st1_irrii, st1_irrir, st1_irrri, st1_irrrr, st1_riiii, st1_riiir, st1_riiri, st1_riirr, st1_ririi, st1_ririr, st1_rirri, st1_rirrr, st1_rriii, st1_rriir, st1_rriri, st1_rrirr, st1_rrrii, st1_rrrir, st1_rrrri, st1_rrrrr, Option.toList_some, Option.toList_none, List.cons_append, List.nil_append, true_and, and_true, true_implies, false_implies, not_true_eq_false, not_false_eq_true, implies_true, eq_self, s0, b20, Nat.add_assoc, nf_2, mc_93, ms_93]
  refine ab_C.up (d := 1) (sp_Book_init (a := a + 14) b20 b21 b22 b23 b24 (by omega) (by rw [hn_1, if_pos rfl]) (fun h4 f4 r4 B4 => ?_)) (Nat.le_of_ble_eq_true rfl)
  have P3 := P2.step (c := 2) (f := 3) (b := a + 14) (by omega) (by omega) rfl f4 r4 B4
  simp -implicitDefEqProofs (disch := omega) only [↓ev_rn, ↓ev_aload_0, ↓ev_aload_0N, ↓ev_bipush, ↓ev_calli_1, ↓ev_calli_2, ↓ev_dup_i, ↓ev_dup_r, ↓ev_iastore, ↓ev_iconst, ↓ev_new, ↓ev_newarray, ↓ev_nop, ↓ev_objinit, ↓ev_putfield_1, ↓ev_return_, bq_State_init_0, bk_State_init_0, ↓reduceIte, false_and, and_false, List.not_mem_nil, List.mem_cons, or_false, or_true, true_or, false_or, Nat.reduceEqDiff, ab_ac, ab_ar, Nat.reduceSub, Nat.reduceLeDiff, Nat.reduceAdd, Nat.reduceLT, Int.cast_ofNat_Int, Int.ofNat_toNat, Int.toNat_natCast, ii_0, ii_1, ii_add, ii_sub, ii_mul, ii_neg, ii_lt, ii_le, ii_eq, ii_cl, ii_in, dc_lt_t, dc_lt_f, dc_le_t, dc_le_f, dc_eq_t, dc_eq_f, dn_lt_t, dn_le_t, dn_eq_t, dn_eq_f, hi_1, hi_2, and_self, Option.isSome_none, Option.isSome_some, Bool.false_eq_true, ii_s, ii_m, ii_mn, ii_2, st1_, st1_i, st1_r, st1_ii, st1_ir, st1_ri, st1_rr, st1_iii, st1_iir, st1_iri, st1_irr, st1_rii, st1_rir, st1_rri, st1_rrr, st1_iiii, st1_iiir, st1_iiri, st1_iirr, st1_irii, st1_irir, st1_irri, st1_irrr, st1_riii, st1_riir, st1_riri, st1_rirr, st1_rrii, st1_rrir, st1_rrri, st1_rrrr, st1_iiiii, st1_iiiir, st1_iiiri, st1_iiirr, st1_iirii, st1_iirir, st1_iirri, st1_iirrr, st1_iriii, st1_iriir, st1_iriri, st1_irirr, st1_irrii, st1_irrir, st1_irrri, st1_irrrr, st1_riiii, st1_riiir, st1_riiri, st1_riirr, st1_ririi, st1_ririr, st1_rirri, st1_rirrr, st1_rriii, st1_rriir, st1_rriri, st1_rrirr, st1_rrrii, st1_rrrir, st1_rrrri, st1_rrrrr, Option.toList_some, Option.toList_none, List.cons_append, List.nil_append, true_and, and_true, true_implies, false_implies, not_true_eq_false, not_false_eq_true, implies_true, eq_self, s0, b30, Nat.add_assoc, nf_2, mc_93, ms_93]
  refine ab_C.up (d := 1) (sp_Book_init (a := a + 19) b30 b31 b32 b33 b34 (by omega) (by rw [hn_1, if_pos rfl]) (fun h5 f5 r5 B5 => ?_)) (Nat.le_of_ble_eq_true rfl)
  have P4 := P3.step (c := 3) (f := 4) (b := a + 19) (by omega) (by omega) rfl f5 r5 B5
  simp -implicitDefEqProofs (disch := omega) only [↓ev_rn, ↓ev_aload_0, ↓ev_aload_0N, ↓ev_bipush, ↓ev_calli_1, ↓ev_calli_2, ↓ev_dup_i, ↓ev_dup_r, ↓ev_iastore, ↓ev_iconst, ↓ev_new, ↓ev_newarray, ↓ev_nop, ↓ev_objinit, ↓ev_putfield_1, ↓ev_return_, bq_State_init_0, bk_State_init_0, ↓reduceIte, false_and, and_false, List.not_mem_nil, List.mem_cons, or_false, or_true, true_or, false_or, Nat.reduceEqDiff, ab_ac, ab_ar, Nat.reduceSub, Nat.reduceLeDiff, Nat.reduceAdd, Nat.reduceLT, Int.cast_ofNat_Int, Int.ofNat_toNat, Int.toNat_natCast, ii_0, ii_1, ii_add, ii_sub, ii_mul, ii_neg, ii_lt, ii_le, ii_eq, ii_cl, ii_in, dc_lt_t, dc_lt_f, dc_le_t, dc_le_f, dc_eq_t, dc_eq_f, dn_lt_t, dn_le_t, dn_eq_t, dn_eq_f, hi_1, hi_2, and_self, Option.isSome_none, Option.isSome_some, Bool.false_eq_true, ii_s, ii_m, ii_mn, ii_2, st1_, st1_i, st1_r, st1_ii, st1_ir, st1_ri, st1_rr, st1_iii, st1_iir, st1_iri, st1_irr, st1_rii, st1_rir, st1_rri, st1_rrr, st1_iiii, st1_iiir, st1_iiri, st1_iirr, st1_irii, st1_irir, st1_irri, st1_irrr, st1_riii, st1_riir, st1_riri, st1_rirr, st1_rrii, st1_rrir, st1_rrri, st1_rrrr, st1_iiiii, st1_iiiir, st1_iiiri, st1_iiirr, st1_iirii, st1_iirir, st1_iirri, st1_iirrr, st1_iriii, st1_iriir, st1_iriri, st1_irirr, st1_irrii, st1_irrir, st1_irrri, st1_irrrr, st1_riiii, st1_riiir, st1_riiri, st1_riirr, st1_ririi, st1_ririr, st1_rirri, st1_rirrr, st1_rriii, st1_rriir, st1_rriri, st1_rrirr, st1_rrrii, st1_rrrir, st1_rrrri, st1_rrrrr, Option.toList_some, Option.toList_none, List.cons_append, List.nil_append, true_and, and_true, true_implies, false_implies, not_true_eq_false, not_false_eq_true, implies_true, eq_self, s0, s24, Nat.add_assoc, Int.reduceToNat]
  generalize ab_hr h5 a 4 (a + 19) = X at *
  obtain ⟨x0, x1, x2, x3, x4, x5, x6⟩ := P4
  have key : ∀ Z : ab_H, (∀ k, k ≠ a + 24 → Z.1 k = X.1 k) → (∀ k, k ≠ a → k ≠ a + 24 → Z.2 k = X.2 k) → (∀ j, Z.2 a j = if j = 5 then a + 24 else X.2 a j) → (∀ j, j < 4 → Z.1 (a + 24) j = Int32.ofInt 100) → Q none Z := by
    intro Z z1 z2 z3 z4
    refine hq Z (x1.tr (fun k hk => ⟨z1 k (by omega), z2 k (by omega) (by omega)⟩)) ?_ ⟨x5.frame (fun k k1 k2 => z1 k (by omega)), fun c hc => (x6 c hc).2.frame (fun k k1 k2 => z1 k (by omega)), fun c hc => z4 c hc, by rw [z1 a (by omega), x0]; rfl, by rw [z1 a (by omega), x0]; rfl⟩
    have r0 := (x6 0 (by omega)).1.at (bk_fr_k _) (z2 _ (by omega) (by omega))
    have r1 := (x6 1 (by omega)).1.at (bk_fr_k _) (z2 _ (by omega) (by omega))
    have r2 := (x6 2 (by omega)).1.at (bk_fr_k _) (z2 _ (by omega) (by omega))
    have r3 := (x6 3 (by omega)).1.at (bk_fr_k _) (z2 _ (by omega) (by omega))
    refine sp_refs.app (fun q hq => ?_) (sp_refs.app (x4.at (nm_fr_k _) (z2 (a + 1) (by omega) (by omega))) (sp_refs.app r0 (sp_refs.app r1 (sp_refs.app r2 r3))))
    simp only [List.mem_cons, List.not_mem_nil, or_false] at hq
    rcases hq with rfl | rfl | rfl | rfl | rfl | rfl
    · show Z.2 a 0 = _
      rw [z3, if_neg (by omega), x2]
    · show Z.2 a 1 = _
      rw [z3, if_neg (by omega)]; exact x3 0 (by omega)
    · show Z.2 a 2 = _
      rw [z3, if_neg (by omega)]; exact x3 1 (by omega)
    · show Z.2 a 3 = _
      rw [z3, if_neg (by omega)]; exact x3 2 (by omega)
    · show Z.2 a 4 = _
      rw [z3, if_neg (by omega)]; exact x3 3 (by omega)
    · show Z.2 a 5 = _
      rw [z3, if_pos rfl]
  refine key _ (fun k hk => ?_) (fun k h1 h2 => ?_) (fun j => ?_) (fun j hj => ?_)
  · rw [hr_1, hi_o hk, hi_o hk, hi_o hk, hi_o hk, (hn_o hk).1]
  · rw [hr_o h1, hi_2, hi_2, hi_2, hi_2, (hn_o h2).2]
  · rw [hr_2]
    by_cases c : j = 5
    · rw [if_pos ⟨rfl, c⟩, if_pos c]
    · rw [if_neg (fun q => c q.2), if_neg c, hi_2, hi_2, hi_2, hi_2, (hn_o (by omega)).2]
  · rw [hr_1]
    rcases (show j = 0 ∨ j = 1 ∨ j = 2 ∨ j = 3 by omega) with rfl | rfl | rfl | rfl
    · rw [hi_1, if_neg (by omega), hi_1, if_neg (by omega), hi_1, if_neg (by omega), hi_1, if_pos ⟨rfl, rfl⟩]
    · rw [hi_1, if_neg (by omega), hi_1, if_neg (by omega), hi_1, if_pos ⟨rfl, rfl⟩]
    · rw [hi_1, if_neg (by omega), hi_1, if_pos ⟨rfl, rfl⟩]
    · rw [hi_1, if_pos ⟨rfl, rfl⟩]
theorem st_fr_in (a : Nat) : ∀ q ∈ st_fr a, a ≤ q.1 ∧ q.1 < a + 25 := by
  intro q hq
  unfold st_fr at hq
  simp only [List.mem_append] at hq
  rcases hq with hq | hq | hq | hq | hq | hq
  · simp only [List.mem_cons, List.not_mem_nil, or_false] at hq
    rcases hq with rfl | rfl | rfl | rfl | rfl | rfl <;> exact ⟨Nat.le_refl _, Nat.lt_add_of_pos_right (by decide)⟩
  · rw [nm_fr_k _ q hq]; omega
  · rw [bk_fr_k _ q hq]; omega
  · rw [bk_fr_k _ q hq]; omega
  · rw [bk_fr_k _ q hq]; omega
  · rw [bk_fr_k _ q hq]; omega
theorem sp_refs.pt {X X' : ab_H} {l : List (Nat × Nat × Nat)} (R : sp_refs X l) (e : ∀ q ∈ l, X'.2 q.1 = X.2 q.1) : sp_refs X' l := fun q hq => by rw [e q hq]; exact R q hq
/-- the history's object at a, with c of its states made -/
def hi_P (a c : Nat) (h X : ab_H) : Prop := (∀ j, X.1 a j = 0) ∧ sp_fx a (a + 126) h X ∧ (∀ i, i < c → X.2 a i = a + 1 + 25 * i) ∧ ∀ i, i < c → sp_refs X (st_fr (a + 1 + 25 * i))
theorem hi_P.step {a b c : Nat} {h X Y : ab_H} (p : hi_P a c h X) (hc : c < 5) (hb : b = a + 1 + 25 * c) (fx : sp_fx b (b + 25) (ab_hn X b) Y) (r : sp_refs Y (st_fr b)) : hi_P a (c + 1) h (ab_hr Y a c b) := by
  obtain ⟨p1, p2, p3, p4⟩ := st_part (f := c) (show a < b by omega) (show b < b + 25 by omega) fx
  obtain ⟨i0, i1, i2, i3⟩ := p
  refine ⟨fun j => by rw [p1 a (by omega)]; exact i0 j, i1.tr (fun k hk => ⟨p1 k (by omega), p2 k (by omega) (by omega)⟩), fun i hi => ?_, fun i hi => ?_⟩
  · rw [p3]
    by_cases g : i = c
    · rw [if_pos g, hb, g]
    · rw [if_neg g]; exact i2 i (by omega)
  · by_cases g : i = c
    · subst g
      rw [← hb]
      exact r.pt (fun q hq => (p4 q.1 (st_fr_in b q hq).1 (st_fr_in b q hq).2).2)
    · exact (i3 i (by omega)).pt (fun q hq => by have := st_fr_in _ q hq; exact p2 _ (by omega) (by omega))
set_option maxRecDepth 100000 in
set_option maxHeartbeats 4000000 in
theorem sp_History_init {a : Nat} {h : ab_H} {Q : Option Value → ab_H → Prop} (s0 : ab_sh a = 3) (hs : ∀ i, i < 5 → st_shp (a + 1 + 25 * i)) (ha : a < 600) (h0 : ∀ j, h.1 a j = 0)
    (hq : ∀ h', hi_P a 5 h h' → Q none h') : ab_C 3 yn_History_init (a + 1) [.ref a] h Q := by
  refine ab_of ⟨Nat.le_of_ble_eq_true rfl, Nat.le_of_ble_eq_true rfl⟩ (by simp [Value.category]) (Nat.le_of_ble_eq_true rfl) ?_
  show ab_W 3 yn_History_init 0 (a + 1) 125 2595 [some (.ref a)] [] h Q
  have g0 := hs 0 (by omega)
  have g1 := hs 1 (by omega)
  have g2 := hs 2 (by omega)
  have g3 := hs 3 (by omega)
  have g4 := hs 4 (by omega)
  simp only [Nat.add_assoc, Nat.reduceMul, Nat.reduceAdd] at g0 g1 g2 g3 g4
  have P0 : hi_P a 0 h h := ⟨h0, sp_fx.rf, fun i hi => absurd hi (Nat.not_lt_zero i), fun i hi => absurd hi (Nat.not_lt_zero i)⟩
  refine ab_go [] 12 bo_History_init ?_
  simp -implicitDefEqProofs (disch := omega) only [↓ev_rn, ↓ev_aload_0, ↓ev_aload_0N, ↓ev_calli_1, ↓ev_dup_i, ↓ev_dup_r, ↓ev_new, ↓ev_nop, ↓ev_objinit, ↓ev_putfield_1, ↓ev_return_, bq_History_init_0, bk_History_init_0, ↓reduceIte, false_and, and_false, List.not_mem_nil, List.mem_cons, or_false, or_true, true_or, false_or, Nat.reduceEqDiff, ab_ac, ab_ar, Nat.reduceSub, Nat.reduceLeDiff, Nat.reduceAdd, Nat.reduceLT, Int.cast_ofNat_Int, Int.ofNat_toNat, Int.toNat_natCast, ii_0, ii_1, ii_add, ii_sub, ii_mul, ii_neg, ii_lt, ii_le, ii_eq, ii_cl, ii_in, dc_lt_t, dc_lt_f, dc_le_t, dc_le_f, dc_eq_t, dc_eq_f, dn_lt_t, dn_le_t, dn_eq_t, dn_eq_f, hi_1, hi_2, and_self, Option.isSome_none, Option.isSome_some, Bool.false_eq_true, ii_s, ii_m, ii_mn, ii_2, st1_, st1_i, st1_r, st1_ii, st1_ir, st1_ri, st1_rr, st1_iii, st1_iir, st1_iri, st1_irr, st1_rii, st1_rir, st1_rri, st1_rrr, st1_iiii, st1_iiir, st1_iiri, st1_iirr, st1_irii, st1_irir, st1_irri, st1_irrr, st1_riii, st1_riir, st1_riri, st1_rirr, st1_rrii, st1_rrir, st1_rrri, st1_rrrr, st1_iiiii, st1_iiiir, st1_iiiri, st1_iiirr, st1_iirii, st1_iirir, st1_iirri, st1_iirrr, st1_iriii, st1_iriir, st1_iriri, st1_irirr, st1_irrii, st1_irrir, st1_irrri, st1_irrrr, st1_riiii, st1_riiir, st1_riiri, st1_riirr, st1_ririi, st1_ririr, st1_rirri, st1_rirrr, st1_rriii, st1_rriir, st1_rriri, st1_rrirr, st1_rrrii, st1_rrrir, st1_rrrri, st1_rrrrr, Option.toList_some, Option.toList_none, List.cons_append, List.nil_append, true_and, and_true, true_implies, false_implies, not_true_eq_false, not_false_eq_true, implies_true, eq_self, s0, g0.1, Nat.add_assoc, nf_6, mc_133, ms_133]
  refine ab_C.up (d := 2) (sp_State_init (a := a + 1) g0 (by omega) (fun j => by rw [hn_1, if_pos rfl]) (fun h1 f1 r1 _ => ?_)) (Nat.le_of_ble_eq_true rfl)
  have P1 := P0.step (c := 0) (b := a + 1) (by omega) rfl f1 r1
  simp -implicitDefEqProofs (disch := omega) only [↓ev_rn, ↓ev_aload_0, ↓ev_aload_0N, ↓ev_calli_1, ↓ev_dup_i, ↓ev_dup_r, ↓ev_new, ↓ev_nop, ↓ev_objinit, ↓ev_putfield_1, ↓ev_return_, bq_History_init_0, bk_History_init_0, ↓reduceIte, false_and, and_false, List.not_mem_nil, List.mem_cons, or_false, or_true, true_or, false_or, Nat.reduceEqDiff, ab_ac, ab_ar, Nat.reduceSub, Nat.reduceLeDiff, Nat.reduceAdd, Nat.reduceLT, Int.cast_ofNat_Int, Int.ofNat_toNat, Int.toNat_natCast, ii_0, ii_1, ii_add, ii_sub, ii_mul, ii_neg, ii_lt, ii_le, ii_eq, ii_cl, ii_in, dc_lt_t, dc_lt_f, dc_le_t, dc_le_f, dc_eq_t, dc_eq_f, dn_lt_t, dn_le_t, dn_eq_t, dn_eq_f, hi_1, hi_2, and_self, Option.isSome_none, Option.isSome_some, Bool.false_eq_true, ii_s, ii_m, ii_mn, ii_2, st1_, st1_i, st1_r, st1_ii, st1_ir, st1_ri, st1_rr, st1_iii, st1_iir, st1_iri, st1_irr, st1_rii, st1_rir, st1_rri, st1_rrr, st1_iiii, st1_iiir, st1_iiri, st1_iirr, st1_irii, st1_irir, st1_irri, st1_irrr, st1_riii, st1_riir, st1_riri, st1_rirr, st1_rrii, st1_rrir, st1_rrri, st1_rrrr, st1_iiiii, st1_iiiir, st1_iiiri, st1_iiirr, st1_iirii, st1_iirir, st1_iirri, st1_iirrr, st1_iriii, st1_iriir, st1_iriri, st1_irirr, st1_irrii, st1_irrir, st1_irrri, st1_irrrr, st1_riiii, st1_riiir, st1_riiri, st1_riirr, st1_ririi, st1_ririr, st1_rirri, st1_rirrr, st1_rriii, st1_rriir, st1_rriri, st1_rrirr, st1_rrrii, st1_rrrir, st1_rrrri, st1_rrrrr, Option.toList_some, Option.toList_none, List.cons_append, List.nil_append, true_and, and_true, true_implies, false_implies, not_true_eq_false, not_false_eq_true, implies_true, eq_self, s0, g1.1, Nat.add_assoc, nf_6, mc_133, ms_133]
  refine ab_C.up (d := 2) (sp_State_init (a := a + 26) g1 (by omega) (fun j => by rw [hn_1, if_pos rfl]) (fun h2 f2 r2 _ => ?_)) (Nat.le_of_ble_eq_true rfl)
  have P2 := P1.step (c := 1) (b := a + 26) (by omega) (by omega) f2 r2
  simp -implicitDefEqProofs (disch := omega) only [↓ev_rn, ↓ev_aload_0, ↓ev_aload_0N, ↓ev_calli_1, ↓ev_dup_i, ↓ev_dup_r, ↓ev_new, ↓ev_nop, ↓ev_objinit, ↓ev_putfield_1, ↓ev_return_, bq_History_init_0, bk_History_init_0, ↓reduceIte, false_and, and_false, List.not_mem_nil, List.mem_cons, or_false, or_true, true_or, false_or, Nat.reduceEqDiff, ab_ac, ab_ar, Nat.reduceSub, Nat.reduceLeDiff, Nat.reduceAdd, Nat.reduceLT, Int.cast_ofNat_Int, Int.ofNat_toNat, Int.toNat_natCast, ii_0, ii_1, ii_add, ii_sub, ii_mul, ii_neg, ii_lt, ii_le, ii_eq, ii_cl, ii_in, dc_lt_t, dc_lt_f, dc_le_t, dc_le_f, dc_eq_t, dc_eq_f, dn_lt_t, dn_le_t, dn_eq_t, dn_eq_f, hi_1, hi_2, and_self, Option.isSome_none, Option.isSome_some, Bool.false_eq_true, ii_s, ii_m, ii_mn, ii_2, st1_, st1_i, st1_r, st1_ii, st1_ir, st1_ri, st1_rr, st1_iii, st1_iir, st1_iri, st1_irr, st1_rii, st1_rir, st1_rri, st1_rrr, st1_iiii, st1_iiir, st1_iiri, st1_iirr, st1_irii, st1_irir, st1_irri, st1_irrr, st1_riii, st1_riir, st1_riri, st1_rirr, st1_rrii, st1_rrir, st1_rrri, st1_rrrr, st1_iiiii, st1_iiiir, st1_iiiri, st1_iiirr, st1_iirii, st1_iirir, st1_iirri, st1_iirrr, st1_iriii, st1_iriir, st1_iriri, st1_irirr, st1_irrii, st1_irrir, st1_irrri, st1_irrrr, st1_riiii, st1_riiir, st1_riiri, st1_riirr, st1_ririi, st1_ririr, st1_rirri, st1_rirrr, st1_rriii, st1_rriir, st1_rriri, st1_rrirr, st1_rrrii, st1_rrrir, st1_rrrri, st1_rrrrr, Option.toList_some, Option.toList_none, List.cons_append, List.nil_append, true_and, and_true, true_implies, false_implies, not_true_eq_false, not_false_eq_true, implies_true, eq_self, s0, g2.1, Nat.add_assoc, nf_6, mc_133, ms_133]
  refine ab_C.up (d := 2) (sp_State_init (a := a + 51) g2 (by omega) (fun j => by rw [hn_1, if_pos rfl]) (fun h3 f3 r3 _ => ?_)) (Nat.le_of_ble_eq_true rfl)
  have P3 := P2.step (c := 2) (b := a + 51) (by omega) (by omega) f3 r3
  simp -implicitDefEqProofs (disch := omega) only [↓ev_rn, ↓ev_aload_0, ↓ev_aload_0N, ↓ev_calli_1, ↓ev_dup_i, ↓ev_dup_r, ↓ev_new, ↓ev_nop, ↓ev_objinit, ↓ev_putfield_1, ↓ev_return_, bq_History_init_0, bk_History_init_0, ↓reduceIte, false_and, and_false, List.not_mem_nil, List.mem_cons, or_false, or_true, true_or, false_or, Nat.reduceEqDiff, ab_ac, ab_ar, Nat.reduceSub, Nat.reduceLeDiff, Nat.reduceAdd, Nat.reduceLT, Int.cast_ofNat_Int, Int.ofNat_toNat, Int.toNat_natCast, ii_0, ii_1, ii_add, ii_sub, ii_mul, ii_neg, ii_lt, ii_le, ii_eq, ii_cl, ii_in, dc_lt_t, dc_lt_f, dc_le_t, dc_le_f, dc_eq_t, dc_eq_f, dn_lt_t, dn_le_t, dn_eq_t, dn_eq_f, hi_1, hi_2, and_self, Option.isSome_none, Option.isSome_some, Bool.false_eq_true, ii_s, ii_m, ii_mn, ii_2, st1_, st1_i, st1_r, st1_ii, st1_ir, st1_ri, st1_rr, st1_iii, st1_iir, st1_iri, st1_irr, st1_rii, st1_rir, st1_rri, st1_rrr, st1_iiii, st1_iiir, st1_iiri, st1_iirr, st1_irii, st1_irir, st1_irri, st1_irrr, st1_riii, st1_riir, st1_riri, st1_rirr, st1_rrii, st1_rrir, st1_rrri, st1_rrrr, st1_iiiii, st1_iiiir, st1_iiiri, st1_iiirr, st1_iirii, st1_iirir, st1_iirri, st1_iirrr, st1_iriii, st1_iriir, st1_iriri, st1_irirr, st1_irrii, st1_irrir, st1_irrri, st1_irrrr, st1_riiii, st1_riiir, st1_riiri, st1_riirr, st1_ririi, st1_ririr, st1_rirri, st1_rirrr, st1_rriii, st1_rriir, st1_rriri, st1_rrirr, st1_rrrii, st1_rrrir, st1_rrrri, st1_rrrrr, Option.toList_some, Option.toList_none, List.cons_append, List.nil_append, true_and, and_true, true_implies, false_implies, not_true_eq_false, not_false_eq_true, implies_true, eq_self, s0, g3.1, Nat.add_assoc, nf_6, mc_133, ms_133]
  refine ab_C.up (d := 2) (sp_State_init (a := a + 76) g3 (by omega) (fun j => by rw [hn_1, if_pos rfl]) (fun h4 f4 r4 _ => ?_)) (Nat.le_of_ble_eq_true rfl)
  have P4 := P3.step (c := 3) (b := a + 76) (by omega) (by omega) f4 r4
  simp -implicitDefEqProofs (disch := omega) only [↓ev_rn, ↓ev_aload_0, ↓ev_aload_0N, ↓ev_calli_1, ↓ev_dup_i, ↓ev_dup_r, ↓ev_new, ↓ev_nop, ↓ev_objinit, ↓ev_putfield_1, ↓ev_return_, bq_History_init_0, bk_History_init_0, ↓reduceIte, false_and, and_false, List.not_mem_nil, List.mem_cons, or_false, or_true, true_or, false_or, Nat.reduceEqDiff, ab_ac, ab_ar, Nat.reduceSub, Nat.reduceLeDiff, Nat.reduceAdd, Nat.reduceLT, Int.cast_ofNat_Int, Int.ofNat_toNat, Int.toNat_natCast, ii_0, ii_1, ii_add, ii_sub, ii_mul, ii_neg, ii_lt, ii_le, ii_eq, ii_cl, ii_in, dc_lt_t, dc_lt_f, dc_le_t, dc_le_f, dc_eq_t, dc_eq_f, dn_lt_t, dn_le_t, dn_eq_t, dn_eq_f, hi_1, hi_2, and_self, Option.isSome_none, Option.isSome_some, Bool.false_eq_true, ii_s, ii_m, ii_mn, ii_2, st1_, st1_i, st1_r, st1_ii, st1_ir, st1_ri, st1_rr, st1_iii, st1_iir, st1_iri, st1_irr, st1_rii, st1_rir, st1_rri, st1_rrr, st1_iiii, st1_iiir, st1_iiri, st1_iirr, st1_irii, st1_irir, st1_irri, st1_irrr, st1_riii, st1_riir, st1_riri, st1_rirr, st1_rrii, st1_rrir, st1_rrri, st1_rrrr, st1_iiiii, st1_iiiir, st1_iiiri, st1_iiirr, st1_iirii, st1_iirir, st1_iirri, st1_iirrr, st1_iriii, st1_iriir, st1_iriri, st1_irirr, st1_irrii, st1_irrir, st1_irrri, st1_irrrr, st1_riiii, st1_riiir, st1_riiri, st1_riirr, st1_ririi, st1_ririr, st1_rirri, st1_rirrr, st1_rriii, st1_rriir, st1_rriri, st1_rrirr, st1_rrrii, st1_rrrir, st1_rrrri, st1_rrrrr, Option.toList_some, Option.toList_none, List.cons_append, List.nil_append, true_and, and_true, true_implies, false_implies, not_true_eq_false, not_false_eq_true, implies_true, eq_self, s0, g4.1, Nat.add_assoc, nf_6, mc_133, ms_133]
  refine ab_C.up (d := 2) (sp_State_init (a := a + 101) g4 (by omega) (fun j => by rw [hn_1, if_pos rfl]) (fun h5 f5 r5 _ => ?_)) (Nat.le_of_ble_eq_true rfl)
  have P5 := P4.step (c := 4) (b := a + 101) (by omega) (by omega) f5 r5
  simp -implicitDefEqProofs (disch := omega) only [↓ev_rn, ↓ev_aload_0, ↓ev_aload_0N, ↓ev_calli_1, ↓ev_dup_i, ↓ev_dup_r, ↓ev_new, ↓ev_nop, ↓ev_objinit, ↓ev_putfield_1, ↓ev_return_, bq_History_init_0, bk_History_init_0, ↓reduceIte, false_and, and_false, List.not_mem_nil, List.mem_cons, or_false, or_true, true_or, false_or, Nat.reduceEqDiff, ab_ac, ab_ar, Nat.reduceSub, Nat.reduceLeDiff, Nat.reduceAdd, Nat.reduceLT, Int.cast_ofNat_Int, Int.ofNat_toNat, Int.toNat_natCast, ii_0, ii_1, ii_add, ii_sub, ii_mul, ii_neg, ii_lt, ii_le, ii_eq, ii_cl, ii_in, dc_lt_t, dc_lt_f, dc_le_t, dc_le_f, dc_eq_t, dc_eq_f, dn_lt_t, dn_le_t, dn_eq_t, dn_eq_f, hi_1, hi_2, and_self, Option.isSome_none, Option.isSome_some, Bool.false_eq_true, ii_s, ii_m, ii_mn, ii_2, st1_, st1_i, st1_r, st1_ii, st1_ir, st1_ri, st1_rr, st1_iii, st1_iir, st1_iri, st1_irr, st1_rii, st1_rir, st1_rri, st1_rrr, st1_iiii, st1_iiir, st1_iiri, st1_iirr, st1_irii, st1_irir, st1_irri, st1_irrr, st1_riii, st1_riir, st1_riri, st1_rirr, st1_rrii, st1_rrir, st1_rrri, st1_rrrr, st1_iiiii, st1_iiiir, st1_iiiri, st1_iiirr, st1_iirii, st1_iirir, st1_iirri, st1_iirrr, st1_iriii, st1_iriir, st1_iriri, st1_irirr, st1_irrii, st1_irrir, st1_irrri, st1_irrrr, st1_riiii, st1_riiir, st1_riiri, st1_riirr, st1_ririi, st1_ririr, st1_rirri, st1_rirrr, st1_rriii, st1_rriir, st1_rriri, st1_rrirr, st1_rrrii, st1_rrrir, st1_rrrri, st1_rrrrr, Option.toList_some, Option.toList_none, List.cons_append, List.nil_append, true_and, and_true, true_implies, false_implies, not_true_eq_false, not_false_eq_true, implies_true, eq_self, s0, Nat.add_assoc]
  exact hq _ P5
set_option maxRecDepth 100000 in
set_option maxHeartbeats 4000000 in
theorem sp_Orders_init {a : Nat} {h : ab_H} {Q : Option Value → ab_H → Prop} (s0 : ab_sh a = 5) (s1 : ab_sh (a + 1) = 160) (s2 : ab_sh (a + 2) = 104) (ha : a < 900)
    (hq : ∀ h', sp_fx a (a + 3) h h' → h'.1 a = h.1 a → sp_refs h' [(a, 0, a + 1), (a, 1, a + 2)] → Q none h') : ab_C 1 yn_Orders_init (a + 1) [.ref a] h Q := by
  refine ab_of ⟨Nat.le_of_ble_eq_true rfl, Nat.le_of_ble_eq_true rfl⟩ (by simp [Value.category]) (Nat.le_of_ble_eq_true rfl) ?_
  show ab_W 1 yn_Orders_init 0 (a + 1) 2 64 [some (.ref a)] [] h Q
  refine ab_go [] 12 bo_Orders_init ?_
  simp -implicitDefEqProofs (disch := omega) only [↓ev_rn, ↓ev_aload_0, ↓ev_aload_0N, ↓ev_bipush, ↓ev_iconst, ↓ev_newarray, ↓ev_nop, ↓ev_objinit, ↓ev_putfield_1, ↓ev_return_, bq_Orders_init_0, bk_Orders_init_0, ↓reduceIte, false_and, and_false, List.not_mem_nil, List.mem_cons, or_false, or_true, true_or, false_or, Nat.reduceEqDiff, ab_ac, ab_ar, Nat.reduceSub, Nat.reduceLeDiff, Nat.reduceAdd, Nat.reduceLT, Int.cast_ofNat_Int, Int.ofNat_toNat, Int.toNat_natCast, ii_0, ii_1, ii_add, ii_sub, ii_mul, ii_neg, ii_lt, ii_le, ii_eq, ii_cl, ii_in, dc_lt_t, dc_lt_f, dc_le_t, dc_le_f, dc_eq_t, dc_eq_f, dn_lt_t, dn_le_t, dn_eq_t, dn_eq_f, hi_1, hi_2, and_self, Option.isSome_none, Option.isSome_some, Bool.false_eq_true, ii_s, ii_m, ii_mn, ii_2, st1_, st1_i, st1_r, st1_ii, st1_ir, st1_ri, st1_rr, st1_iii, st1_iir, st1_iri, st1_irr, st1_rii, st1_rir, st1_rri, st1_rrr, st1_iiii, st1_iiir, st1_iiri, st1_iirr, st1_irii, st1_irir, st1_irri, st1_irrr, st1_riii, st1_riir, st1_riri, st1_rirr, st1_rrii, st1_rrir, st1_rrri, st1_rrrr, st1_iiiii, st1_iiiir, st1_iiiri, st1_iiirr, st1_iirii, st1_iirir, st1_iirri, st1_iirrr, st1_iriii, st1_iriir, st1_iriri, st1_irirr, st1_irrii, st1_irrir, st1_irrri, st1_irrrr, st1_riiii, st1_riiir, st1_riiri, st1_riirr, st1_ririi, st1_ririr, st1_rirri, st1_rirrr, st1_rriii, st1_rriir, st1_rriri, st1_rrirr, st1_rrrii, st1_rrrir, st1_rrrri, st1_rrrrr, Option.toList_some, Option.toList_none, List.cons_append, List.nil_append, true_and, and_true, true_implies, false_implies, not_true_eq_false, not_false_eq_true, implies_true, eq_self, s0, s1, s2, Nat.add_assoc, Int.reduceToNat]
  refine hq _ (((((sp_fx.rf.n (by omega)).r (by omega)).n (by omega)).r (by omega))) ?_ (fun q hq => ?_)
  · rw [hr_1, (hn_o (by omega)).1, hr_1, (hn_o (by omega)).1]
  · simp only [List.mem_cons, List.not_mem_nil, or_false] at hq
    rcases hq with rfl | rfl
    · show (ab_hr _ a 1 _).2 a 0 = _
      rw [hr_2, if_neg (by omega), (hn_o (by omega)).2, hr_2, if_pos ⟨rfl, rfl⟩]
    · show (ab_hr _ a 1 _).2 a 1 = _
      rw [hr_2, if_pos ⟨rfl, rfl⟩]
set_option maxRecDepth 100000 in
set_option maxHeartbeats 4000000 in
theorem sp_BestTrade_init {a : Nat} {h : ab_H} {Q : Option Value → ab_H → Prop} (hq : Q none h) : ab_C 1 yn_BestTrade_init (a + 1) [.ref a] h Q := by
  refine ab_of ⟨Nat.le_of_ble_eq_true rfl, Nat.le_of_ble_eq_true rfl⟩ (by simp [Value.category]) (Nat.le_of_ble_eq_true rfl) ?_
  show ab_W 1 yn_BestTrade_init 0 (a + 1) 0 0 [some (.ref a)] [] h Q
  refine ab_go [] 12 bo_BestTrade_init ?_
  simp -implicitDefEqProofs (disch := omega) only [↓ev_rn, ↓ev_aload_0, ↓ev_aload_0N, ↓ev_nop, ↓ev_objinit, ↓ev_return_, bq_BestTrade_init_0, bk_BestTrade_init_0, ↓reduceIte, false_and, and_false, List.not_mem_nil, List.mem_cons, or_false, or_true, true_or, false_or, Nat.reduceEqDiff, ab_ac, ab_ar, Nat.reduceSub, Nat.reduceLeDiff, Nat.reduceAdd, Nat.reduceLT, Int.cast_ofNat_Int, Int.ofNat_toNat, Int.toNat_natCast, ii_0, ii_1, ii_add, ii_sub, ii_mul, ii_neg, ii_lt, ii_le, ii_eq, ii_cl, ii_in, dc_lt_t, dc_lt_f, dc_le_t, dc_le_f, dc_eq_t, dc_eq_f, dn_lt_t, dn_le_t, dn_eq_t, dn_eq_f, hi_1, hi_2, and_self, Option.isSome_none, Option.isSome_some, Bool.false_eq_true, ii_s, ii_m, ii_mn, ii_2, st1_, st1_i, st1_r, st1_ii, st1_ir, st1_ri, st1_rr, st1_iii, st1_iir, st1_iri, st1_irr, st1_rii, st1_rir, st1_rri, st1_rrr, st1_iiii, st1_iiir, st1_iiri, st1_iirr, st1_irii, st1_irir, st1_irri, st1_irrr, st1_riii, st1_riir, st1_riri, st1_rirr, st1_rrii, st1_rrir, st1_rrri, st1_rrrr, st1_iiiii, st1_iiiir, st1_iiiri, st1_iiirr, st1_iirii, st1_iirir, st1_iirri, st1_iirrr, st1_iriii, st1_iriir, st1_iriri, st1_irirr, st1_irrii, st1_irrir, st1_irrri, st1_irrrr, st1_riiii, st1_riiir, st1_riiri, st1_riirr, st1_ririi, st1_ririr, st1_rirri, st1_rirrr, st1_rriii, st1_rriir, st1_rriri, st1_rrirr, st1_rrrii, st1_rrrir, st1_rrrri, st1_rrrrr, Option.toList_some, Option.toList_none, List.cons_append, List.nil_append, true_and, and_true, true_implies, false_implies, not_true_eq_false, not_false_eq_true, implies_true, eq_self]
  exact hq
set_option maxRecDepth 100000 in
set_option maxHeartbeats 4000000 in
theorem sp_Bench_init {a : Nat} {h : ab_H} {Q : Option Value → ab_H → Prop} (s0 : ab_sh a = 0) (s1 : ab_sh (a + 1) = 2) (s2 : ab_sh (a + 2) = 116) (s3 : ab_sh (a + 3) = 132) (s4 : ab_sh (a + 4) = 132) (s5 : ab_sh (a + 5) = 132) (s6 : ab_sh (a + 6) = 2) (s7 : ab_sh (a + 7) = 116) (s8 : ab_sh (a + 8) = 132) (s9 : ab_sh (a + 9) = 132) (s10 : ab_sh (a + 10) = 132) (ha : a < 800)
    (hq : ∀ h', sp_fx a (a + 11) h h' → h'.2 a 0 = a + 1 → h'.2 a 1 = a + 6 → sp_refs h' (bk_fr (a + 1)) → sp_refs h' (bk_fr (a + 6)) → Q none h') : ab_C 2 yn_Bench_init (a + 1) [.ref a] h Q := by
  refine ab_of ⟨Nat.le_of_ble_eq_true rfl, Nat.le_of_ble_eq_true rfl⟩ (by simp [Value.category]) (Nat.le_of_ble_eq_true rfl) ?_
  show ab_W 2 yn_Bench_init 0 (a + 1) 10 236 [some (.ref a)] [] h Q
  refine ab_go [] 12 bo_Bench_init ?_
  simp -implicitDefEqProofs (disch := omega) only [↓ev_rn, ↓ev_aload_0, ↓ev_aload_0N, ↓ev_calli_2, ↓ev_dup_i, ↓ev_dup_r, ↓ev_getfield_1, ↓ev_iconst, ↓ev_new, ↓ev_nop, ↓ev_objinit, ↓ev_putfield_1, ↓ev_return_, bq_Bench_init_0, bk_Bench_init_0, ↓reduceIte, false_and, and_false, List.not_mem_nil, List.mem_cons, or_false, or_true, true_or, false_or, Nat.reduceEqDiff, ab_ac, ab_ar, Nat.reduceSub, Nat.reduceLeDiff, Nat.reduceAdd, Nat.reduceLT, Int.cast_ofNat_Int, Int.ofNat_toNat, Int.toNat_natCast, ii_0, ii_1, ii_add, ii_sub, ii_mul, ii_neg, ii_lt, ii_le, ii_eq, ii_cl, ii_in, dc_lt_t, dc_lt_f, dc_le_t, dc_le_f, dc_eq_t, dc_eq_f, dn_lt_t, dn_le_t, dn_eq_t, dn_eq_f, hi_1, hi_2, and_self, Option.isSome_none, Option.isSome_some, Bool.false_eq_true, ii_s, ii_m, ii_mn, ii_2, st1_, st1_i, st1_r, st1_ii, st1_ir, st1_ri, st1_rr, st1_iii, st1_iir, st1_iri, st1_irr, st1_rii, st1_rir, st1_rri, st1_rrr, st1_iiii, st1_iiir, st1_iiri, st1_iirr, st1_irii, st1_irir, st1_irri, st1_irrr, st1_riii, st1_riir, st1_riri, st1_rirr, st1_rrii, st1_rrir, st1_rrri, st1_rrrr, st1_iiiii, st1_iiiir, st1_iiiri, st1_iiirr, st1_iirii, st1_iirir, st1_iirri, st1_iirrr, st1_iriii, st1_iriir, st1_iriri, st1_irirr, st1_irrii, st1_irrir, st1_irrri, st1_irrrr, st1_riiii, st1_riiir, st1_riiri, st1_riirr, st1_ririi, st1_ririr, st1_rirri, st1_rirrr, st1_rriii, st1_rriir, st1_rriri, st1_rrirr, st1_rrrii, st1_rrrir, st1_rrrri, st1_rrrrr, Option.toList_some, Option.toList_none, List.cons_append, List.nil_append, true_and, and_true, true_implies, false_implies, not_true_eq_false, not_false_eq_true, implies_true, eq_self, s0, s1, Nat.add_assoc, nf_2, mc_93, ms_93]
  refine ab_C.up (d := 1) (sp_Book_init (a := a + 1) s1 s2 s3 s4 s5 (by omega) (by rw [hn_1, if_pos rfl]) (fun h1 f1 r1 _ => ?_)) (Nat.le_of_ble_eq_true rfl)
  obtain ⟨p1, p2, p3, p4⟩ := st_part (f := 0) (show a < a + 1 by omega) (show a + 1 < a + 1 + 5 by omega) f1
  simp -implicitDefEqProofs (disch := omega) only [↓ev_rn, ↓ev_aload_0, ↓ev_aload_0N, ↓ev_calli_2, ↓ev_dup_i, ↓ev_dup_r, ↓ev_getfield_1, ↓ev_iconst, ↓ev_new, ↓ev_nop, ↓ev_objinit, ↓ev_putfield_1, ↓ev_return_, bq_Bench_init_0, bk_Bench_init_0, ↓reduceIte, false_and, and_false, List.not_mem_nil, List.mem_cons, or_false, or_true, true_or, false_or, Nat.reduceEqDiff, ab_ac, ab_ar, Nat.reduceSub, Nat.reduceLeDiff, Nat.reduceAdd, Nat.reduceLT, Int.cast_ofNat_Int, Int.ofNat_toNat, Int.toNat_natCast, ii_0, ii_1, ii_add, ii_sub, ii_mul, ii_neg, ii_lt, ii_le, ii_eq, ii_cl, ii_in, dc_lt_t, dc_lt_f, dc_le_t, dc_le_f, dc_eq_t, dc_eq_f, dn_lt_t, dn_le_t, dn_eq_t, dn_eq_f, hi_1, hi_2, and_self, Option.isSome_none, Option.isSome_some, Bool.false_eq_true, ii_s, ii_m, ii_mn, ii_2, st1_, st1_i, st1_r, st1_ii, st1_ir, st1_ri, st1_rr, st1_iii, st1_iir, st1_iri, st1_irr, st1_rii, st1_rir, st1_rri, st1_rrr, st1_iiii, st1_iiir, st1_iiri, st1_iirr, st1_irii, st1_irir, st1_irri, st1_irrr, st1_riii, st1_riir, st1_riri, st1_rirr, st1_rrii, st1_rrir, st1_rrri, st1_rrrr, st1_iiiii, st1_iiiir, st1_iiiri, st1_iiirr, st1_iirii, st1_iirir, st1_iirri, st1_iirrr, st1_iriii, st1_iriir, st1_iriri, st1_irirr, st1_irrii, st1_irrir, st1_irrri, st1_irrrr, st1_riiii, st1_riiir, st1_riiri, st1_riirr, st1_ririi, st1_ririr, st1_rirri, st1_rirrr, st1_rriii, st1_rriir, st1_rriri, st1_rrirr, st1_rrrii, st1_rrrir, st1_rrrri, st1_rrrrr, Option.toList_some, Option.toList_none, List.cons_append, List.nil_append, true_and, and_true, true_implies, false_implies, not_true_eq_false, not_false_eq_true, implies_true, eq_self, s0, s6, Nat.add_assoc, nf_2, mc_93, ms_93]
  refine ab_C.up (d := 1) (sp_Book_init (a := a + 6) s6 s7 s8 s9 s10 (by omega) (by rw [hn_1, if_pos rfl]) (fun h2 f2 r2 _ => ?_)) (Nat.le_of_ble_eq_true rfl)
  obtain ⟨o1, o2, o3, o4⟩ := st_part (f := 1) (show a < a + 6 by omega) (show a + 6 < a + 6 + 5 by omega) f2
  have e0 : (ab_hr h2 a 1 (a + 6)).2 a 0 = a + 1 := by rw [o3, if_neg (by omega), p3, if_pos rfl]
  have e1 : (ab_hr h2 a 1 (a + 6)).2 a 1 = a + 6 := by rw [o3, if_pos rfl]
  have e2 : (ab_hr (ab_hr h2 a 1 (a + 6)) a 2 (a + 1)).2 a 1 = a + 6 := by rw [hr_2, if_neg (by omega)]; exact e1
  simp -implicitDefEqProofs (disch := omega) only [↓ev_rn, ↓ev_aload_0, ↓ev_aload_0N, ↓ev_calli_2, ↓ev_dup_i, ↓ev_dup_r, ↓ev_getfield_1, ↓ev_iconst, ↓ev_new, ↓ev_nop, ↓ev_objinit, ↓ev_putfield_1, ↓ev_return_, bq_Bench_init_0, bk_Bench_init_0, ↓reduceIte, false_and, and_false, List.not_mem_nil, List.mem_cons, or_false, or_true, true_or, false_or, Nat.reduceEqDiff, ab_ac, ab_ar, Nat.reduceSub, Nat.reduceLeDiff, Nat.reduceAdd, Nat.reduceLT, Int.cast_ofNat_Int, Int.ofNat_toNat, Int.toNat_natCast, ii_0, ii_1, ii_add, ii_sub, ii_mul, ii_neg, ii_lt, ii_le, ii_eq, ii_cl, ii_in, dc_lt_t, dc_lt_f, dc_le_t, dc_le_f, dc_eq_t, dc_eq_f, dn_lt_t, dn_le_t, dn_eq_t, dn_eq_f, hi_1, hi_2, and_self, Option.isSome_none, Option.isSome_some, Bool.false_eq_true, ii_s, ii_m, ii_mn, ii_2, st1_, st1_i, st1_r, st1_ii, st1_ir, st1_ri, st1_rr, st1_iii, st1_iir, st1_iri, st1_irr, st1_rii, st1_rir, st1_rri, st1_rrr, st1_iiii, st1_iiir, st1_iiri, st1_iirr, st1_irii, st1_irir, st1_irri, st1_irrr, st1_riii, st1_riir, st1_riri, st1_rirr, st1_rrii, st1_rrir, st1_rrri, st1_rrrr, st1_iiiii, st1_iiiir, st1_iiiri, st1_iiirr, st1_iirii, st1_iirir, st1_iirri, st1_iirrr, st1_iriii, st1_iriir, st1_iriri, st1_irirr, st1_irrii, st1_irrir, st1_irrri, st1_irrrr, st1_riiii, st1_riiir, st1_riiri, st1_riirr, st1_ririi, st1_ririr, st1_rirri, st1_rirrr, st1_rriii, st1_rriir, st1_rriri, st1_rrirr, st1_rrrii, st1_rrrir, st1_rrrri, st1_rrrrr, Option.toList_some, Option.toList_none, List.cons_append, List.nil_append, true_and, and_true, true_implies, false_implies, not_true_eq_false, not_false_eq_true, implies_true, eq_self, s0, s1, s6, Nat.add_assoc, e0, e2]
  refine hq _ (fun k hk => ⟨?_, ?_⟩) ?_ ?_ ?_ ?_
  · rw [hr_1, hr_1, o1 k (by omega), p1 k (by omega)]
  · rw [hr_o (by omega), hr_o (by omega), o2 k (by omega) (by omega), p2 k (by omega) (by omega)]
  · rw [hr_2, if_neg (by omega), hr_2, if_neg (by omega)]; exact e0
  · rw [hr_2, if_neg (by omega)]; exact e2
  · refine r1.at (bk_fr_k _) ?_
    rw [hr_o (by omega), hr_o (by omega), o2 _ (by omega) (by omega), (p4 _ (by omega) (by omega)).2]
  · refine r2.at (bk_fr_k _) ?_
    rw [hr_o (by omega), hr_o (by omega), (o4 _ (by omega) (by omega)).2]
