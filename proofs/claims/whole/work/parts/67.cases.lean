/-! ===== the law's calls, a theorem each (printed by wip/whole/mkcases.py) ===== -/
theorem sp_mb.mg {h h' : ab_H} (a : sp_mb h h') : sp_mg h h' := ⟨a.1, fun k hk => a.2.1 k (by omega) (by omega), a.2.1 197 (by omega) (by omega), a.2.2 7 (by omega)⟩
theorem sp_mf.mg {h h' : ab_H} (a : sp_mf h h') : sp_mg h h' := a.mb.mg
theorem sp_MW.mb {h h' : ab_H} {b : Bool} {s : St} {H : List St} (a : sp_MW h b s H) (f : sp_mb h h') : sp_MW h' b s H :=
  ⟨a.1.of f.1, by rw [f.r]; exact a.2.1, a.2.2.1.fr (f.2.2 4 (by omega)) (f.2.1 196 (by omega) (by omega)), (f.2.2 5 (by omega)).trans a.2.2.2⟩
theorem sp_MW.mt {h h' : ab_H} {b : Bool} {s : St} {H : List St} (a : sp_MW h b s H) (f : sp_mt h h') : sp_MW h' b s H :=
  ⟨a.1.of f.1, by rw [f.2.1 193 (by omega) (by omega)]; exact a.2.1, a.2.2.1.fr (f.2.2 4 (by omega)) (f.2.1 196 (by omega) (by omega)), (f.2.2 5 (by omega)).trans a.2.2.2⟩
/-- the class's world stays when cells of the model alone change -/
theorem sp_CW.lo {h h' : ab_H} {w : Wd} (a : sp_CW h w) (e : h'.2 = h.2) (e2 : ∀ k, k < 192 → h'.1 k = h.1 k) : sp_CW h' w :=
  ⟨a.1.of e, a.2.1.frame (fun k k1 k2 => e2 k (by omega)), a.2.2.1.frame (by rw [e]) (fun k k1 k2 => e2 k (by omega)), ⟨by rw [e2 177 (by omega)]; exact a.2.2.2.1, fun p hp => by rw [e2 178 (by omega)]; exact a.2.2.2.2 p hp⟩⟩
/-- the model's world stays when cells of the class alone change -/
theorem sp_MW.cf {h h' : ab_H} {b : Bool} {s : St} {H : List St} (a : sp_MW h b s H) (f : sp_cf h h') (hF : sp_F h') : sp_MW h' b s H :=
  ⟨hF, by rw [(f 193 (by omega)).1]; exact a.2.1, a.2.2.1.fr (by rw [(f 192 (by omega)).1]) ((f 196 (by omega)).1), by rw [(f 192 (by omega)).1]; exact a.2.2.2⟩
theorem sp_Tx.cf {h h' : ab_H} {T : List Int} (a : sp_Tx h T) (f : sp_cf h h') : sp_Tx h' T := by
  unfold sp_Tx at a ⊢
  rw [(f 192 (by omega)).1, (f 197 (by omega)).1]
  exact a
/-- both worlds, and what holds of the state and of what was recorded -/
def lw_I (w : Wd) (M : Int) : Prop := st_inv M w.1 ∧ (∀ t ∈ w.2.1, st_inv M t) ∧ tx_ok w.2.2
def lw_V (h : ab_H) (w : Wd) (M : Int) : Prop := sp_CW h w ∧ sp_MW h false w.1 w.2.1 ∧ sp_Tx h w.2.2 ∧ lw_I w M
theorem lw_I.up {w : Wd} {M N : Int} (a : lw_I w M) (h : M ≤ N) : lw_I w N := ⟨a.1.up h, fun t ht => (a.2.1 t ht).up h, a.2.2⟩
theorem lw_I.op {w : Wd} {M k : Int} {r : Int32 × St} (a : lw_I w M) (h : op_r M w.1 r) (hk : 1 ≤ k) : lw_I (wd_do w r) (M + k) := by
  refine ⟨?_, fun t ht => ?_, a.2.2⟩
  · rcases h with ⟨-, h⟩ | ⟨h, -⟩
    · exact h.up (by omega)
    · show st_inv (M + k) r.2
      rw [h]; exact a.1.up (by omega)
  · have ht2 : t ∈ (if r.1 < Int32.ofInt 0 then w.2.1 else hi_keep w.1 w.2.1) := ht
    split at ht2
    · exact (a.2.1 t ht2).up (by omega)
    · rcases List.mem_cons.mp (List.mem_of_mem_take ht2) with rfl | g
      · exact a.1.up (by omega)
      · exact (a.2.1 t g).up (by omega)
theorem lw_fin_op {h h' h2 : ab_H} {w : Wd} {M : Int} {r : Int32 × St} (V : lw_V h w M) (o : op_r M w.1 r) (c : sp_CW h' (wd_do w r)) (f : sp_cf h h') (g1 : sp_md h' h2) (g2 : sp_MW h2 false r.2 (md_H false w.1 w.2.1 r.1)) : lw_V h2 (wd_do w r) (M + 61) :=
  ⟨c.lo g1.1 g1.mg.2.1, g2, (V.2.2.1.cf f).mg g1.mg, V.2.2.2.op o (by omega)⟩
theorem lw_fin_q {h h' h2 : ab_H} {w : Wd} {M : Int} (V : lw_V h w M) (c : sp_CW h' w) (f : sp_cf h h') (g1 : sp_mg h' h2) (g2 : sp_MW h2 false w.1 w.2.1) : lw_V h2 w (M + 61) :=
  ⟨c.lo g1.1 g1.2.1, g2, (V.2.2.1.cf f).mg g1, V.2.2.2.up (by omega)⟩
/-- what a played text leaves of the invariants -/
theorem or_run_inv {T : List Int} : ∀ (k p n : Nat) (s : St) (M : Int), 0 ≤ M → M + k ≤ 1000000 → st_inv M s → st_inv (M + k) (or_run T k p s n).2.2.2.2
  | 0, p, n, s, M, _, _, h => by rw [or_run]; exact h.up (by omega)
  | k + 1, p, n, s, M, h0, h1, h => by
    have o := or_do_r (x := tx T p) (f := (or_read T p).2.2) h h0 (by omega)
    rw [or_run]
    split
    · split
      · have hn : st_inv (M + 1) (or_do s (tx T p) (or_read T p).2.2).2 := by
          rcases o with ⟨-, g⟩ | ⟨g, -⟩
          · exact g
          · rw [g]; exact h.up (by omega)
        split
        · exact hn.up (by omega)
        · have g := or_run_inv (T := T) k (or_read T p).2.1 (n + 1) (or_do s (tx T p) (or_read T p).2.2).2 (M + 1) (by omega) (by omega) hn
          exact g.up (by omega)
      · exact h.up (by omega)
    · exact h.up (by omega)
theorem lw_I.play {w : Wd} {M : Int} (a : lw_I w M) (m0 : 0 ≤ M) (m1 : M ≤ 900000) : lw_I (wd_play w).2 (M + 61) := by
  unfold wd_play
  split
  · have g : st_inv (M + 61) (or_all w.2.2 w.1).2.2.2.2 := or_run_inv 61 0 0 w.1 M m0 (by omega) a.1
    refine ⟨g, fun t ht => ?_, a.2.2⟩
    have ht2 : t ∈ (if Int32.ofInt ((or_all w.2.2 w.1).2.2.2.1 : Int) < Int32.ofInt 0 then w.2.1 else hi_keep w.1 w.2.1) := ht
    split at ht2
    · exact (a.2.1 t ht2).up (by omega)
    · rcases List.mem_cons.mp (List.mem_of_mem_take ht2) with rfl | g
      · exact a.1.up (by omega)
      · exact (a.2.1 t g).up (by omega)
  · exact a.up (by omega)
section
variable {p : Program} {l : Launch} {e : Env} {s : State} {m : MethodId} {below : List Frame} {meth : Method} {c : Code} {b L i : Nat} {xs : Nat → Int32} {D : va_G} {cA : ClassId} {Z : State → Prop} {H : Heap} {locs : List Loc} {cells slots : Nat} {ls : Array Slot} {h : ab_H} {w : Wd} {M : Int}

theorem lw_k0 (C : lw_Cx p s m meth c b L xs D cA) (V : lw_V h w M) (m0 : 0 ≤ M) (m1 : M ≤ 900000) (hi : i + 5 ≤ L) (hL : L ≤ 2560) (X : ab_Wd D cA s.heap.size 200 h H) (S : ab_S s.heap.size s.heap H locs) (hl : lv_has ls 4 (lw_L s b (Int32.ofInt i))) (hce : cells ≤ 200) (hsl : slots ≤ 5573)
    (hg : ∀ w' h' H' locs', lw_V h' w' (M + 61) → ab_Wd D cA s.heap.size 200 h' H' → ab_S s.heap.size s.heap H' locs' → W p l e room_1 s m #[Value.ref b] below meth c H' locs' cells slots Z (F0 m 913 ls [])) : W p l e room_1 s m #[Value.ref b] below meth c H locs cells slots Z (F0 m 148 ls []) := by
  obtain ⟨z1, y1, u1, e1⟩ := ii_of (xs (i + 1))
  obtain ⟨z2, y2, u2, e2⟩ := ii_of (xs (i + 2))
  refine lw_pair (d1 := 5) (d2 := 1) (v := (op_name w.1 z1 z2).1) (P1 := fun h' => sp_CW h' (wd_do w (op_name w.1 z1 z2)) ∧ sp_cf h h') (P2 := fun h2 => ∃ w', lw_V h2 w' (M + 61)) C lw_s0 (by decide) hi hL X S hl (by decide) (by decide) hce hsl ?_ ?_ (fun h' H' locs' q1 q2 q3 => by obtain ⟨w', q1⟩ := q1; exact hg w' h' H' locs' q1 q2 q3)
  · show ab_C _ yn_Fair_name 200 [.ref 0, .int (xs (i + 1)), .int (xs (i + 2))] h _
    rw [e1, e2]
    exact fc_name V.1 V.2.2.2.1 m0 m1 y1 u1 y2 u2 (fun h' q1 q2 => ⟨rfl, q1, q2⟩)
  · rintro h' ⟨q1, q2⟩
    have W1 := V.2.1.cf q2 q1.1
    show ab_C _ yn_Model_name 200 [.ref 192, .int (xs (i + 1)), .int (xs (i + 2))] h' _
    rw [e1, e2]
    exact sp_Model_name W1 V.2.2.2.1 y1 u1 y2 u2 (fun h2 g1 g2 => ⟨rfl, _, lw_fin_op V (op_name_r V.2.2.2.1 m0) q1 q2 g1 g2⟩)

theorem lw_k1 (C : lw_Cx p s m meth c b L xs D cA) (V : lw_V h w M) (m0 : 0 ≤ M) (m1 : M ≤ 900000) (hi : i + 5 ≤ L) (hL : L ≤ 2560) (X : ab_Wd D cA s.heap.size 200 h H) (S : ab_S s.heap.size s.heap H locs) (hl : lv_has ls 4 (lw_L s b (Int32.ofInt i))) (hce : cells ≤ 200) (hsl : slots ≤ 5573)
    (hg : ∀ w' h' H' locs', lw_V h' w' (M + 61) → ab_Wd D cA s.heap.size 200 h' H' → ab_S s.heap.size s.heap H' locs' → W p l e room_1 s m #[Value.ref b] below meth c H' locs' cells slots Z (F0 m 913 ls [])) : W p l e room_1 s m #[Value.ref b] below meth c H locs cells slots Z (F0 m 181 ls []) := by
  obtain ⟨z1, y1, u1, e1⟩ := ii_of (xs (i + 1))
  refine lw_pair (d1 := 5) (d2 := 2) (v := (op_leaf w.1 z1).1) (P1 := fun h' => sp_CW h' (wd_do w (op_leaf w.1 z1)) ∧ sp_cf h h') (P2 := fun h2 => ∃ w', lw_V h2 w' (M + 61)) C lw_s1 (by decide) hi hL X S hl (by decide) (by decide) hce hsl ?_ ?_ (fun h' H' locs' q1 q2 q3 => by obtain ⟨w', q1⟩ := q1; exact hg w' h' H' locs' q1 q2 q3)
  · show ab_C _ yn_Fair_leaf 200 [.ref 0, .int (xs (i + 1))] h _
    rw [e1]
    exact fc_leaf V.1 V.2.2.2.1 m0 m1 y1 u1 (fun h' q1 q2 => ⟨rfl, q1, q2⟩)
  · rintro h' ⟨q1, q2⟩
    have W1 := V.2.1.cf q2 q1.1
    show ab_C _ yn_Model_leaf 200 [.ref 192, .int (xs (i + 1))] h' _
    rw [e1]
    exact sp_Model_leaf W1 V.2.2.2.1 (by omega) y1 u1 (fun h2 g1 g2 => ⟨rfl, _, lw_fin_op V (op_leaf_r V.2.2.2.1 m0 (by omega)) q1 q2 g1 g2⟩)

theorem lw_k2 (C : lw_Cx p s m meth c b L xs D cA) (V : lw_V h w M) (m0 : 0 ≤ M) (m1 : M ≤ 900000) (hi : i + 5 ≤ L) (hL : L ≤ 2560) (X : ab_Wd D cA s.heap.size 200 h H) (S : ab_S s.heap.size s.heap H locs) (hl : lv_has ls 4 (lw_L s b (Int32.ofInt i))) (hce : cells ≤ 200) (hsl : slots ≤ 5573)
    (hg : ∀ w' h' H' locs', lw_V h' w' (M + 61) → ab_Wd D cA s.heap.size 200 h' H' → ab_S s.heap.size s.heap H' locs' → W p l e room_1 s m #[Value.ref b] below meth c H' locs' cells slots Z (F0 m 913 ls [])) : W p l e room_1 s m #[Value.ref b] below meth c H locs cells slots Z (F0 m 204 ls []) := by
  obtain ⟨z2, y2, u2, e2⟩ := ii_of (xs (i + 2))
  obtain ⟨z3, y3, u3, e3⟩ := ii_of (xs (i + 3))
  refine lw_pair (d1 := 5) (d2 := 7) (v := (op_enter w.1 (xs (i + 1)) z2 z3 (Int32.ofInt (-1))).1) (P1 := fun h' => sp_CW h' (wd_do w (op_enter w.1 (xs (i + 1)) z2 z3 (Int32.ofInt (-1)))) ∧ sp_cf h h') (P2 := fun h2 => ∃ w', lw_V h2 w' (M + 61)) C lw_s2 (by decide) hi hL X S hl (by decide) (by decide) hce hsl ?_ ?_ (fun h' H' locs' q1 q2 q3 => by obtain ⟨w', q1⟩ := q1; exact hg w' h' H' locs' q1 q2 q3)
  · show ab_C _ yn_Fair_sign 200 [.ref 0, .int (xs (i + 1)), .int (xs (i + 2)), .int (xs (i + 3))] h _
    rw [e2, e3]
    exact fc_sign V.1 V.2.2.2.1 m0 m1 y2 u2 y3 u3 (fun h' q1 q2 => ⟨rfl, q1, q2⟩)
  · rintro h' ⟨q1, q2⟩
    have W1 := V.2.1.cf q2 q1.1
    show ab_C _ yn_Model_sign 200 [.ref 192, .int (xs (i + 1)), .int (xs (i + 2)), .int (xs (i + 3))] h' _
    rw [e2, e3]
    exact sp_Model_sign W1 V.2.2.2.1 m0 y2 u2 y3 u3 (fun h2 g1 g2 => ⟨rfl, _, lw_fin_op V (op_enter_r V.2.2.2.1 m0 ⟨-1, by omega, by omega, rfl⟩) q1 q2 g1 g2⟩)

theorem lw_k3 (C : lw_Cx p s m meth c b L xs D cA) (V : lw_V h w M) (m0 : 0 ≤ M) (m1 : M ≤ 900000) (hi : i + 5 ≤ L) (hL : L ≤ 2560) (X : ab_Wd D cA s.heap.size 200 h H) (S : ab_S s.heap.size s.heap H locs) (hl : lv_has ls 4 (lw_L s b (Int32.ofInt i))) (hce : cells ≤ 200) (hsl : slots ≤ 5573)
    (hg : ∀ w' h' H' locs', lw_V h' w' (M + 61) → ab_Wd D cA s.heap.size 200 h' H' → ab_S s.heap.size s.heap H' locs' → W p l e room_1 s m #[Value.ref b] below meth c H' locs' cells slots Z (F0 m 913 ls [])) : W p l e room_1 s m #[Value.ref b] below meth c H locs cells slots Z (F0 m 247 ls []) := by
  obtain ⟨z2, y2, u2, e2⟩ := ii_of (xs (i + 2))
  refine lw_pair (d1 := 5) (d2 := 3) (v := (op_over w.1 (xs (i + 1)) z2).1) (P1 := fun h' => sp_CW h' (wd_do w (op_over w.1 (xs (i + 1)) z2)) ∧ sp_cf h h') (P2 := fun h2 => ∃ w', lw_V h2 w' (M + 61)) C lw_s3 (by decide) hi hL X S hl (by decide) (by decide) hce hsl ?_ ?_ (fun h' H' locs' q1 q2 q3 => by obtain ⟨w', q1⟩ := q1; exact hg w' h' H' locs' q1 q2 q3)
  · show ab_C _ yn_Fair_over 200 [.ref 0, .int (xs (i + 1)), .int (xs (i + 2))] h _
    rw [e2]
    exact fc_over V.1 V.2.2.2.1 m0 m1 y2 u2 (fun h' q1 q2 => ⟨rfl, q1, q2⟩)
  · rintro h' ⟨q1, q2⟩
    have W1 := V.2.1.cf q2 q1.1
    show ab_C _ yn_Model_over 200 [.ref 192, .int (xs (i + 1)), .int (xs (i + 2))] h' _
    rw [e2]
    exact sp_Model_over W1 V.2.2.2.1 m0 y2 u2 (fun h2 g1 g2 => ⟨rfl, _, lw_fin_op V (op_over_r V.2.2.2.1 m0) q1 q2 g1 g2⟩)

theorem lw_k4 (C : lw_Cx p s m meth c b L xs D cA) (V : lw_V h w M) (m0 : 0 ≤ M) (m1 : M ≤ 900000) (hi : i + 5 ≤ L) (hL : L ≤ 2560) (X : ab_Wd D cA s.heap.size 200 h H) (S : ab_S s.heap.size s.heap H locs) (hl : lv_has ls 4 (lw_L s b (Int32.ofInt i))) (hce : cells ≤ 200) (hsl : slots ≤ 5573)
    (hg : ∀ w' h' H' locs', lw_V h' w' (M + 61) → ab_Wd D cA s.heap.size 200 h' H' → ab_S s.heap.size s.heap H' locs' → W p l e room_1 s m #[Value.ref b] below meth c H' locs' cells slots Z (F0 m 913 ls [])) : W p l e room_1 s m #[Value.ref b] below meth c H locs cells slots Z (F0 m 280 ls []) := by
  obtain ⟨z2, y2, u2, e2⟩ := ii_of (xs (i + 2))
  obtain ⟨z3, y3, u3, e3⟩ := ii_of (xs (i + 3))
  refine lw_pair (d1 := 5) (d2 := 6) (v := (op_ded w.1 (xs (i + 1)) z2 z3).1) (P1 := fun h' => sp_CW h' (wd_do w (op_ded w.1 (xs (i + 1)) z2 z3)) ∧ sp_cf h h') (P2 := fun h2 => ∃ w', lw_V h2 w' (M + 61)) C lw_s4 (by decide) hi hL X S hl (by decide) (by decide) hce hsl ?_ ?_ (fun h' H' locs' q1 q2 q3 => by obtain ⟨w', q1⟩ := q1; exact hg w' h' H' locs' q1 q2 q3)
  · show ab_C _ yn_Fair_dedicate 200 [.ref 0, .int (xs (i + 1)), .int (xs (i + 2)), .int (xs (i + 3))] h _
    rw [e2, e3]
    exact fc_dedicate V.1 V.2.2.2.1 m0 m1 y2 u2 y3 u3 (fun h' q1 q2 => ⟨rfl, q1, q2⟩)
  · rintro h' ⟨q1, q2⟩
    have W1 := V.2.1.cf q2 q1.1
    show ab_C _ yn_Model_dedicate 200 [.ref 192, .int (xs (i + 1)), .int (xs (i + 2)), .int (xs (i + 3))] h' _
    rw [e2, e3]
    exact sp_Model_dedicate W1 V.2.2.2.1 m0 y2 u2 y3 u3 (fun h2 g1 g2 => ⟨rfl, _, lw_fin_op V (op_ded_r V.2.2.2.1 m0) q1 q2 g1 g2⟩)

theorem lw_k5 (C : lw_Cx p s m meth c b L xs D cA) (V : lw_V h w M) (m0 : 0 ≤ M) (m1 : M ≤ 900000) (hi : i + 5 ≤ L) (hL : L ≤ 2560) (X : ab_Wd D cA s.heap.size 200 h H) (S : ab_S s.heap.size s.heap H locs) (hl : lv_has ls 4 (lw_L s b (Int32.ofInt i))) (hce : cells ≤ 200) (hsl : slots ≤ 5573)
    (hg : ∀ w' h' H' locs', lw_V h' w' (M + 61) → ab_Wd D cA s.heap.size 200 h' H' → ab_S s.heap.size s.heap H' locs' → W p l e room_1 s m #[Value.ref b] below meth c H' locs' cells slots Z (F0 m 913 ls [])) : W p l e room_1 s m #[Value.ref b] below meth c H locs cells slots Z (F0 m 323 ls []) := by
  obtain ⟨z2, y2, u2, e2⟩ := ii_of (xs (i + 2))
  refine lw_pair (d1 := 6) (d2 := 3) (v := (op_move w.1 (xs (i + 1)) z2).1) (P1 := fun h' => sp_CW h' (wd_do w (op_move w.1 (xs (i + 1)) z2)) ∧ sp_cf h h') (P2 := fun h2 => ∃ w', lw_V h2 w' (M + 61)) C lw_s5 (by decide) hi hL X S hl (by decide) (by decide) hce hsl ?_ ?_ (fun h' H' locs' q1 q2 q3 => by obtain ⟨w', q1⟩ := q1; exact hg w' h' H' locs' q1 q2 q3)
  · show ab_C _ yn_Fair_move 200 [.ref 0, .int (xs (i + 1)), .int (xs (i + 2))] h _
    rw [e2]
    exact fc_move V.1 V.2.2.2.1 m0 m1 y2 u2 (fun h' q1 q2 => ⟨rfl, q1, q2⟩)
  · rintro h' ⟨q1, q2⟩
    have W1 := V.2.1.cf q2 q1.1
    show ab_C _ yn_Model_move 200 [.ref 192, .int (xs (i + 1)), .int (xs (i + 2))] h' _
    rw [e2]
    exact sp_Model_move W1 V.2.2.2.1 y2 u2 (fun h2 g1 g2 => ⟨rfl, _, lw_fin_op V (op_move_r V.2.2.2.1 m0) q1 q2 g1 g2⟩)

theorem lw_k6 (C : lw_Cx p s m meth c b L xs D cA) (V : lw_V h w M) (m0 : 0 ≤ M) (m1 : M ≤ 900000) (hi : i + 5 ≤ L) (hL : L ≤ 2560) (X : ab_Wd D cA s.heap.size 200 h H) (S : ab_S s.heap.size s.heap H locs) (hl : lv_has ls 4 (lw_L s b (Int32.ofInt i))) (hce : cells ≤ 200) (hsl : slots ≤ 5573)
    (hg : ∀ w' h' H' locs', lw_V h' w' (M + 61) → ab_Wd D cA s.heap.size 200 h' H' → ab_S s.heap.size s.heap H' locs' → W p l e room_1 s m #[Value.ref b] below meth c H' locs' cells slots Z (F0 m 913 ls [])) : W p l e room_1 s m #[Value.ref b] below meth c H locs cells slots Z (F0 m 356 ls []) := by
  obtain ⟨z3, y3, u3, e3⟩ := ii_of (xs (i + 3))
  refine lw_pair (d1 := 5) (d2 := 3) (v := (op_trade w.1 (xs (i + 1)) (xs (i + 2)) z3).1) (P1 := fun h' => sp_CW h' (wd_do w (op_trade w.1 (xs (i + 1)) (xs (i + 2)) z3)) ∧ sp_cf h h') (P2 := fun h2 => ∃ w', lw_V h2 w' (M + 61)) C lw_s6 (by decide) hi hL X S hl (by decide) (by decide) hce hsl ?_ ?_ (fun h' H' locs' q1 q2 q3 => by obtain ⟨w', q1⟩ := q1; exact hg w' h' H' locs' q1 q2 q3)
  · show ab_C _ yn_Fair_trade 200 [.ref 0, .int (xs (i + 1)), .int (xs (i + 2)), .int (xs (i + 3))] h _
    rw [e3]
    exact fc_trade V.1 V.2.2.2.1 m0 m1 y3 u3 (fun h' q1 q2 => ⟨rfl, q1, q2⟩)
  · rintro h' ⟨q1, q2⟩
    have W1 := V.2.1.cf q2 q1.1
    show ab_C _ yn_Model_trade 200 [.ref 192, .int (xs (i + 1)), .int (xs (i + 2)), .int (xs (i + 3))] h' _
    rw [e3]
    exact sp_Model_trade W1 V.2.2.2.1 y3 u3 (fun h2 g1 g2 => ⟨rfl, _, lw_fin_op V (op_trade_r V.2.2.2.1 m0) q1 q2 g1 g2⟩)

theorem lw_k7 (C : lw_Cx p s m meth c b L xs D cA) (V : lw_V h w M) (m0 : 0 ≤ M) (m1 : M ≤ 900000) (hi : i + 5 ≤ L) (hL : L ≤ 2560) (X : ab_Wd D cA s.heap.size 200 h H) (S : ab_S s.heap.size s.heap H locs) (hl : lv_has ls 4 (lw_L s b (Int32.ofInt i))) (hce : cells ≤ 200) (hsl : slots ≤ 5573)
    (hg : ∀ w' h' H' locs', lw_V h' w' (M + 61) → ab_Wd D cA s.heap.size 200 h' H' → ab_S s.heap.size s.heap H' locs' → W p l e room_1 s m #[Value.ref b] below meth c H' locs' cells slots Z (F0 m 913 ls [])) : W p l e room_1 s m #[Value.ref b] below meth c H locs cells slots Z (F0 m 399 ls []) := by
  refine lw_pair (d1 := 5) (d2 := 3) (v := (op_tear w.1 (xs (i + 1))).1) (P1 := fun h' => sp_CW h' (wd_do w (op_tear w.1 (xs (i + 1)))) ∧ sp_cf h h') (P2 := fun h2 => ∃ w', lw_V h2 w' (M + 61)) C lw_s7 (by decide) hi hL X S hl (by decide) (by decide) hce hsl ?_ ?_ (fun h' H' locs' q1 q2 q3 => by obtain ⟨w', q1⟩ := q1; exact hg w' h' H' locs' q1 q2 q3)
  · show ab_C _ yn_Fair_tear 200 [.ref 0, .int (xs (i + 1))] h _
    exact fc_tear V.1 V.2.2.2.1 m0 m1 (fun h' q1 q2 => ⟨rfl, q1, q2⟩)
  · rintro h' ⟨q1, q2⟩
    have W1 := V.2.1.cf q2 q1.1
    show ab_C _ yn_Model_tear 200 [.ref 192, .int (xs (i + 1))] h' _
    exact sp_Model_tear W1 V.2.2.2.1 (fun h2 g1 g2 => ⟨rfl, _, lw_fin_op V (op_tear_r V.2.2.2.1 m0) q1 q2 g1 g2⟩)

theorem lw_k8 (C : lw_Cx p s m meth c b L xs D cA) (V : lw_V h w M) (m0 : 0 ≤ M) (m1 : M ≤ 900000) (hi : i + 5 ≤ L) (hL : L ≤ 2560) (X : ab_Wd D cA s.heap.size 200 h H) (S : ab_S s.heap.size s.heap H locs) (hl : lv_has ls 4 (lw_L s b (Int32.ofInt i))) (hce : cells ≤ 200) (hsl : slots ≤ 5573)
    (hg : ∀ w' h' H' locs', lw_V h' w' (M + 61) → ab_Wd D cA s.heap.size 200 h' H' → ab_S s.heap.size s.heap H' locs' → W p l e room_1 s m #[Value.ref b] below meth c H' locs' cells slots Z (F0 m 913 ls [])) : W p l e room_1 s m #[Value.ref b] below meth c H locs cells slots Z (F0 m 422 ls []) := by
  obtain ⟨z1, y1, u1, e1⟩ := ii_of (xs (i + 1))
  obtain ⟨z2, y2, u2, e2⟩ := ii_of (xs (i + 2))
  refine lw_pair (d1 := 5) (d2 := 2) (v := (op_coins w.1 z1 z2).1) (P1 := fun h' => sp_CW h' (wd_do w (op_coins w.1 z1 z2)) ∧ sp_cf h h') (P2 := fun h2 => ∃ w', lw_V h2 w' (M + 61)) C lw_s8 (by decide) hi hL X S hl (by decide) (by decide) hce hsl ?_ ?_ (fun h' H' locs' q1 q2 q3 => by obtain ⟨w', q1⟩ := q1; exact hg w' h' H' locs' q1 q2 q3)
  · show ab_C _ yn_Fair_coins 200 [.ref 0, .int (xs (i + 1)), .int (xs (i + 2))] h _
    rw [e1, e2]
    exact fc_coins V.1 V.2.2.2.1 m0 m1 y1 u1 y2 u2 (fun h' q1 q2 => ⟨rfl, q1, q2⟩)
  · rintro h' ⟨q1, q2⟩
    have W1 := V.2.1.cf q2 q1.1
    show ab_C _ yn_Model_coins 200 [.ref 192, .int (xs (i + 1)), .int (xs (i + 2))] h' _
    rw [e1, e2]
    exact sp_Model_coins W1 V.2.2.2.1 y1 u1 y2 u2 (fun h2 g1 g2 => ⟨rfl, _, lw_fin_op V (op_coins_r V.2.2.2.1 m0) q1 q2 g1 g2⟩)

theorem lw_k9 (C : lw_Cx p s m meth c b L xs D cA) (V : lw_V h w M) (m0 : 0 ≤ M) (m1 : M ≤ 900000) (hi : i + 5 ≤ L) (hL : L ≤ 2560) (X : ab_Wd D cA s.heap.size 200 h H) (S : ab_S s.heap.size s.heap H locs) (hl : lv_has ls 4 (lw_L s b (Int32.ofInt i))) (hce : cells ≤ 200) (hsl : slots ≤ 5573)
    (hg : ∀ w' h' H' locs', lw_V h' w' (M + 61) → ab_Wd D cA s.heap.size 200 h' H' → ab_S s.heap.size s.heap H' locs' → W p l e room_1 s m #[Value.ref b] below meth c H' locs' cells slots Z (F0 m 913 ls [])) : W p l e room_1 s m #[Value.ref b] below meth c H locs cells slots Z (F0 m 455 ls []) := by
  obtain ⟨z2, y2, u2, e2⟩ := ii_of (xs (i + 2))
  obtain ⟨z3, y3, u3, e3⟩ := ii_of (xs (i + 3))
  refine lw_pair (d1 := 3) (d2 := 4) (v := qa_page w.1 (xs (i + 1)) z2 z3) (P1 := fun h' => sp_CW h' w ∧ sp_cf h h') (P2 := fun h2 => ∃ w', lw_V h2 w' (M + 61)) C lw_s9 (by decide) hi hL X S hl (by decide) (by decide) hce hsl ?_ ?_ (fun h' H' locs' q1 q2 q3 => by obtain ⟨w', q1⟩ := q1; exact hg w' h' H' locs' q1 q2 q3)
  · show ab_C _ yn_Fair_pageOf 200 [.ref 0, .int (xs (i + 1)), .int (xs (i + 2)), .int (xs (i + 3))] h _
    rw [e2, e3]
    exact fc_pageOf V.1 V.2.2.2.1 y2 u2 y3 u3 ⟨rfl, V.1, sp_cf.rf⟩
  · rintro h' ⟨q1, q2⟩
    have W1 := V.2.1.cf q2 q1.1
    have F1 := q1.1
    have R1 := W1.2.1
    have T1 := V.2.2.1.cf q2
    show ab_C _ yn_Model_pageOf 200 [.ref 192, .int (xs (i + 1)), .int (xs (i + 2)), .int (xs (i + 3))] h' _
    rw [e2, e3]
    exact sp_Model_pageOf F1 R1 V.2.2.2.1.un y2 u2 y3 u3 (fun h2 g1 => ⟨rfl, w, lw_fin_q V q1 q2 g1.mg (W1.mf g1)⟩)

theorem lw_k10 (C : lw_Cx p s m meth c b L xs D cA) (V : lw_V h w M) (m0 : 0 ≤ M) (m1 : M ≤ 900000) (hi : i + 5 ≤ L) (hL : L ≤ 2560) (X : ab_Wd D cA s.heap.size 200 h H) (S : ab_S s.heap.size s.heap H locs) (hl : lv_has ls 4 (lw_L s b (Int32.ofInt i))) (hce : cells ≤ 200) (hsl : slots ≤ 5573)
    (hg : ∀ w' h' H' locs', lw_V h' w' (M + 61) → ab_Wd D cA s.heap.size 200 h' H' → ab_S s.heap.size s.heap H' locs' → W p l e room_1 s m #[Value.ref b] below meth c H' locs' cells slots Z (F0 m 913 ls [])) : W p l e room_1 s m #[Value.ref b] below meth c H locs cells slots Z (F0 m 498 ls []) := by
  obtain ⟨z2, y2, u2, e2⟩ := ii_of (xs (i + 2))
  refine lw_pair (d1 := 3) (d2 := 3) (v := qa_leaf w.1 (xs (i + 1)) z2) (P1 := fun h' => sp_CW h' w ∧ sp_cf h h') (P2 := fun h2 => ∃ w', lw_V h2 w' (M + 61)) C lw_s10 (by decide) hi hL X S hl (by decide) (by decide) hce hsl ?_ ?_ (fun h' H' locs' q1 q2 q3 => by obtain ⟨w', q1⟩ := q1; exact hg w' h' H' locs' q1 q2 q3)
  · show ab_C _ yn_Fair_leafOf 200 [.ref 0, .int (xs (i + 1)), .int (xs (i + 2))] h _
    rw [e2]
    exact fc_leafOf V.1 V.2.2.2.1 y2 u2 ⟨rfl, V.1, sp_cf.rf⟩
  · rintro h' ⟨q1, q2⟩
    have W1 := V.2.1.cf q2 q1.1
    have F1 := q1.1
    have R1 := W1.2.1
    have T1 := V.2.2.1.cf q2
    show ab_C _ yn_Model_leafOf 200 [.ref 192, .int (xs (i + 1)), .int (xs (i + 2))] h' _
    rw [e2]
    exact sp_Model_leafOf F1 R1 V.2.2.2.1.un y2 u2 ⟨rfl, w, lw_fin_q V q1 q2 sp_mg.rf W1⟩

theorem lw_k11 (C : lw_Cx p s m meth c b L xs D cA) (V : lw_V h w M) (m0 : 0 ≤ M) (m1 : M ≤ 900000) (hi : i + 5 ≤ L) (hL : L ≤ 2560) (X : ab_Wd D cA s.heap.size 200 h H) (S : ab_S s.heap.size s.heap H locs) (hl : lv_has ls 4 (lw_L s b (Int32.ofInt i))) (hce : cells ≤ 200) (hsl : slots ≤ 5573)
    (hg : ∀ w' h' H' locs', lw_V h' w' (M + 61) → ab_Wd D cA s.heap.size 200 h' H' → ab_S s.heap.size s.heap H' locs' → W p l e room_1 s m #[Value.ref b] below meth c H' locs' cells slots Z (F0 m 913 ls [])) : W p l e room_1 s m #[Value.ref b] below meth c H locs cells slots Z (F0 m 531 ls []) := by
  obtain ⟨z1, y1, u1, e1⟩ := ii_of (xs (i + 1))
  obtain ⟨z2, y2, u2, e2⟩ := ii_of (xs (i + 2))
  refine lw_pair (d1 := 1) (d2 := 2) (v := qa_at w.1 z1 z2) (P1 := fun h' => sp_CW h' w ∧ sp_cf h h') (P2 := fun h2 => ∃ w', lw_V h2 w' (M + 61)) C lw_s11 (by decide) hi hL X S hl (by decide) (by decide) hce hsl ?_ ?_ (fun h' H' locs' q1 q2 q3 => by obtain ⟨w', q1⟩ := q1; exact hg w' h' H' locs' q1 q2 q3)
  · show ab_C _ yn_Fair_at 200 [.ref 0, .int (xs (i + 1)), .int (xs (i + 2))] h _
    rw [e1, e2]
    exact fc_at V.1 V.2.2.2.1 y1 u1 y2 u2 ⟨rfl, V.1, sp_cf.rf⟩
  · rintro h' ⟨q1, q2⟩
    have W1 := V.2.1.cf q2 q1.1
    have F1 := q1.1
    have R1 := W1.2.1
    have T1 := V.2.2.1.cf q2
    show ab_C _ yn_Model_at 200 [.ref 192, .int (xs (i + 1)), .int (xs (i + 2))] h' _
    rw [e1, e2]
    exact sp_Model_at F1 R1 V.2.2.2.1.un y1 u1 y2 u2 ⟨rfl, w, lw_fin_q V q1 q2 sp_mg.rf W1⟩

theorem lw_k12 (C : lw_Cx p s m meth c b L xs D cA) (V : lw_V h w M) (m0 : 0 ≤ M) (m1 : M ≤ 900000) (hi : i + 5 ≤ L) (hL : L ≤ 2560) (X : ab_Wd D cA s.heap.size 200 h H) (S : ab_S s.heap.size s.heap H locs) (hl : lv_has ls 4 (lw_L s b (Int32.ofInt i))) (hce : cells ≤ 200) (hsl : slots ≤ 5573)
    (hg : ∀ w' h' H' locs', lw_V h' w' (M + 61) → ab_Wd D cA s.heap.size 200 h' H' → ab_S s.heap.size s.heap H' locs' → W p l e room_1 s m #[Value.ref b] below meth c H' locs' cells slots Z (F0 m 913 ls [])) : W p l e room_1 s m #[Value.ref b] below meth c H locs cells slots Z (F0 m 564 ls []) := by
  obtain ⟨z1, y1, u1, e1⟩ := ii_of (xs (i + 1))
  obtain ⟨z2, y2, u2, e2⟩ := ii_of (xs (i + 2))
  refine lw_pair (d1 := 5) (d2 := 7) (v := qa_coll w.1 z1 z2) (P1 := fun h' => sp_CW h' w ∧ sp_cf h h') (P2 := fun h2 => ∃ w', lw_V h2 w' (M + 61)) C lw_s12 (by decide) hi hL X S hl (by decide) (by decide) hce hsl ?_ ?_ (fun h' H' locs' q1 q2 q3 => by obtain ⟨w', q1⟩ := q1; exact hg w' h' H' locs' q1 q2 q3)
  · show ab_C _ yn_Fair_collectorOf 200 [.ref 0, .int (xs (i + 1)), .int (xs (i + 2))] h _
    rw [e1, e2]
    exact fc_collectorOf V.1 V.2.2.2.1 y1 u1 y2 u2 ⟨rfl, V.1, sp_cf.rf⟩
  · rintro h' ⟨q1, q2⟩
    have W1 := V.2.1.cf q2 q1.1
    have F1 := q1.1
    have R1 := W1.2.1
    have T1 := V.2.2.1.cf q2
    show ab_C _ yn_Model_collectorOf 200 [.ref 192, .int (xs (i + 1)), .int (xs (i + 2))] h' _
    rw [e1, e2]
    exact sp_Model_collectorOf F1 R1 V.2.2.2.1.un y1 u1 y2 u2 (fun h2 g1 => ⟨rfl, w, lw_fin_q V q1 q2 g1.mg (W1.mf g1)⟩)

theorem lw_k13 (C : lw_Cx p s m meth c b L xs D cA) (V : lw_V h w M) (m0 : 0 ≤ M) (m1 : M ≤ 900000) (hi : i + 5 ≤ L) (hL : L ≤ 2560) (X : ab_Wd D cA s.heap.size 200 h H) (S : ab_S s.heap.size s.heap H locs) (hl : lv_has ls 4 (lw_L s b (Int32.ofInt i))) (hce : cells ≤ 200) (hsl : slots ≤ 5573)
    (hg : ∀ w' h' H' locs', lw_V h' w' (M + 61) → ab_Wd D cA s.heap.size 200 h' H' → ab_S s.heap.size s.heap H' locs' → W p l e room_1 s m #[Value.ref b] below meth c H' locs' cells slots Z (F0 m 913 ls [])) : W p l e room_1 s m #[Value.ref b] below meth c H locs cells slots Z (F0 m 597 ls []) := by
  obtain ⟨z1, y1, u1, e1⟩ := ii_of (xs (i + 1))
  obtain ⟨z2, y2, u2, e2⟩ := ii_of (xs (i + 2))
  refine lw_pair (d1 := 4) (d2 := 3) (v := qa_name w.1 z1 z2) (P1 := fun h' => sp_CW h' w ∧ sp_cf h h') (P2 := fun h2 => ∃ w', lw_V h2 w' (M + 61)) C lw_s13 (by decide) hi hL X S hl (by decide) (by decide) hce hsl ?_ ?_ (fun h' H' locs' q1 q2 q3 => by obtain ⟨w', q1⟩ := q1; exact hg w' h' H' locs' q1 q2 q3)
  · show ab_C _ yn_Fair_nameOf 200 [.ref 0, .int (xs (i + 1)), .int (xs (i + 2))] h _
    rw [e1, e2]
    exact fc_nameOf V.1 V.2.2.2.1 y1 u1 y2 u2 ⟨rfl, V.1, sp_cf.rf⟩
  · rintro h' ⟨q1, q2⟩
    have W1 := V.2.1.cf q2 q1.1
    have F1 := q1.1
    have R1 := W1.2.1
    have T1 := V.2.2.1.cf q2
    show ab_C _ yn_Model_nameOf 200 [.ref 192, .int (xs (i + 1)), .int (xs (i + 2))] h' _
    rw [e1, e2]
    exact sp_Model_nameOf F1 R1 V.2.2.2.1.un y1 u1 y2 u2 ⟨rfl, w, lw_fin_q V q1 q2 sp_mg.rf W1⟩

theorem lw_k14 (C : lw_Cx p s m meth c b L xs D cA) (V : lw_V h w M) (m0 : 0 ≤ M) (m1 : M ≤ 900000) (hi : i + 5 ≤ L) (hL : L ≤ 2560) (X : ab_Wd D cA s.heap.size 200 h H) (S : ab_S s.heap.size s.heap H locs) (hl : lv_has ls 4 (lw_L s b (Int32.ofInt i))) (hce : cells ≤ 200) (hsl : slots ≤ 5573)
    (hg : ∀ w' h' H' locs', lw_V h' w' (M + 61) → ab_Wd D cA s.heap.size 200 h' H' → ab_S s.heap.size s.heap H' locs' → W p l e room_1 s m #[Value.ref b] below meth c H' locs' cells slots Z (F0 m 913 ls [])) : W p l e room_1 s m #[Value.ref b] below meth c H locs cells slots Z (F0 m 630 ls []) := by
  obtain ⟨z3, y3, u3, e3⟩ := ii_of (xs (i + 3))
  obtain ⟨z4, y4, u4, e4⟩ := ii_of (xs (i + 4))
  refine lw_pair (d1 := 5) (d2 := 8) (v := qa_gain w.1 (xs (i + 1)) (xs (i + 2)) z3 z4) (P1 := fun h' => sp_CW h' w ∧ sp_cf h h') (P2 := fun h2 => ∃ w', lw_V h2 w' (M + 61)) C lw_s14 (by decide) hi hL X S hl (by decide) (by decide) hce hsl ?_ ?_ (fun h' H' locs' q1 q2 q3 => by obtain ⟨w', q1⟩ := q1; exact hg w' h' H' locs' q1 q2 q3)
  · show ab_C _ yn_Fair_gain 200 [.ref 0, .int (xs (i + 1)), .int (xs (i + 2)), .int (xs (i + 3)), .int (xs (i + 4))] h _
    rw [e3, e4]
    exact fc_gain V.1 V.2.2.2.1 y3 u3 y4 u4 (fun h' q1 q2 => ⟨rfl, q1, q2⟩)
  · rintro h' ⟨q1, q2⟩
    have W1 := V.2.1.cf q2 q1.1
    have F1 := q1.1
    have R1 := W1.2.1
    have T1 := V.2.2.1.cf q2
    show ab_C _ yn_Model_gain 200 [.ref 192, .int (xs (i + 1)), .int (xs (i + 2)), .int (xs (i + 3)), .int (xs (i + 4))] h' _
    rw [e3, e4]
    exact sp_Model_gain F1 R1 V.2.2.2.1.un y3 u3 y4 u4 (fun h2 g1 => ⟨rfl, w, lw_fin_q V q1 q2 g1.mg (W1.mf g1)⟩)

theorem lw_k15 (C : lw_Cx p s m meth c b L xs D cA) (V : lw_V h w M) (m0 : 0 ≤ M) (m1 : M ≤ 900000) (hi : i + 5 ≤ L) (hL : L ≤ 2560) (X : ab_Wd D cA s.heap.size 200 h H) (S : ab_S s.heap.size s.heap H locs) (hl : lv_has ls 4 (lw_L s b (Int32.ofInt i))) (hce : cells ≤ 200) (hsl : slots ≤ 5573)
    (hg : ∀ w' h' H' locs', lw_V h' w' (M + 61) → ab_Wd D cA s.heap.size 200 h' H' → ab_S s.heap.size s.heap H' locs' → W p l e room_1 s m #[Value.ref b] below meth c H' locs' cells slots Z (F0 m 913 ls [])) : W p l e room_1 s m #[Value.ref b] below meth c H locs cells slots Z (F0 m 683 ls []) := by
  refine lw_pair (d1 := 5) (d2 := 8) (v := qa_fair w.1 (xs (i + 1)) (xs (i + 2))) (P1 := fun h' => sp_CW h' w ∧ sp_cf h h') (P2 := fun h2 => ∃ w', lw_V h2 w' (M + 61)) C lw_s15 (by decide) hi hL X S hl (by decide) (by decide) hce hsl ?_ ?_ (fun h' H' locs' q1 q2 q3 => by obtain ⟨w', q1⟩ := q1; exact hg w' h' H' locs' q1 q2 q3)
  · show ab_C _ yn_Fair_fair 200 [.ref 0, .int (xs (i + 1)), .int (xs (i + 2))] h _
    exact fc_fair V.1 V.2.2.2.1 (fun h' q1 q2 => ⟨rfl, q1, q2⟩)
  · rintro h' ⟨q1, q2⟩
    have W1 := V.2.1.cf q2 q1.1
    have F1 := q1.1
    have R1 := W1.2.1
    have T1 := V.2.2.1.cf q2
    show ab_C _ yn_Model_fair 200 [.ref 192, .int (xs (i + 1)), .int (xs (i + 2))] h' _
    exact sp_Model_fair F1 R1 V.2.2.2.1 (fun h2 g1 => ⟨rfl, w, lw_fin_q V q1 q2 g1.mg (W1.mf g1)⟩)

theorem lw_k16 (C : lw_Cx p s m meth c b L xs D cA) (V : lw_V h w M) (m0 : 0 ≤ M) (m1 : M ≤ 900000) (hi : i + 5 ≤ L) (hL : L ≤ 2560) (X : ab_Wd D cA s.heap.size 200 h H) (S : ab_S s.heap.size s.heap H locs) (hl : lv_has ls 4 (lw_L s b (Int32.ofInt i))) (hce : cells ≤ 200) (hsl : slots ≤ 5573)
    (hg : ∀ w' h' H' locs', lw_V h' w' (M + 61) → ab_Wd D cA s.heap.size 200 h' H' → ab_S s.heap.size s.heap H' locs' → W p l e room_1 s m #[Value.ref b] below meth c H' locs' cells slots Z (F0 m 913 ls [])) : W p l e room_1 s m #[Value.ref b] below meth c H locs cells slots Z (F0 m 716 ls []) := by
  obtain ⟨z1, y1, u1, e1⟩ := ii_of (xs (i + 1))
  obtain ⟨z2, y2, u2, e2⟩ := ii_of (xs (i + 2))
  refine lw_pair (d1 := 7) (d2 := 9) (v := qa_best w.1 z1 z2) (P1 := fun h' => sp_CW h' w ∧ sp_cf h h') (P2 := fun h2 => ∃ w', lw_V h2 w' (M + 61)) C lw_s16 (by decide) hi hL X S hl (by decide) (by decide) hce hsl ?_ ?_ (fun h' H' locs' q1 q2 q3 => by obtain ⟨w', q1⟩ := q1; exact hg w' h' H' locs' q1 q2 q3)
  · show ab_C _ yn_Fair_best 200 [.ref 0, .int (xs (i + 1)), .int (xs (i + 2))] h _
    rw [e1, e2]
    exact fc_best V.1 V.2.2.2.1 y1 u1 y2 u2 (fun h' q1 q2 => ⟨rfl, q1, q2⟩)
  · rintro h' ⟨q1, q2⟩
    have W1 := V.2.1.cf q2 q1.1
    have F1 := q1.1
    have R1 := W1.2.1
    have T1 := V.2.2.1.cf q2
    show ab_C _ yn_Model_best 200 [.ref 192, .int (xs (i + 1)), .int (xs (i + 2))] h' _
    rw [e1, e2]
    exact sp_Model_best F1 R1 V.2.2.2.1 y1 u1 y2 u2 (fun h2 g1 => ⟨rfl, w, lw_fin_q V q1 q2 g1.mg (W1.mb g1)⟩)

theorem lw_k17 (C : lw_Cx p s m meth c b L xs D cA) (V : lw_V h w M) (m0 : 0 ≤ M) (m1 : M ≤ 900000) (hi : i + 5 ≤ L) (hL : L ≤ 2560) (X : ab_Wd D cA s.heap.size 200 h H) (S : ab_S s.heap.size s.heap H locs) (hl : lv_has ls 4 (lw_L s b (Int32.ofInt i))) (hce : cells ≤ 200) (hsl : slots ≤ 5573)
    (hg : ∀ w' h' H' locs', lw_V h' w' (M + 61) → ab_Wd D cA s.heap.size 200 h' H' → ab_S s.heap.size s.heap H' locs' → W p l e room_1 s m #[Value.ref b] below meth c H' locs' cells slots Z (F0 m 913 ls [])) : W p l e room_1 s m #[Value.ref b] below meth c H locs cells slots Z (F0 m 749 ls []) := by
  obtain ⟨z1, y1, u1, e1⟩ := ii_of (xs (i + 1))
  obtain ⟨z2, y2, u2, e2⟩ := ii_of (xs (i + 2))
  refine lw_pair (d1 := 3) (d2 := 5) (v := qa_miss w.1 z1 z2) (P1 := fun h' => sp_CW h' w ∧ sp_cf h h') (P2 := fun h2 => ∃ w', lw_V h2 w' (M + 61)) C lw_s17 (by decide) hi hL X S hl (by decide) (by decide) hce hsl ?_ ?_ (fun h' H' locs' q1 q2 q3 => by obtain ⟨w', q1⟩ := q1; exact hg w' h' H' locs' q1 q2 q3)
  · show ab_C _ yn_Fair_missing 200 [.ref 0, .int (xs (i + 1)), .int (xs (i + 2))] h _
    rw [e1, e2]
    exact fc_missing V.1 V.2.2.2.1 y1 u1 y2 u2 ⟨rfl, V.1, sp_cf.rf⟩
  · rintro h' ⟨q1, q2⟩
    have W1 := V.2.1.cf q2 q1.1
    have F1 := q1.1
    have R1 := W1.2.1
    have T1 := V.2.2.1.cf q2
    show ab_C _ yn_Model_missing 200 [.ref 192, .int (xs (i + 1)), .int (xs (i + 2))] h' _
    rw [e1, e2]
    exact sp_Model_missing F1 R1 V.2.2.2.1.un y1 u1 y2 u2 (fun h2 g1 => ⟨rfl, w, lw_fin_q V q1 q2 g1.mg (W1.mf g1)⟩)

theorem lw_k18 (C : lw_Cx p s m meth c b L xs D cA) (V : lw_V h w M) (m0 : 0 ≤ M) (m1 : M ≤ 900000) (hi : i + 5 ≤ L) (hL : L ≤ 2560) (X : ab_Wd D cA s.heap.size 200 h H) (S : ab_S s.heap.size s.heap H locs) (hl : lv_has ls 4 (lw_L s b (Int32.ofInt i))) (hce : cells ≤ 200) (hsl : slots ≤ 5573)
    (hg : ∀ w' h' H' locs', lw_V h' w' (M + 61) → ab_Wd D cA s.heap.size 200 h' H' → ab_S s.heap.size s.heap H' locs' → W p l e room_1 s m #[Value.ref b] below meth c H' locs' cells slots Z (F0 m 913 ls [])) : W p l e room_1 s m #[Value.ref b] below meth c H locs cells slots Z (F0 m 782 ls []) := by
  obtain ⟨z1, y1, u1, e1⟩ := ii_of (xs (i + 1))
  refine lw_pair (d1 := 3) (d2 := 4) (v := qa_mean w.1 z1) (P1 := fun h' => sp_CW h' w ∧ sp_cf h h') (P2 := fun h2 => ∃ w', lw_V h2 w' (M + 61)) C lw_s18 (by decide) hi hL X S hl (by decide) (by decide) hce hsl ?_ ?_ (fun h' H' locs' q1 q2 q3 => by obtain ⟨w', q1⟩ := q1; exact hg w' h' H' locs' q1 q2 q3)
  · show ab_C _ yn_Fair_mean 200 [.ref 0, .int (xs (i + 1))] h _
    rw [e1]
    exact fc_mean V.1 V.2.2.2.1 y1 u1 ⟨rfl, V.1, sp_cf.rf⟩
  · rintro h' ⟨q1, q2⟩
    have W1 := V.2.1.cf q2 q1.1
    have F1 := q1.1
    have R1 := W1.2.1
    have T1 := V.2.2.1.cf q2
    show ab_C _ yn_Model_mean 200 [.ref 192, .int (xs (i + 1))] h' _
    rw [e1]
    exact sp_Model_mean F1 R1 V.2.2.2.1 y1 u1 (fun h2 g1 => ⟨rfl, w, lw_fin_q V q1 q2 g1.mg (W1.mf g1)⟩)

theorem lw_k19 (C : lw_Cx p s m meth c b L xs D cA) (V : lw_V h w M) (m0 : 0 ≤ M) (m1 : M ≤ 900000) (hi : i + 5 ≤ L) (hL : L ≤ 2560) (X : ab_Wd D cA s.heap.size 200 h H) (S : ab_S s.heap.size s.heap H locs) (hl : lv_has ls 4 (lw_L s b (Int32.ofInt i))) (hce : cells ≤ 200) (hsl : slots ≤ 5573)
    (hg : ∀ w' h' H' locs', lw_V h' w' (M + 61) → ab_Wd D cA s.heap.size 200 h' H' → ab_S s.heap.size s.heap H' locs' → W p l e room_1 s m #[Value.ref b] below meth c H' locs' cells slots Z (F0 m 913 ls [])) : W p l e room_1 s m #[Value.ref b] below meth c H locs cells slots Z (F0 m 805 ls []) := by
  obtain ⟨z1, y1, u1, e1⟩ := ii_of (xs (i + 1))
  refine lw_pair (d1 := 6) (d2 := 8) (v := qa_count w z1) (P1 := fun h' => sp_CW h' w ∧ sp_cf h h') (P2 := fun h2 => ∃ w', lw_V h2 w' (M + 61)) C lw_s19 (by decide) hi hL X S hl (by decide) (by decide) hce hsl ?_ ?_ (fun h' H' locs' q1 q2 q3 => by obtain ⟨w', q1⟩ := q1; exact hg w' h' H' locs' q1 q2 q3)
  · show ab_C _ yn_Fair_count 200 [.ref 0, .int (xs (i + 1))] h _
    rw [e1]
    exact fc_count V.1 V.2.2.2.1 y1 u1 ⟨rfl, V.1, sp_cf.rf⟩
  · rintro h' ⟨q1, q2⟩
    have W1 := V.2.1.cf q2 q1.1
    have F1 := q1.1
    have R1 := W1.2.1
    have T1 := V.2.2.1.cf q2
    show ab_C _ yn_Model_count 200 [.ref 192, .int (xs (i + 1))] h' _
    rw [e1]
    exact sp_Model_count (w := w) W1 T1 V.2.2.2.1.un y1 u1 (fun h2 g1 => ⟨rfl, w, lw_fin_q V q1 q2 g1.mg (W1.mf g1)⟩)

theorem lw_k23 (C : lw_Cx p s m meth c b L xs D cA) (V : lw_V h w M) (m0 : 0 ≤ M) (m1 : M ≤ 900000) (hi : i + 5 ≤ L) (hL : L ≤ 2560) (X : ab_Wd D cA s.heap.size 200 h H) (S : ab_S s.heap.size s.heap H locs) (hl : lv_has ls 4 (lw_L s b (Int32.ofInt i))) (hce : cells ≤ 200) (hsl : slots ≤ 5573)
    (hg : ∀ w' h' H' locs', lw_V h' w' (M + 61) → ab_Wd D cA s.heap.size 200 h' H' → ab_S s.heap.size s.heap H' locs' → W p l e room_1 s m #[Value.ref b] below meth c H' locs' cells slots Z (F0 m 913 ls [])) : W p l e room_1 s m #[Value.ref b] below meth c H locs cells slots Z (F0 m 877 ls []) := by
  obtain ⟨z1, y1, u1, e1⟩ := ii_of (xs (i + 1))
  refine lw_pair (d1 := 7) (d2 := 10) (v := qa_fault w z1) (P1 := fun h' => sp_CW h' w ∧ sp_cf h h') (P2 := fun h2 => ∃ w', lw_V h2 w' (M + 61)) C lw_s23 (by decide) hi hL X S hl (by decide) (by decide) hce hsl ?_ ?_ (fun h' H' locs' q1 q2 q3 => by obtain ⟨w', q1⟩ := q1; exact hg w' h' H' locs' q1 q2 q3)
  · show ab_C _ yn_Fair_fault 200 [.ref 0, .int (xs (i + 1))] h _
    rw [e1]
    exact fc_fault V.1 V.2.2.2.1 V.2.2.2.2.2 m0 m1 y1 u1 (fun h' q1 q2 => ⟨rfl, q1, q2⟩)
  · rintro h' ⟨q1, q2⟩
    have W1 := V.2.1.cf q2 q1.1
    have F1 := q1.1
    have R1 := W1.2.1
    have T1 := V.2.2.1.cf q2
    show ab_C _ yn_Model_fault 200 [.ref 192, .int (xs (i + 1))] h' _
    rw [e1]
    exact sp_Model_fault (w := w) W1 T1 V.2.2.2.2.2 V.2.2.2.1 m0 m1 y1 u1 (fun h2 g1 g2 => ⟨rfl, w, lw_fin_q V q1 q2 g1 g2⟩)

theorem lw_k20 (C : lw_Cx p s m meth c b L xs D cA) (V : lw_V h w M) (m0 : 0 ≤ M) (m1 : M ≤ 900000) (hi : i + 5 ≤ L) (hL : L ≤ 2560) (X : ab_Wd D cA s.heap.size 200 h H) (S : ab_S s.heap.size s.heap H locs) (hl : lv_has ls 4 (lw_L s b (Int32.ofInt i))) (hce : cells ≤ 200) (hsl : slots ≤ 5573)
    (hg : ∀ w' h' H' locs', lw_V h' w' (M + 61) → ab_Wd D cA s.heap.size 200 h' H' → ab_S s.heap.size s.heap H' locs' → W p l e room_1 s m #[Value.ref b] below meth c H' locs' cells slots Z (F0 m 913 ls [])) : W p l e room_1 s m #[Value.ref b] below meth c H locs cells slots Z (F0 m 828 ls []) := by
  refine lw_pair (d1 := 5) (d2 := 0) (v := (wd_undo w).1) (P1 := fun h' => sp_CW h' (wd_undo w).2 ∧ sp_cf h h') (P2 := fun h2 => ∃ w', lw_V h2 w' (M + 61)) C lw_s20 (by decide) hi hL X S hl (by decide) (by decide) hce hsl ?_ ?_ (fun h' H' locs' q1 q2 q3 => by obtain ⟨w', q1⟩ := q1; exact hg w' h' H' locs' q1 q2 q3)
  · show ab_C _ yn_Fair_undo 200 [.ref 0] h _
    exact fc_undo V.1 (fun h' q1 q2 => ⟨rfl, q1, q2⟩)
  · rintro h' ⟨q1, q2⟩
    have W1 := V.2.1.cf q2 q1.1
    show ab_C _ yn_Model_undo 200 [.ref 192] h' _
    obtain ⟨w1, w2, w3⟩ := w
    cases w2 with
    | nil => exact sp_Model_undo W1 (fun _ => ⟨rfl, _, lw_fin_q V q1 q2 sp_mg.rf W1⟩) (fun s0 H0 q => by cases q)
    | cons s1 H1 => exact sp_Model_undo W1 (fun q => by cases q) (fun s0 H0 q h2 g1 g2 => by
        cases q
        exact ⟨rfl, _, q1.lo g1.1 g1.mg.2.1, g2, (V.2.2.1.cf q2).mg g1.mg, ⟨(V.2.2.2.2.1 s1 List.mem_cons_self).up (by omega), fun t ht => (V.2.2.2.2.1 t (List.mem_cons_of_mem _ ht)).up (by omega), V.2.2.2.2.2⟩⟩)

theorem lw_k21 (C : lw_Cx p s m meth c b L xs D cA) (V : lw_V h w M) (m0 : 0 ≤ M) (m1 : M ≤ 900000) (hi : i + 5 ≤ L) (hL : L ≤ 2560) (X : ab_Wd D cA s.heap.size 200 h H) (S : ab_S s.heap.size s.heap H locs) (hl : lv_has ls 4 (lw_L s b (Int32.ofInt i))) (hce : cells ≤ 200) (hsl : slots ≤ 5573)
    (hg : ∀ w' h' H' locs', lw_V h' w' (M + 61) → ab_Wd D cA s.heap.size 200 h' H' → ab_S s.heap.size s.heap H' locs' → W p l e room_1 s m #[Value.ref b] below meth c H' locs' cells slots Z (F0 m 913 ls [])) : W p l e room_1 s m #[Value.ref b] below meth c H locs cells slots Z (F0 m 841 ls []) := by
  obtain ⟨z1, y1, u1, e1⟩ := ii_of (xs (i + 1))
  refine lw_pair (d1 := 1) (d2 := 1) (v := (wd_type w z1).1) (P1 := fun h' => sp_CW h' (wd_type w z1).2 ∧ sp_cf h h') (P2 := fun h2 => ∃ w', lw_V h2 w' (M + 61)) C lw_s21 (by decide) hi hL X S hl (by decide) (by decide) hce hsl ?_ ?_ (fun h' H' locs' q1 q2 q3 => by obtain ⟨w', q1⟩ := q1; exact hg w' h' H' locs' q1 q2 q3)
  · show ab_C _ yn_Fair_type 200 [.ref 0, .int (xs (i + 1))] h _
    rw [e1]
    exact fc_type V.1 V.2.2.2.2.2 y1 u1 (fun h' q1 q2 => ⟨rfl, q1, q2⟩)
  · rintro h' ⟨q1, q2⟩
    have W1 := V.2.1.cf q2 q1.1
    have T1 := V.2.2.1.cf q2
    show ab_C _ yn_Model_type 200 [.ref 192, .int (xs (i + 1))] h' _
    rw [e1]
    refine sp_Model_type (w := w) q1.1 T1 V.2.2.2.2.2 y1 u1 (fun h2 g1 g2 => ⟨rfl, (wd_type w z1).2, q1.lo g1.1 (fun k hk => g1.2.1 k (by omega) (by omega)), ?_, g2, ?_⟩)
    · have e : (wd_type w z1).2.1 = w.1 ∧ (wd_type w z1).2.2.1 = w.2.1 := by
        unfold wd_type
        split
        · split <;> exact ⟨rfl, rfl⟩
        · exact ⟨rfl, rfl⟩
      rw [e.1, e.2]
      exact W1.mt g1
    · unfold wd_type
      by_cases c1 : 32 ≤ z1 ∧ z1 ≤ 126
      · rw [if_pos c1]
        by_cases c2 : 60 ≤ w.2.2.length
        · rw [if_pos c2]; exact V.2.2.2.up (by omega)
        · rw [if_neg c2]
          refine ⟨V.2.2.2.1.up (by omega), fun t ht => (V.2.2.2.2.1 t ht).up (by omega), ?_, fun x hx => ?_⟩
          · show (w.2.2 ++ [z1]).length ≤ 60
            rw [List.length_append]
            simp only [List.length_cons, List.length_nil]
            omega
          · rcases List.mem_append.mp hx with g | g
            · exact V.2.2.2.2.2.2 x g
            · rw [List.mem_singleton] at g
              rw [g]; exact c1
      · rw [if_neg c1]; exact V.2.2.2.up (by omega)

theorem lw_k22 (C : lw_Cx p s m meth c b L xs D cA) (V : lw_V h w M) (m0 : 0 ≤ M) (m1 : M ≤ 900000) (hi : i + 5 ≤ L) (hL : L ≤ 2560) (X : ab_Wd D cA s.heap.size 200 h H) (S : ab_S s.heap.size s.heap H locs) (hl : lv_has ls 4 (lw_L s b (Int32.ofInt i))) (hce : cells ≤ 200) (hsl : slots ≤ 5573)
    (hg : ∀ w' h' H' locs', lw_V h' w' (M + 61) → ab_Wd D cA s.heap.size 200 h' H' → ab_S s.heap.size s.heap H' locs' → W p l e room_1 s m #[Value.ref b] below meth c H' locs' cells slots Z (F0 m 913 ls [])) : W p l e room_1 s m #[Value.ref b] below meth c H locs cells slots Z (F0 m 864 ls []) := by
  refine lw_pair (d1 := 0) (d2 := 0) (v := Int32.ofInt w.2.2.length) (P1 := fun h' => sp_CW h' (w.1, w.2.1, []) ∧ sp_cf h h') (P2 := fun h2 => ∃ w', lw_V h2 w' (M + 61)) C lw_s22 (by decide) hi hL X S hl (by decide) (by decide) hce hsl ?_ ?_ (fun h' H' locs' q1 q2 q3 => by obtain ⟨w', q1⟩ := q1; exact hg w' h' H' locs' q1 q2 q3)
  · show ab_C _ yn_Fair_clearText 200 [.ref 0] h _
    exact fc_clearText V.1 V.2.2.2.2.2 (fun h' q1 q2 => ⟨rfl, q1, q2⟩)
  · rintro h' ⟨q1, q2⟩
    have W1 := V.2.1.cf q2 q1.1
    have T1 := V.2.2.1.cf q2
    show ab_C _ yn_Model_clearText 200 [.ref 192] h' _
    exact sp_Model_clearText q1.1 T1 (fun h2 g1 g2 => ⟨rfl, (w.1, w.2.1, []), q1.lo g1.1 (fun k hk => g1.2.1 k (by omega) (by omega)), W1.mt g1, g2, ⟨V.2.2.2.1.up (by omega), fun t ht => (V.2.2.2.2.1 t ht).up (by omega), Nat.zero_le _, fun x hx => by cases hx⟩⟩)

theorem lw_k24 (C : lw_Cx p s m meth c b L xs D cA) (V : lw_V h w M) (m0 : 0 ≤ M) (m1 : M ≤ 900000) (hi : i + 5 ≤ L) (hL : L ≤ 2560) (X : ab_Wd D cA s.heap.size 200 h H) (S : ab_S s.heap.size s.heap H locs) (hl : lv_has ls 4 (lw_L s b (Int32.ofInt i))) (hce : cells ≤ 200) (hsl : slots ≤ 5573)
    (hg : ∀ w' h' H' locs', lw_V h' w' (M + 61) → ab_Wd D cA s.heap.size 200 h' H' → ab_S s.heap.size s.heap H' locs' → W p l e room_1 s m #[Value.ref b] below meth c H' locs' cells slots Z (F0 m 913 ls [])) : W p l e room_1 s m #[Value.ref b] below meth c H locs cells slots Z (F0 m 900 ls []) := by
  refine lw_pair (d1 := 7) (d2 := 10) (v := (wd_play w).1) (P1 := fun h' => sp_CW h' (wd_play w).2 ∧ sp_cf h h') (P2 := fun h2 => ∃ w', lw_V h2 w' (M + 61)) C lw_s24 (by decide) hi hL X S hl (by decide) (by decide) hce hsl ?_ ?_ (fun h' H' locs' q1 q2 q3 => by obtain ⟨w', q1⟩ := q1; exact hg w' h' H' locs' q1 q2 q3)
  · show ab_C _ yn_Fair_play 200 [.ref 0] h _
    exact fc_play V.1 V.2.2.2.1 V.2.2.2.2.2 m0 m1 (fun h' q1 q2 => ⟨rfl, q1, q2⟩)
  · rintro h' ⟨q1, q2⟩
    have W1 := V.2.1.cf q2 q1.1
    have T1 := V.2.2.1.cf q2
    show ab_C _ yn_Model_play 200 [.ref 192] h' _
    refine sp_Model_play (w := w) W1 T1 V.2.2.2.2.2 V.2.2.2.1 m0 m1 (fun h2 g1 g2 => ⟨rfl, (wd_play w).2, q1.lo g1.1 g1.2.1, g2, ?_, ?_⟩)
    · have e : (wd_play w).2.2.2 = w.2.2 := by unfold wd_play wd_do; split <;> rfl
      rw [e]
      exact T1.mg g1
    · exact lw_I.play V.2.2.2 m0 m1

end
