/-! ===== the law's frame; drawn; its calls (printed by wip/p28/mk79.py) ===== -/
def lw_w (pos : Nat) (w : Jvm.Cond) : Bool := decide (lw_tbl[pos]? = some w)
theorem lw_w_in {pos : Nat} {w : Jvm.Cond} (h : lw_w pos w = true) : w ∈ lw_tbl := List.mem_of_getElem? (of_decide_eq_true h)
theorem lw_Tg {w : Jvm.Cond} (h : w ∈ ab_Tg) : w ∈ lw_tbl := (List.mem_filter.mp h).1
def lw_ip : List Nat := [178, 203, 53, 114, 34, 142, 28, 20]
theorem lw_in8 : (List.range 8).all (fun ci => lw_w (lw_ip.getD ci 0) (.instantiable (ab_cn ci) (ab_nf ci))) = true := by decide +kernel
theorem lw_inst {ci : Nat} (hc : ci < 8) : Jvm.Cond.instantiable (ab_cn ci) (ab_nf ci) ∈ lw_tbl := lw_w_in (List.all_eq_true.mp lw_in8 ci (List.mem_range.mpr hc))
theorem lw_arr : lw_w 51 (.arrayClass .int) = true ∧ lw_w 818 (.arrayClass .long) = true := by decide +kernel
/-- what the law knows of its frame -/
def lw_Cx (p : Program) (s : State) (m : MethodId) (meth : Method) (c : Code) (b L : Nat) (xs : Nat → Int32) (D : va_G) (cA cL : ClassId) : Prop :=
  gx_C code 12 p s m #[Value.ref b] c D cA ∧ meth.sig.returnType = ret ∧ va_K D vwCl [(cL, .long)] s ∧ va_X b L xs s s.heap ∧ b < s.heap.size ∧ meth.locks = false ∧ (∀ w ∈ lw_tbl, w.before #[Value.ref b] s = true) ∧ s.vm.findClass "[J" = some cL
theorem lw_Cx_of {p : Program} {s : State} {m : MethodId} {meth : Method} {c : Code} {b L : Nat} {xs : Nat → Int32} (C0 : lw_At p s m meth c b L xs) : ∃ (D : va_G) (cA cL : ClassId), lw_Cx p s m meth c b L xs D cA cL := by
  obtain ⟨hx, hb, hr, hml, hown, hts, hX, hbl, hlocks, hgv⟩ := C0
  have hts2 : ∀ w ∈ ab_Tg, w.before #[Value.ref b] s = true := fun w hw => hts w (lw_Tg hw)
  have kn : ∀ ci : Nat, ∃ q : ClassId × (Nat → Nat), ci < 8 → u_Kn s (ab_cn ci) (ab_tx ci) (ab_nf ci) q.1 q.2 := by
    intro ci
    by_cases hc : ci < 8
    · obtain ⟨cC, iS, h⟩ := u_known hts2 (ab_lays hc) (hts _ (lw_inst hc))
      exact ⟨(cC, iS), fun _ => h⟩
    · exact ⟨(0, fun _ => 0), fun h => absurd h hc⟩
  obtain ⟨cA, kA, comp, a1, a2, a3⟩ := Cond.arrayClass_spec (hts _ (lw_w_in lw_arr.1))
  obtain ⟨cL, kL, compL, l1, l2, l3⟩ := Cond.arrayClass_spec (hts _ (lw_w_in lw_arr.2))
  have hcls : ∀ (ci : Nat) (q : vw_C), vwCl[ci]? = some q → u_Kn s q.1 q.2.1 q.2.2 (Classical.choose (kn ci)).1 (Classical.choose (kn ci)).2 := by
    intro ci q hq
    have hc : ci < 8 := by
      rcases Nat.lt_or_ge ci 8 with g | g
      · exact g
      · rw [List.getElem?_eq_none (by show 8 ≤ ci; exact g)] at hq; cases hq
    rw [ab_cl hc] at hq
    cases hq
    exact Classical.choose_spec (kn ci) hc
  refine ⟨(fun k => (Classical.choose (kn k)).1, fun k => (Classical.choose (kn k)).2), cA, cL, ⟨hx, hb, hml, hown, hts2, fun w hw => va_Nw.of (ab_nw_tab hw) (hts w (List.mem_filter.mp hw).1), ⟨hcls, fun k q hq => ?_⟩⟩, hr, ⟨hcls, fun k q hq => ?_⟩, hX, hbl, hlocks, hts, l1⟩
  · match k, hq with
    | 0, hq =>
      cases hq
      exact ⟨fun n z => ⟨fun k h => (by cases h), kA, a2, comp, a3⟩, a1⟩
    | k + 1, hq => simp at hq
  · match k, hq with
    | 0, hq =>
      cases hq
      exact ⟨fun n z => ⟨fun k h => (by cases h), kL, l2, compL, l3⟩, l1⟩
    | k + 1, hq => simp at hq
theorem ofNat_ii (n : Nat) : Int32.ofNat n = Int32.ofInt n := by
  apply Int32.toBitVec_inj.mp
  show BitVec.ofNat 32 n = BitVec.ofInt 32 (n : Int)
  rw [BitVec.ofInt_natCast]
theorem dd_0 : decode (ab_cod yn_Law_drawn) 0 = .ok (.aload_n 0, 1) := by decide +kernel
theorem dd_1 : decode (ab_cod yn_Law_drawn) 1 = .ok (.arraylength, 1) := by decide +kernel
theorem dd_2 : decode (ab_cod yn_Law_drawn) 2 = .ok (.ifCond .ne 13, 3) := by decide +kernel
theorem dd_5 : decode (ab_cod yn_Law_drawn) 5 = .ok (.sipush 7919, 3) := by decide +kernel
theorem dd_8 : decode (ab_cod yn_Law_drawn) 8 = .ok (.iload_n 1, 1) := by decide +kernel
theorem dd_9 : decode (ab_cod yn_Law_drawn) 9 = .ok (.imul, 1) := by decide +kernel
theorem dd_10 : decode (ab_cod yn_Law_drawn) 10 = .ok (.iconst 3, 1) := by decide +kernel
theorem dd_11 : decode (ab_cod yn_Law_drawn) 11 = .ok (.iadd, 1) := by decide +kernel
theorem dd_12 : decode (ab_cod yn_Law_drawn) 12 = .ok (.goto 27, 3) := by decide +kernel
theorem dd_15 : decode (ab_cod yn_Law_drawn) 15 = .ok (.aload_n 0, 1) := by decide +kernel
theorem dd_16 : decode (ab_cod yn_Law_drawn) 16 = .ok (.iload_n 1, 1) := by decide +kernel
theorem dd_17 : decode (ab_cod yn_Law_drawn) 17 = .ok (.aload_n 0, 1) := by decide +kernel
theorem dd_18 : decode (ab_cod yn_Law_drawn) 18 = .ok (.arraylength, 1) := by decide +kernel
theorem dd_19 : decode (ab_cod yn_Law_drawn) 19 = .ok (.irem, 1) := by decide +kernel
theorem dd_20 : decode (ab_cod yn_Law_drawn) 20 = .ok (.iaload, 1) := by decide +kernel
theorem dd_21 : decode (ab_cod yn_Law_drawn) 21 = .ok (.iload_n 1, 1) := by decide +kernel
theorem dd_22 : decode (ab_cod yn_Law_drawn) 22 = .ok (.bipush 7, 2) := by decide +kernel
theorem dd_24 : decode (ab_cod yn_Law_drawn) 24 = .ok (.irem, 1) := by decide +kernel
theorem dd_25 : decode (ab_cod yn_Law_drawn) 25 = .ok (.ishr, 1) := by decide +kernel
theorem dd_26 : decode (ab_cod yn_Law_drawn) 26 = .ok (.iload_n 1, 1) := by decide +kernel
theorem dd_27 : decode (ab_cod yn_Law_drawn) 27 = .ok (.aload_n 0, 1) := by decide +kernel
theorem dd_28 : decode (ab_cod yn_Law_drawn) 28 = .ok (.arraylength, 1) := by decide +kernel
theorem dd_29 : decode (ab_cod yn_Law_drawn) 29 = .ok (.idiv, 1) := by decide +kernel
theorem dd_30 : decode (ab_cod yn_Law_drawn) 30 = .ok (.bipush 31, 2) := by decide +kernel
theorem dd_32 : decode (ab_cod yn_Law_drawn) 32 = .ok (.imul, 1) := by decide +kernel
theorem dd_33 : decode (ab_cod yn_Law_drawn) 33 = .ok (.ixor, 1) := by decide +kernel
theorem dd_34 : decode (ab_cod yn_Law_drawn) 34 = .ok (.iload_n 1, 1) := by decide +kernel
theorem dd_35 : decode (ab_cod yn_Law_drawn) 35 = .ok (.ldc 8, 2) := by decide +kernel
theorem dd_37 : decode (ab_cod yn_Law_drawn) 37 = .ok (.imul, 1) := by decide +kernel
theorem dd_38 : decode (ab_cod yn_Law_drawn) 38 = .ok (.ixor, 1) := by decide +kernel
theorem dd_39 : decode (ab_cod yn_Law_drawn) 39 = .ok (.ireturn, 1) := by decide +kernel
theorem ddw : ab_w 580 (.constant "FairBooksLaw" 8 (Int32.ofInt 2654435)) = true := by decide +kernel
theorem md_n (k L : Nat) : (k : Int) - ((k / L : Nat) : Int) * (L : Int) = ((k % L : Nat) : Int) := by
  rw [Int.natCast_ediv, Int.natCast_emod, Int.emod_def, Int.mul_comm]
def dr_Pc (b L : Nat) (xs : Nat → Int32) (k : Nat) : Array Value → State → Prop := fun a U => a = #[.ref b, .int (Int32.ofInt k)] ∧ va_X b L xs U U.heap ∧ b < U.heap.size
def dr_Qc : Array Value → State → Outcome → State → Prop := fun _ st o t => ∃ r : Int32, o = .returned (some (.int r)) ∧ t.heap = st.heap
def dr_ws : List Jvm.Cond := .code (ab_yn yn_Law_drawn) (ab_cod yn_Law_drawn) (ab_ml yn_Law_drawn) (ab_rt yn_Law_drawn) :: ab_Tg
def dr_rm : Room := { frames := 1, cells := 0, slots := 0, locals := 40 }
set_option maxHeartbeats 4000000 in
set_option maxRecDepth 100000 in
theorem sp_Law_drawn (l : Launch) {b L k : Nat} {xs : Nat → Int32} (hk : k < 100) (hL : L ≤ 260) : Met l (ab_yn yn_Law_drawn) dr_ws dr_rm (dr_Pc b L xs k) dr_Qc 0 0 (fun _ => False) := by
  obtain ⟨y1, y2, y3, y4, y5⟩ := ab_yok (y := yn_Law_drawn) ⟨by decide, by decide⟩
  refine ab_ofW (cc := ab_cod yn_Law_drawn) (maxL := ab_ml yn_Law_drawn) (ret := ab_rt yn_Law_drawn) y2 rfl ?_
  intro p e s m args below meth c s₁ B hml hv
  obtain ⟨rfl, hX, hbl⟩ := hv
  have hts : ∀ w ∈ ab_Tg, w.before #[.ref b, .int (Int32.ofInt k)] s = true := fun w hw => atoms_spec (ws := dr_ws) B.pre w (List.mem_cons_of_mem _ hw)
  have hown : s.vm.findClass "FairBooksLaw" = some m.cls := findClass_of_methodNamed B.named
  have hx1 := B.exec
  have hb1 := B.bytes
  have hl := lv_entry ([.ref b, .int (Int32.ofInt k)] : List Value) (n := ab_ml yn_Law_drawn) (Nat.le_of_ble_eq_true rfl)
  show W p l e dr_rm s m #[.ref b, .int (Int32.ofInt k)] below meth c s.heap [] 0 0 _ (entryFrame m ([.ref b, .int (Int32.ofInt k)] : List Value).toArray (ab_ml yn_Law_drawn))
  rw [lg_entry_eq]
  generalize (lg_sl ([.ref b, .int (Int32.ofInt k)] : List Value) ++ List.replicate (ab_ml yn_Law_drawn - (lg_sl ([.ref b, .int (Int32.ofInt k)] : List Value)).length) Slot.unset).toArray = ls at hl ⊢
  have hl : lv_has ls (ab_ml yn_Law_drawn) [(0, .ref b), (1, .int (Int32.ofInt k))] := hl
  have S : va_S (fun _ => False) s.heap s.heap [] := va_S.rf
  have fin : ∀ x : Int32, W p l e dr_rm s m #[.ref b, .int (Int32.ofInt k)] below meth c s.heap [] 0 0 (MQ below dr_Qc #[.ref b, .int (Int32.ofInt k)] s 0 0 (fun _ => False)) (F0 m 39 ls [.int x]) := by
    intro x
    exact W.zret (v := x) (ty := .int) B.exec B.bytes (B.returns.trans rfl) rfl (fun t ht _ => ⟨x, rfl, ht⟩) (fun q hq => absurd hq List.not_mem_nil) dd_39 (hlocks := B.notSynchronized)
  refine lv_aload_n hx1 hb1 dd_0 rfl (lv_at hl 0 rfl) ?_
  refine va_slen (A := fun _ => False) hx1 hb1 hX hbl (fun h => h) S dd_1 ?_
  rw [ofNat_ii]
  refine lv_if_ne (tgt := 15) hx1 hb1 dd_2 (by decide) (fun cn => ?_) (fun _ => ?_)
  · have hL0 : 0 < L := by
      rcases Nat.eq_zero_or_pos L with rfl | g
      · exact absurd rfl cn
      · exact g
    have hmod : k % L < L := Nat.mod_lt k hL0
    refine lv_aload_n hx1 hb1 dd_15 rfl (lv_at hl 0 rfl) ?_
    refine lv_iload_n hx1 hb1 dd_16 rfl (lv_at hl 1 rfl) ?_
    refine lv_aload_n hx1 hb1 dd_17 rfl (lv_at hl 0 rfl) ?_
    refine va_slen (A := fun _ => False) hx1 hb1 hX hbl (fun h => h) S dd_18 ?_
    rw [ofNat_ii]
    refine lv_irem hx1 hb1 dd_19 cn ?_
    rw [dv_n (by omega) hL0 (by omega), ii_mul, ii_sub, md_n]
    refine va_sld (A := fun _ => False) hx1 hb1 hX hbl (fun h => h) S ((ii_in (by omega) (by omega) (by omega)).mpr trivial) dd_20 ?_
    refine lv_iload_n hx1 hb1 dd_21 rfl (lv_at hl 1 rfl) ?_
    refine lv_bipush (v := Int32.ofInt 7) hx1 hb1 dd_22 (by decide) ?_
    refine lv_irem hx1 hb1 dd_24 (by decide) ?_
    refine lv_ishr hx1 hb1 dd_25 ?_
    refine lv_iload_n hx1 hb1 dd_26 rfl (lv_at hl 1 rfl) ?_
    refine lv_aload_n hx1 hb1 dd_27 rfl (lv_at hl 0 rfl) ?_
    refine va_slen (A := fun _ => False) hx1 hb1 hX hbl (fun h => h) S dd_28 ?_
    rw [ofNat_ii]
    refine lv_idiv hx1 hb1 dd_29 cn ?_
    refine lv_bipush (v := Int32.ofInt 31) hx1 hb1 dd_30 (by decide) ?_
    refine lv_imul hx1 hb1 dd_32 ?_
    refine lv_ixor hx1 hb1 dd_33 ?_
    refine lv_iload_n hx1 hb1 dd_34 rfl (lv_at hl 1 rfl) ?_
    refine lv_ldc hx1 hb1 hown (hts _ (ab_w_in ddw)) dd_35 ?_
    refine lv_imul hx1 hb1 dd_37 ?_
    refine lv_ixor hx1 hb1 dd_38 ?_
    exact fin _
  · refine lv_sipush (v := Int32.ofInt 7919) hx1 hb1 dd_5 (by decide) ?_
    refine lv_iload_n hx1 hb1 dd_8 rfl (lv_at hl 1 rfl) ?_
    refine lv_imul hx1 hb1 dd_9 ?_
    refine lv_iconst (v := Int32.ofInt 3) hx1 hb1 dd_10 rfl ?_
    refine lv_iadd hx1 hb1 dd_11 ?_
    refine lv_goto (tgt := 39) hx1 hb1 dd_12 (by decide) ?_
    exact fin _
/-- the world of the law: the object at B, the row of sums behind it -/
def lw_V (s : State) (D : va_G) (cA cL : ClassId) (B : Nat) (w : Wd) (g : Nat → Int64) (H : Heap) (locs : List Loc) : Prop :=
  (∃ h, sp_CW h w ∧ ab_Wd D cA B 192 1 h H) ∧ va_P D vwCl [(B + 192, .inl (cL, 64, .inr (.inl g)))] H ∧ va_S (fun q => s.heap.size ≤ q) s.heap H locs ∧ s.heap.size ≤ B
section
variable {p : Program} {l : Launch} {e : Env} {s : State} {m : MethodId} {below : List Frame} {meth : Method} {c : Code} {b L : Nat} {xs : Nat → Int32} {D : va_G} {cA cL : ClassId} {B : Nat} {Z : State → Prop} {H : Heap} {locs : List Loc} {pc : Nat} {ls : Array Slot} {st : List Value} {w w' : Wd} {g : Nat → Int64}
theorem lw_keep {h' : ab_H} {H' : Heap} {locs' : List Loc} (hV : lw_V s D cA cL B w g H locs) (V' : sp_CW h' w') (w1 : ab_Wd D cA B 192 1 h' H') (S' : va_S (fun q => s.heap.size ≤ q) s.heap H' locs') (k : ∀ q, q < H.size → (q < B ∨ B + 192 ≤ q) → H'[q]? = H[q]?) : lw_V s D cA cL B w' g H' locs' := by
  obtain ⟨⟨h, V, w0⟩, P, S, hB⟩ := hV
  refine ⟨⟨h', V', w1⟩, ?_, S', hB⟩
  intro j q hq
  have hj : j < 1 := (List.getElem?_eq_some_iff.mp hq).1
  have h1 := P j q hq
  rw [show j = 0 by omega] at hq
  cases hq
  exact h1.kept (k _ h1.lt (Or.inr (Nat.le_refl _)))
set_option maxHeartbeats 1000000 in
/-- a call of the object -/
theorem lw_cv {idx y na p1 p2 p3 p4 d : Nat} {as : List Value} {v : Value} (C : lw_Cx p s m meth c b L xs D cA cL) (hck : gx_ckV idx y na p1 p2 p3 p4 = true) (hdec : decode code pc = .ok (.invokevirtual idx, 3)) (hal : as.length = na) (hd : d ≤ 11) (hcall : ∀ h, sp_CW h w → ab_C d y 192 (.ref 0 :: as) h (fun r h' => r = some v ∧ sp_CW h' w')) (hV : lw_V s D cA cL B w g H locs) (hl : ls.size = 12) (hst : (st.map fun v => v.category).sum ≤ 8)
    (hg : ∀ H' locs', lw_V s D cA cL B w' g H' locs' → W p l e room_1 s m #[Value.ref b] below meth c H' locs' 600000 7302250 Z (F0 m (pc + 3) ls (ab_em B v :: st))) : W p l e room_1 s m #[Value.ref b] below meth c H locs 600000 7302250 Z (F0 m pc ls ((as.map (ab_em B)).reverse ++ .ref (B + 0) :: st)) := by
  obtain ⟨⟨h, V, w0⟩, P, S, hB⟩ := id hV
  refine gx_V C.1 hck hdec (by omega) hh_0 (hcall h V) hal w0 hB S hl hst ⟨by show d + 1 ≤ 13; omega, by show 40 * d + 39 ≤ 530; omega⟩ (Nat.le_refl _) (Nat.le_refl _) (fun r h' H' locs' q1 w1 S1 k1 => ?_)
  obtain ⟨rfl, V1⟩ := q1
  exact hg H' locs' (lw_keep hV V1 w1 S1 k1)
set_option maxHeartbeats 1000000 in
/-- a call of a method of the law that takes the object -/
theorem lw_ct {idx y na p1 p2 p3 d : Nat} {as : List Value} {v : Value} (C : lw_Cx p s m meth c b L xs D cA cL) (hck : gx_ckS idx y na p1 p2 p3 = true) (hm : ab_mc y = 0 ∧ ab_ms y = 0) (hdec : decode code pc = .ok (.invokestatic idx, 3)) (hal : as.length = na) (hd : d ≤ 11) (hcall : ∀ h, sp_CW h w → ab_C d y 192 as h (fun r h' => r = some v ∧ sp_CW h' w')) (hV : lw_V s D cA cL B w g H locs) (hl : ls.size = 12) (hst : (st.map fun v => v.category).sum ≤ 8)
    (hg : ∀ H' locs', lw_V s D cA cL B w' g H' locs' → W p l e room_1 s m #[Value.ref b] below meth c H' locs' 600000 7302250 Z (F0 m (pc + 3) ls (ab_em B v :: st))) : W p l e room_1 s m #[Value.ref b] below meth c H locs 600000 7302250 Z (F0 m pc ls ((as.map (ab_em B)).reverse ++ st)) := by
  obtain ⟨⟨h, V, w0⟩, P, S, hB⟩ := id hV
  refine gx_S C.1 hck hdec (hcall h V) hal (fun q => absurd hm.1 q) w0 hB S hl hst ⟨by show d + 1 ≤ 13; omega, by show 40 * d + 39 ≤ 530; omega⟩ (by rw [hm.1]; exact Nat.le_refl _) (by rw [hm.2]; exact Nat.le_refl _) (fun r h' H' locs' q1 w1 S1 k1 => ?_)
  obtain ⟨rfl, V1⟩ := q1
  rw [hm.1] at w1 ⊢
  rw [hm.2]
  exact hg H' locs' (lw_keep hV V1 w1 S1 k1)
theorem mc_l : (ab_mc yn_Law_part = 0 ∧ ab_ms yn_Law_part = 0) ∧ (ab_mc yn_Law_seen = 0 ∧ ab_ms yn_Law_seen = 0) ∧ (ab_mc yn_Law_refused = 0 ∧ ab_ms yn_Law_refused = 0) := by decide +kernel
/-- part answers some int -/
theorem lw_part {idx p1 p2 p3 : Nat} {x y : Int32} (C : lw_Cx p s m meth c b L xs D cA cL) (hck : gx_ckS idx yn_Law_part 2 p1 p2 p3 = true) (hdec : decode code pc = .ok (.invokestatic idx, 3)) (hy : ¬ y = Int32.ofInt 0) (hV : lw_V s D cA cL B w g H locs) (hl : ls.size = 12) (hst : (st.map fun v => v.category).sum ≤ 8)
    (hg : ∀ r H' locs', lw_V s D cA cL B w g H' locs' → W p l e room_1 s m #[Value.ref b] below meth c H' locs' 600000 7302250 Z (F0 m (pc + 3) ls (.int r :: st))) : W p l e room_1 s m #[Value.ref b] below meth c H locs 600000 7302250 Z (F0 m pc ls (.int y :: .int x :: st)) := by
  obtain ⟨⟨h, V, w0⟩, P, S, hB⟩ := id hV
  refine gx_S (as := [.int x, .int y]) (Q2 := fun r h' => (∃ z, r = some (.int z)) ∧ sp_CW h' w) C.1 hck hdec (sp_Law_part hy (fun r => ⟨⟨r, rfl⟩, V⟩)) rfl (fun q => absurd mc_l.1.1 q) w0 hB S hl hst ⟨by show 0 + 1 ≤ 13; omega, by show 40 * 0 + 39 ≤ 530; omega⟩ (by rw [mc_l.1.1]; exact Nat.le_refl _) (by rw [mc_l.1.2]; exact Nat.le_refl _) (fun r h' H' locs' q1 w1 S1 k1 => ?_)
  obtain ⟨⟨z, rfl⟩, V1⟩ := q1
  rw [mc_l.1.1] at w1 ⊢
  rw [mc_l.1.2]
  exact hg z H' locs' (lw_keep hV V1 w1 S1 k1)
theorem dr_blind {k : Nat} : FrameBlind (dr_Pc b L xs k) := by
  intro a U gg mk q
  obtain ⟨q1, q2, q3⟩ := q
  exact ⟨q1, va_X.moved (u := U) (U := U.calling gg mk a) (Vm.Alike.refl U.vm) q2, q3⟩
set_option maxHeartbeats 1000000 in
theorem lw_drawn {idx p1 p2 p3 k : Nat} (C : lw_Cx p s m meth c b L xs D cA cL) (hck : gx_ckS idx yn_Law_drawn 2 p1 p2 p3 = true) (hdec : decode code pc = .ok (.invokestatic idx, 3)) (hk : k < 100) (hL : L ≤ 260) (hV : lw_V s D cA cL B w g H locs) (hl : ls.size = 12) (hst : (st.map fun v => v.category).sum ≤ 8)
    (hg : ∀ r locs', lw_V s D cA cL B w g H locs' → W p l e room_1 s m #[Value.ref b] below meth c H locs' 600000 7302250 Z (F0 m (pc + 3) ls (.int r :: st))) : W p l e room_1 s m #[Value.ref b] below meth c H locs 600000 7302250 Z (F0 m pc ls (.int (Int32.ofInt k) :: .ref b :: st)) := by
  obtain ⟨hh, P, S, hB⟩ := id hV
  obtain ⟨⟨hx1, hb1, hml, hown, hts, hnw, hK⟩, hret, hKL, hX, hbl, hlk, hts2, hcL⟩ := id C
  simp only [gx_ckS, Bool.and_eq_true, decide_eq_true_eq] at hck
  obtain ⟨k1, k2, k3, k4, k5, k6⟩ := hck
  obtain ⟨y1, y2, y3, y4, y5⟩ := ab_yok ⟨k1, k2⟩
  have hPc : ∀ U : State, U.heap = H → s.WarmedH U.vm → dr_Pc b L xs k ([.ref b, .int (Int32.ofInt k)] : List Value).toArray U := by
    intro U hU hW
    refine ⟨rfl, ?_, by rw [hU]; exact Nat.lt_of_lt_of_le hbl S.1⟩
    rw [hU]
    exact va_X.moved hW.alike (va_X.kept hX (S.2.1 b hbl (Nat.not_le.mpr hbl)))
  have cb := callB_of (R := room_1) (rm := dr_rm) 2 hts (ab_good y1) rfl rfl rfl (hts _ (ab_w_in k5)) (hts _ (ab_w_in k3)) ⟨y3, y4, k6⟩ ⟨by decide, by show 8 + (ab_ml yn_Law_drawn + 11) + 40 ≤ 530; omega⟩
  have hr := va_runS (H := H) (locs := locs) (cells := 600000) (slots := 7302250) (e := e) (below := below) (As := [.ref b, .int (Int32.ofInt k)]) (rest := st) (g := F0 m pc ls (.int (Int32.ofInt k) :: .ref b :: st)) (meth := meth) ⟨hx1, hb1, hml, hown, hts⟩ (sp_Law_drawn l (b := b) (L := L) (xs := xs) hk hL) ⟨cb, hts _ (ab_w_in k4)⟩ ⟨dr_blind, hPc⟩ rfl rfl hl rfl (lv_room hst) hdec ⟨Nat.le_refl _, Nat.le_refl _⟩
  intro T hT X
  obtain ⟨v, s0, t, T', L', g0, X', hLf, g1, g2, ⟨r, hv, ht⟩, gg⟩ := hr T hT X
  cases hv
  have e0 : T'.heap = H := by rw [g1, ht, g0]
  obtain ⟨t2, a1, b1⟩ := hg r (locs ++ L') ⟨hh, P, ⟨S.1, S.2.1, fun q hq => by
    rcases List.mem_append.mp hq with z | z
    · exact S.2.2 q z
    · exact (hLf q z).elim⟩, hB⟩ T' e0 X'
  exact ⟨t2, gg t2 a1, b1⟩
end
