/-! ===== the law, from its entry ===== -/
theorem lw_inst {ci : Nat} (hc : ci < 9) : Jvm.Cond.instantiable (ab_cn ci) (ab_nf ci) ∈ lw_tbl := lw_w_in (List.all_eq_true.mp lw_in9 ci (List.mem_range.mpr hc))
theorem lw_Cx_of {p : Program} {s : State} {m : MethodId} {meth : Method} {c : Code} {b L : Nat} {xs : Nat → Int32} (C0 : lw_At p s m meth c b L xs) : ∃ (D : va_G) (cA : ClassId), lw_Cx p s m meth c b L xs D cA := by
  obtain ⟨hx, hb, hr, hml, hown, hts, hX, hbl, hlocks, hgv⟩ := C0
  have hts2 : ∀ w ∈ ab_Tg, w.before #[Value.ref b] s = true := fun w hw => hts w (lw_Tg hw)
  have kn : ∀ ci : Nat, ∃ q : ClassId × (Nat → Nat), ci < 9 → u_Kn s (ab_cn ci) (ab_tx ci) (ab_nf ci) q.1 q.2 := by
    intro ci
    by_cases hc : ci < 9
    · obtain ⟨cC, iS, h⟩ := u_known hts2 (ab_lays hc) (hts _ (lw_inst hc))
      exact ⟨(cC, iS), fun _ => h⟩
    · exact ⟨(0, fun _ => 0), fun h => absurd h hc⟩
  obtain ⟨cA, kA, comp, a1, a2, a3⟩ := Cond.arrayClass_spec (hts _ (lw_w_in lw_arr))
  refine ⟨(fun k => (Classical.choose (kn k)).1, fun k => (Classical.choose (kn k)).2), cA, hx, hb, hr, hml, hown, hts, fun w hw => va_Nw.of (ab_nw_tab hw) (hts w (List.mem_filter.mp hw).1), ⟨fun ci q hq => ?_, fun k q hq => ?_⟩, hX, hbl, hlocks⟩
  · have hc : ci < 9 := by
      rcases Nat.lt_or_ge ci 9 with g | g
      · exact g
      · rw [List.getElem?_eq_none (by show 9 ≤ ci; exact g)] at hq; cases hq
    rw [ab_cl hc] at hq
    cases hq
    exact Classical.choose_spec (kn ci) hc
  · match k, hq with
    | 0, hq =>
      cases hq
      exact ⟨fun n z => ⟨fun k h => (by cases h), kA, a2, comp, a3⟩, a1⟩
    | k + 1, hq => simp at hq
section
variable {p : Program} {l : Launch} {e : Env} {s : State} {m : MethodId} {below : List Frame} {meth : Method} {c : Code} {b L : Nat} {xs : Nat → Int32} {D : va_G} {cA : ClassId} {Z : State → Prop} {H : Heap} {locs : List Loc} {cells slots : Nat} {ls : Array Slot} {h : ab_H}
set_option maxHeartbeats 1000000 in
theorem lw_new {pc idx ci n p1 p2 : Nat} {st : List Value} (C : lw_Cx p s m meth c b L xs D cA) (hd : decode code pc = .ok (.new idx, 3)) (hc : ci < 9) (hs : ab_sh n = ci) (hw1 : lw_w p1 (.classLink R_law idx (ab_cn ci)) = true) (hw3 : lw_w p2 (.initialized (ab_cn ci)) = true) (w : ab_Wd D cA s.heap.size n h H) (S : ab_S s.heap.size s.heap H locs) (hce : cells + 1 ≤ 200) (hsl : slots + ab_nf ci ≤ 5573)
    (hg : ∀ H', ab_Wd D cA s.heap.size (n + 1) (ab_hn h n) H' → ab_S s.heap.size s.heap H' locs → W p l e room_1 s m #[Value.ref b] below meth c H' locs (cells + 1) (slots + ab_nf ci) Z (F0 m (pc + 3) ls (.ref (s.heap.size + n) :: st))) : W p l e room_1 s m #[Value.ref b] below meth c H locs cells slots Z (F0 m pc ls st) := by
  obtain ⟨hx1, hb1, hr1, hml, hown, hts, hnw, hK, hX, hbl, hlk⟩ := id C
  have hts2 : ∀ w ∈ ab_Tg, w.before #[Value.ref b] s = true := fun w hw => hts w (lw_Tg hw)
  have hKn := hK.1 ci _ (ab_cl hc)
  refine W.newcK hx1 hb1 hown (hts _ (lw_w_in hw1)) (hts _ (lw_inst hc)) (hts _ (lw_w_in hw3)) rfl hd (by show cells + 1 ≤ 200; omega) (by show slots + ab_nf ci ≤ 5573; omega) hKn.2.1 w.1 fun H1 kC hkC e1 z1 o1 => ?_
  have hS1 : H.size = s.heap.size + n := w.1
  refine hg H1 (w.new (by omega) (fun q hq => o1 q (by omega)) ?_) (S.new (by omega) (by omega) (fun q hq => o1 q (by omega)))
  rw [ab_ce_o hc hs]
  refine ⟨_, ab_cl hc, (u_born (ab_ty ci) hts2 (ab_lays hc) hKn hkC e1 (ab_tyo hc)).to (fun f hf => ?_)⟩
  show defaultValue (ab_ty ci f) = (ab_ob s.heap.size (ab_hn h n) n ci).getD f .null
  rw [List.getD_eq_getElem?_getD, ab_ob_at hf, ab_fv_new hc hf]
  rfl
set_option maxHeartbeats 1000000 in
theorem lw_init {pc idx y n d k : Nat} {p1 p2 p3 : Nat} {st : List Value} {Q2 : Option Value → ab_H → Prop} (C : lw_Cx p s m meth c b L xs D cA)
    (hi : lw_dc pc (.invokespecial idx) 3 = true ∧ lw_w p1 (.methodLink R_law idx (ab_yn y)) = true ∧ lw_w p2 (.instanceMethod (ab_yn y)) = true ∧ lw_w p3 (.initialized (ab_yn y).cls) = true ∧ (ab_yn y).name = "<init>" ∧ ab_rt y = none ∧ (parseMethodDescriptor (ab_yn y).desc).map (fun d => d.parameters.length) = some 0)
    (hy : 2 ≤ y ∧ y < 205) (hd : d ≤ 10) (hcall : ab_C d y n [.ref k] h Q2) (w : ab_Wd D cA s.heap.size n h H) (S : ab_S s.heap.size s.heap H locs) (hl : ls.size = 4) (hst : (st.map fun v => v.category).sum ≤ 8) (hce : cells + ab_mc y ≤ 200) (hsl : slots + ab_ms y ≤ 5573)
    (hg : ∀ rv h' H' locs', Q2 rv h' → ab_Wd D cA s.heap.size (n + ab_mc y) h' H' → ab_S s.heap.size s.heap H' locs' → W p l e room_1 s m #[Value.ref b] below meth c H' locs' (cells + ab_mc y) (slots + ab_ms y) Z (F0 m (pc + 3) ls ((rv.map (ab_em s.heap.size)).toList ++ st))) : W p l e room_1 s m #[Value.ref b] below meth c H locs cells slots Z (F0 m pc ls (.ref (s.heap.size + k) :: st)) := by
  obtain ⟨hx1, hb1, hr1, hml, hown, hts, hnw, hK, hX, hbl, hlk⟩ := id C
  obtain ⟨i0, i1, i2, i3, i4, i5, i6⟩ := hi
  obtain ⟨y1, y2, y3, y4, y5⟩ := ab_yok hy
  have hts2 : ∀ w ∈ ab_Tg, w.before #[Value.ref b] s = true := fun w hw => hts w (lw_Tg hw)
  have hM := hcall d (Nat.le_refl _) l D cA s.heap.size
  have hpc := lw_pc (as := [.ref k]) C w
  rw [i5] at hM y1
  have cb := callB_of (R := room_1) (rm := { frames := d, cells := ab_mc y, slots := ab_ms y, locals := 40 * d }) 0 hts2 (ab_good y1) rfl rfl rfl (hts _ (lw_w_in i3)) (hts _ (lw_w_in i1)) ⟨y3, y4, i6⟩ ⟨by show d + 1 ≤ 13; omega, by show 8 + (ab_ml y + 11) + 40 * d ≤ 502; omega⟩
  exact lw_back (mc := ab_mc y) (ms := ab_ms y) w S (va_runI (As := []) (rest := st) ⟨hx1, hb1, hml, hown, hts2⟩ hM ⟨cb, i4, hts _ (lw_w_in i2)⟩ ⟨ab_blind, hpc⟩ rfl rfl hl rfl (lv_room hst) (lw_dc_of i0) ⟨hce, hsl⟩) hg
theorem and31 (x : Int32) : ∃ z : Nat, z < 32 ∧ x &&& Int32.ofInt 31 = Int32.ofInt z := by
  refine ⟨(x &&& Int32.ofInt 31).toBitVec.toNat, ?_, ?_⟩
  · rw [Int32.toBitVec_and, BitVec.toNat_and]
    have e : (Int32.ofInt 31).toBitVec.toNat = 31 := by decide
    rw [e]
    exact Nat.lt_succ_of_le Nat.and_le_right
  · apply Int32.toBitVec_inj.mp
    show _ = BitVec.ofInt 32 _
    rw [BitVec.ofInt_natCast]
    simp
theorem ofNat_ii (n : Nat) : Int32.ofNat n = Int32.ofInt n := by
  apply Int32.toBitVec_inj.mp
  show BitVec.ofNat 32 n = BitVec.ofInt 32 (n : Int)
  rw [BitVec.ofInt_natCast]
set_option maxHeartbeats 4000000 in
set_option maxRecDepth 100000 in
theorem lw_loop (C : lw_Cx p s m meth c b L xs D cA) (hL : L ≤ 2560) : ∀ (n k : Nat) (w : Wd) (h : ab_H) (H : Heap) (locs : List Loc) (ls : Array Slot), L + 5 ≤ 5 * k + 5 * n → 5 * k ≤ L + 4 → lw_V h w (61 * (k : Int)) → ab_Wd D cA s.heap.size 200 h H → ab_S s.heap.size s.heap H locs → lv_has ls 4 (lw_L s b (Int32.ofInt ((5 * k : Nat) : Int))) →
    W p l e room_1 s m #[Value.ref b] below meth c H locs 200 5573 (lw_Z below #[Value.ref b] s) (F0 m 18 ls []) := by
  obtain ⟨hx1, hb1, hr1, hml, hown, hts, hnw, hK, hX, hbl, hlk⟩ := id C
  intro n
  induction n with
  | zero => intro k w h H locs ls h1 h2; omega
  | succ n ih =>
    intro k w h H locs ls h1 h2 V X S hl
    refine lv_iload_n hx1 hb1 dl_18 rfl (lv_at hl 0 rfl) ?_
    refine lv_aload_n hx1 hb1 dl_19 rfl (lv_at hl 3 rfl) ?_
    refine va_slen (A := fun q => s.heap.size ≤ q) hx1 hb1 hX hbl (Nat.not_le.mpr hbl) S dl_20 ?_
    refine lv_iconst (v := Int32.ofInt 5) hx1 hb1 dl_21 rfl ?_
    refine lv_isub hx1 hb1 dl_22 ?_
    rw [ofNat_ii, ii_sub]
    refine lv_icmp_gt (tgt := 919) hx1 hb1 dl_23 (by decide) (fun cg => ?_) (fun cg => ?_)
    · refine lv_iconst (v := 1) hx1 hb1 dl_919 (by decide) ?_
      refine va_forget (fun q hq => S.2.2 q hq) ?_
      refine W.base ?_
      exact lw_ret (Drawn.sameBut.refl s.drawn lw_cs) hx1 hb1 hr1 hlk dl_920
    · rw [ii_lt (by omega) (by omega) (by omega) (by omega)] at cg
      have hi : 5 * k + 5 ≤ L := by omega
      refine lv_aload_n hx1 hb1 dl_26 rfl (lv_at hl 3 rfl) ?_
      refine lv_iload_n hx1 hb1 dl_27 rfl (lv_at hl 0 rfl) ?_
      refine va_sld (A := fun q => s.heap.size ≤ q) hx1 hb1 hX hbl (Nat.not_le.mpr hbl) S (ii_in (by omega) (by omega) (by omega) |>.mpr trivial) dl_28 ?_
      rw [ii_cl (by omega) (by omega), Int.toNat_natCast]
      refine lv_bipush (v := Int32.ofInt 31) hx1 hb1 dl_29 (by decide) ?_
      refine lv_iand hx1 hb1 dl_31 ?_
      obtain ⟨z, z31, ez⟩ := and31 (xs (5 * k))
      rw [ez]
      have hz : (Int32.ofInt (z : Int)).toInt = (z : Int) := ii_toInt (by omega) (by omega)
      -- the call is done: the next one
      have nxt0 : ∀ w' h' H' locs', lw_V h' w' (61 * (k : Int) + 61) → ab_Wd D cA s.heap.size 200 h' H' → ab_S s.heap.size s.heap H' locs' → W p l e room_1 s m #[Value.ref b] below meth c H' locs' 200 5573 (lw_Z below #[Value.ref b] s) (F0 m 913 ls []) := by
        intro w' h' H' locs' V' X' S'
        refine lv_iinc (v := Int32.ofInt ((5 * (k + 1) : Nat) : Int)) (lv' := lw_L s b (Int32.ofInt ((5 * (k + 1) : Nat) : Int))) hx1 hb1 dl_913 hl (k := 0) rfl (by rw [ii_add]; congr 1) (by decide) rfl (fun ls2 hl2 => ?_)
        refine lv_goto (tgt := 18) hx1 hb1 dl_916 (by decide) ?_
        refine ih (k + 1) w' h' H' locs' ls2 (by omega) (by omega) ?_ X' S' hl2
        rw [show (61 : Int) * ((k + 1 : Nat) : Int) = 61 * (k : Int) + 61 by omega]
        exact V'
      have nxt := nxt0
      by_cases c25 : z < 25
      rotate_left
      · refine lv_tableOut (tgt := 913) hx1 hb1 lw_sw (Or.inr (by rw [hz]; omega)) (by decide) ?_
        exact nxt0 w h H locs ⟨V.1, V.2.1, V.2.2.1, V.2.2.2.up (by omega)⟩ X S
      rcases (show z = 0 ∨ z = 1 ∨ z = 2 ∨ z = 3 ∨ z = 4 ∨ z = 5 ∨ z = 6 ∨ z = 7 ∨ z = 8 ∨ z = 9 ∨ z = 10 ∨ z = 11 ∨ z = 12 ∨ z = 13 ∨ z = 14 ∨ z = 15 ∨ z = 16 ∨ z = 17 ∨ z = 18 ∨ z = 19 ∨ z = 20 ∨ z = 21 ∨ z = 22 ∨ z = 23 ∨ z = 24 by omega) with hk | hk | hk | hk | hk | hk | hk | hk | hk | hk | hk | hk | hk | hk | hk | hk | hk | hk | hk | hk | hk | hk | hk | hk | hk
      · obtain rfl : z = 0 := by omega
        refine lv_tableIn (tgt := 148) hx1 hb1 lw_sw (by rw [hz]; decide) (by rw [hz]; decide) (off := 116) (by rw [hz]; decide) (by decide) ?_
        exact lw_k0 C V (by omega) (by omega) (by omega) hL X S hl (Nat.le_refl _) (Nat.le_refl _) nxt
      · obtain rfl : z = 1 := by omega
        refine lv_tableIn (tgt := 181) hx1 hb1 lw_sw (by rw [hz]; decide) (by rw [hz]; decide) (off := 149) (by rw [hz]; decide) (by decide) ?_
        exact lw_k1 C V (by omega) (by omega) (by omega) hL X S hl (Nat.le_refl _) (Nat.le_refl _) nxt
      · obtain rfl : z = 2 := by omega
        refine lv_tableIn (tgt := 204) hx1 hb1 lw_sw (by rw [hz]; decide) (by rw [hz]; decide) (off := 172) (by rw [hz]; decide) (by decide) ?_
        exact lw_k2 C V (by omega) (by omega) (by omega) hL X S hl (Nat.le_refl _) (Nat.le_refl _) nxt
      · obtain rfl : z = 3 := by omega
        refine lv_tableIn (tgt := 247) hx1 hb1 lw_sw (by rw [hz]; decide) (by rw [hz]; decide) (off := 215) (by rw [hz]; decide) (by decide) ?_
        exact lw_k3 C V (by omega) (by omega) (by omega) hL X S hl (Nat.le_refl _) (Nat.le_refl _) nxt
      · obtain rfl : z = 4 := by omega
        refine lv_tableIn (tgt := 280) hx1 hb1 lw_sw (by rw [hz]; decide) (by rw [hz]; decide) (off := 248) (by rw [hz]; decide) (by decide) ?_
        exact lw_k4 C V (by omega) (by omega) (by omega) hL X S hl (Nat.le_refl _) (Nat.le_refl _) nxt
      · obtain rfl : z = 5 := by omega
        refine lv_tableIn (tgt := 323) hx1 hb1 lw_sw (by rw [hz]; decide) (by rw [hz]; decide) (off := 291) (by rw [hz]; decide) (by decide) ?_
        exact lw_k5 C V (by omega) (by omega) (by omega) hL X S hl (Nat.le_refl _) (Nat.le_refl _) nxt
      · obtain rfl : z = 6 := by omega
        refine lv_tableIn (tgt := 356) hx1 hb1 lw_sw (by rw [hz]; decide) (by rw [hz]; decide) (off := 324) (by rw [hz]; decide) (by decide) ?_
        exact lw_k6 C V (by omega) (by omega) (by omega) hL X S hl (Nat.le_refl _) (Nat.le_refl _) nxt
      · obtain rfl : z = 7 := by omega
        refine lv_tableIn (tgt := 399) hx1 hb1 lw_sw (by rw [hz]; decide) (by rw [hz]; decide) (off := 367) (by rw [hz]; decide) (by decide) ?_
        exact lw_k7 C V (by omega) (by omega) (by omega) hL X S hl (Nat.le_refl _) (Nat.le_refl _) nxt
      · obtain rfl : z = 8 := by omega
        refine lv_tableIn (tgt := 422) hx1 hb1 lw_sw (by rw [hz]; decide) (by rw [hz]; decide) (off := 390) (by rw [hz]; decide) (by decide) ?_
        exact lw_k8 C V (by omega) (by omega) (by omega) hL X S hl (Nat.le_refl _) (Nat.le_refl _) nxt
      · obtain rfl : z = 9 := by omega
        refine lv_tableIn (tgt := 455) hx1 hb1 lw_sw (by rw [hz]; decide) (by rw [hz]; decide) (off := 423) (by rw [hz]; decide) (by decide) ?_
        exact lw_k9 C V (by omega) (by omega) (by omega) hL X S hl (Nat.le_refl _) (Nat.le_refl _) nxt
      · obtain rfl : z = 10 := by omega
        refine lv_tableIn (tgt := 498) hx1 hb1 lw_sw (by rw [hz]; decide) (by rw [hz]; decide) (off := 466) (by rw [hz]; decide) (by decide) ?_
        exact lw_k10 C V (by omega) (by omega) (by omega) hL X S hl (Nat.le_refl _) (Nat.le_refl _) nxt
      · obtain rfl : z = 11 := by omega
        refine lv_tableIn (tgt := 531) hx1 hb1 lw_sw (by rw [hz]; decide) (by rw [hz]; decide) (off := 499) (by rw [hz]; decide) (by decide) ?_
        exact lw_k11 C V (by omega) (by omega) (by omega) hL X S hl (Nat.le_refl _) (Nat.le_refl _) nxt
      · obtain rfl : z = 12 := by omega
        refine lv_tableIn (tgt := 564) hx1 hb1 lw_sw (by rw [hz]; decide) (by rw [hz]; decide) (off := 532) (by rw [hz]; decide) (by decide) ?_
        exact lw_k12 C V (by omega) (by omega) (by omega) hL X S hl (Nat.le_refl _) (Nat.le_refl _) nxt
      · obtain rfl : z = 13 := by omega
        refine lv_tableIn (tgt := 597) hx1 hb1 lw_sw (by rw [hz]; decide) (by rw [hz]; decide) (off := 565) (by rw [hz]; decide) (by decide) ?_
        exact lw_k13 C V (by omega) (by omega) (by omega) hL X S hl (Nat.le_refl _) (Nat.le_refl _) nxt
      · obtain rfl : z = 14 := by omega
        refine lv_tableIn (tgt := 630) hx1 hb1 lw_sw (by rw [hz]; decide) (by rw [hz]; decide) (off := 598) (by rw [hz]; decide) (by decide) ?_
        exact lw_k14 C V (by omega) (by omega) (by omega) hL X S hl (Nat.le_refl _) (Nat.le_refl _) nxt
      · obtain rfl : z = 15 := by omega
        refine lv_tableIn (tgt := 683) hx1 hb1 lw_sw (by rw [hz]; decide) (by rw [hz]; decide) (off := 651) (by rw [hz]; decide) (by decide) ?_
        exact lw_k15 C V (by omega) (by omega) (by omega) hL X S hl (Nat.le_refl _) (Nat.le_refl _) nxt
      · obtain rfl : z = 16 := by omega
        refine lv_tableIn (tgt := 716) hx1 hb1 lw_sw (by rw [hz]; decide) (by rw [hz]; decide) (off := 684) (by rw [hz]; decide) (by decide) ?_
        exact lw_k16 C V (by omega) (by omega) (by omega) hL X S hl (Nat.le_refl _) (Nat.le_refl _) nxt
      · obtain rfl : z = 17 := by omega
        refine lv_tableIn (tgt := 749) hx1 hb1 lw_sw (by rw [hz]; decide) (by rw [hz]; decide) (off := 717) (by rw [hz]; decide) (by decide) ?_
        exact lw_k17 C V (by omega) (by omega) (by omega) hL X S hl (Nat.le_refl _) (Nat.le_refl _) nxt
      · obtain rfl : z = 18 := by omega
        refine lv_tableIn (tgt := 782) hx1 hb1 lw_sw (by rw [hz]; decide) (by rw [hz]; decide) (off := 750) (by rw [hz]; decide) (by decide) ?_
        exact lw_k18 C V (by omega) (by omega) (by omega) hL X S hl (Nat.le_refl _) (Nat.le_refl _) nxt
      · obtain rfl : z = 19 := by omega
        refine lv_tableIn (tgt := 805) hx1 hb1 lw_sw (by rw [hz]; decide) (by rw [hz]; decide) (off := 773) (by rw [hz]; decide) (by decide) ?_
        exact lw_k19 C V (by omega) (by omega) (by omega) hL X S hl (Nat.le_refl _) (Nat.le_refl _) nxt
      · obtain rfl : z = 20 := by omega
        refine lv_tableIn (tgt := 828) hx1 hb1 lw_sw (by rw [hz]; decide) (by rw [hz]; decide) (off := 796) (by rw [hz]; decide) (by decide) ?_
        exact lw_k20 C V (by omega) (by omega) (by omega) hL X S hl (Nat.le_refl _) (Nat.le_refl _) nxt
      · obtain rfl : z = 21 := by omega
        refine lv_tableIn (tgt := 841) hx1 hb1 lw_sw (by rw [hz]; decide) (by rw [hz]; decide) (off := 809) (by rw [hz]; decide) (by decide) ?_
        exact lw_k21 C V (by omega) (by omega) (by omega) hL X S hl (Nat.le_refl _) (Nat.le_refl _) nxt
      · obtain rfl : z = 22 := by omega
        refine lv_tableIn (tgt := 864) hx1 hb1 lw_sw (by rw [hz]; decide) (by rw [hz]; decide) (off := 832) (by rw [hz]; decide) (by decide) ?_
        exact lw_k22 C V (by omega) (by omega) (by omega) hL X S hl (Nat.le_refl _) (Nat.le_refl _) nxt
      · obtain rfl : z = 23 := by omega
        refine lv_tableIn (tgt := 877) hx1 hb1 lw_sw (by rw [hz]; decide) (by rw [hz]; decide) (off := 845) (by rw [hz]; decide) (by decide) ?_
        exact lw_k23 C V (by omega) (by omega) (by omega) hL X S hl (Nat.le_refl _) (Nat.le_refl _) nxt
      · obtain rfl : z = 24 := by omega
        refine lv_tableIn (tgt := 900) hx1 hb1 lw_sw (by rw [hz]; decide) (by rw [hz]; decide) (off := 868) (by rw [hz]; decide) (by decide) ?_
        exact lw_k24 C V (by omega) (by omega) (by omega) hL X S hl (Nat.le_refl _) (Nat.le_refl _) nxt
end
set_option maxHeartbeats 4000000 in
set_option maxRecDepth 100000 in
/-- from the entry, for every script: the law comes to its end with true -/
theorem whole_start {p : Program} {e : Env} {s : State} {m : MethodId} {below : List Frame} {meth : Method} {c : Code} (l : Launch) (hflags : l.flags = flags0) {b L : Nat} {xs : Nat → Int32} (hL : L ≤ 2560) (C0 : lw_At p s m meth c b L xs) : W p l e room_1 s m #[Value.ref b] below meth c s.heap [] 0 0 (lw_Z below #[Value.ref b] s) (entryFrame m ([Value.ref b] : List Value).toArray 4) := by
  obtain ⟨D, cA, C⟩ := lw_Cx_of C0
  obtain ⟨hx1, hb1, hr1, hml, hown, hts, hnw, hK, hX, hbl, hlk⟩ := id C
  have S : ab_S s.heap.size s.heap s.heap [] := va_S.rf
  have X : ab_Wd D cA s.heap.size 0 ((fun _ _ => 0, fun _ _ => 0) : ab_H) s.heap := ⟨rfl, fun k hk => absurd hk (Nat.not_lt_zero k)⟩
  generalize ((fun _ _ => 0, fun _ _ => 0) : ab_H) = h at X
  have hl := lv_entry ([.ref b]) (n := 4) (Nat.le_of_ble_eq_true rfl)
  rw [lg_entry_eq]
  generalize (lg_sl ([.ref b]) ++ List.replicate (4 - (lg_sl ([.ref b])).length) Slot.unset).toArray = ls at hl ⊢
  have hl : lv_has ls 4 [(0, .ref b)] := hl
  refine lw_new C (lw_dc_of lw_new1.1) (show 7 < 9 by omega) ab_sh_0 lw_new1.2.1 lw_new1.2.2 X S (by omega) (by show 0 + 6 ≤ 5573; omega) (fun H1 X1 S1 => ?_)
  refine lv_dup hx1 hb1 dl_3 rfl ?_
  have m1 : ab_mc 174 = 191 := by decide +kernel
  have m2 : ab_ms 174 = 3955 := by decide +kernel
  have m3 : ab_mc 5 = 7 := by decide +kernel
  have m4 : ab_ms 5 = 1588 := by decide +kernel
  refine lw_init (Q2 := fun rv h' => rv = none ∧ sp_N0 (ab_hn h 0) h') (d := 4) C lw_ini1 (by omega) (by decide) (sp_Fair_init (fun h' q => ⟨rfl, q⟩)) X1 S1 hl.1 (by show 1 + 0 ≤ 8; omega) (by rw [m1]; omega) (by rw [m2]; show 0 + 6 + 3955 ≤ 5573; omega) (fun rv h1 H2 locs2 n1 X2 S2 => ?_)
  obtain ⟨rfl, n1⟩ := n1
  rw [m1] at X2
  rw [m1, m2]
  refine lv_astore_n (lv' := [(1, .ref (s.heap.size + 0)), (0, .ref b)]) hx1 hb1 dl_7 rfl hl (by decide) rfl (fun ls hl => ?_)
  refine lw_new (n := 192) C (lw_dc_of lw_new2.1) (show 8 < 9 by omega) hh_192 lw_new2.2.1 lw_new2.2.2 X2 S2 (by omega) (by show 0 + 6 + 3955 + 24 ≤ 5573; omega) (fun H3 X3 S3 => ?_)
  refine lv_dup hx1 hb1 dl_11 rfl ?_
  refine lw_init (Q2 := fun rv h' => rv = none ∧ (sp_fx 192 200 (ab_hn h1 192) h' ∧ (∀ q ∈ ab_fr, ¬ q.1 < 192 → h'.2 q.1 q.2.1 = q.2.2) ∧ (∀ j, h'.1 192 j = 0) ∧ ∀ j, h'.1 193 j = if 3 ≤ j ∧ j < 7 then Int32.ofInt 100 else 0)) (d := 1) C lw_ini2 (by omega) (by decide) (sp_Model_init (fun j => by rw [hn_1, if_pos rfl]) (fun h' q1 q2 q3 q4 => ⟨rfl, q1, q2, q3, q4⟩)) X3 S3 hl.1 (by show 1 + 0 ≤ 8; omega) (by rw [m3]; omega) (by rw [m4]; show 0 + 6 + 3955 + 24 + 1588 ≤ 5573; omega) (fun rv h2 H4 locs4 n2 X4 S4 => ?_)
  obtain ⟨rfl, f1, f2, f3, f4⟩ := n2
  rw [m3] at X4
  rw [m3, m4]
  refine lv_astore_n (lv' := [(2, .ref (s.heap.size + 192)), (1, .ref (s.heap.size + 0)), (0, .ref b)]) hx1 hb1 dl_15 rfl hl (by decide) rfl (fun ls hl => ?_)
  refine lv_iconst (v := Int32.ofInt ((5 * 0 : Nat) : Int)) hx1 hb1 dl_16 rfl ?_
  refine lv_istore_n (lv' := lw_L s b (Int32.ofInt ((5 * 0 : Nat) : Int))) hx1 hb1 dl_17 rfl hl (by decide) rfl (fun ls hl => ?_)
  obtain ⟨w1, w2, w3⟩ := sp_born n1 f1 f2 f3 f4
  have I0 : lw_I (s_0, [], []) (61 * ((0 : Nat) : Int)) := by
    refine ⟨s_0_inv, ?_, Nat.zero_le _, ?_⟩
    · intro t ht
      exact absurd ht List.not_mem_nil
    · intro x hx
      exact absurd hx List.not_mem_nil
  exact lw_loop C hL (L + 5) 0 (s_0, [], []) h2 H4 locs4 ls (by omega) (by omega) ⟨w1, w2, w3, I0⟩ X4 S4 hl
