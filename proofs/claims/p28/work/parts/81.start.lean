/-! ===== the law: its end, and its start (printed by wip/p28/mk81.py) ===== -/
theorem tx_blind {D : va_G} {cA : ClassId} {base : Nat} : FrameBlind (tx_Pc D cA base) := by
  intro a U gg mk q
  obtain ⟨q1, q2, q3, q4⟩ := q
  exact ⟨q1, q2, va_K.moved (u := U) (U := U.calling gg mk a) (Vm.Alike.refl U.vm) q3, fun w hw => va_Nw.same (ab_nw_tab hw) (rfl : U.vm = (U.calling gg mk a).vm) (q4 w hw)⟩
section
variable {p : Program} {l : Launch} {e : Env} {s : State} {m : MethodId} {below : List Frame} {meth : Method} {c : Code} {b L : Nat} {xs : Nat → Int32} {D : va_G} {cA cL : ClassId} {B : Nat} {Z : State → Prop} {H : Heap} {locs : List Loc} {pc cells slots : Nat} {ls : Array Slot} {st : List Value} {w w' : Wd} {g : Nat → Int64}
set_option maxHeartbeats 1000000 in
set_option maxRecDepth 100000 in
theorem lw_texts {idx p1 p2 p3 : Nat} (C : lw_Cx p s m meth c b L xs D cA cL) (hck : gx_ckS idx yn_Law_texts 0 p1 p2 p3 = true) (hdec : decode code pc = .ok (.invokestatic idx, 3)) (S : va_S (fun q => s.heap.size ≤ q) s.heap H locs) (hl : ls.size = 12) (hce : cells + 2880 ≤ 600000) (hsl : slots + 59415 ≤ 7302250)
    (hg : ∀ H' locs', va_S (fun q => s.heap.size ≤ q) s.heap H' locs' → W p l e room_1 s m #[Value.ref b] below meth c H' locs' (cells + 2880) (slots + 59415) Z (F0 m (pc + 3) ls [.int 1])) : W p l e room_1 s m #[Value.ref b] below meth c H locs cells slots Z (F0 m pc ls []) := by
  obtain ⟨⟨hx1, hb1, hml, hown, hts, hnw, hK⟩, hret, hKL, hX, hbl, hlk, hts2, hcL⟩ := id C
  simp only [gx_ckS, Bool.and_eq_true, decide_eq_true_eq] at hck
  obtain ⟨k1, k2, k3, k4, k5, k6⟩ := hck
  obtain ⟨y1, y2, y3, y4, y5⟩ := ab_yok ⟨k1, k2⟩
  have hPc : ∀ U : State, U.heap = H → s.WarmedH U.vm → tx_Pc D cA H.size ([] : List Value).toArray U := by
    intro U hU hW
    exact ⟨rfl, by rw [hU], va_K.moved hW.alike hK, fun z hz => ab_nw_warm hW hz (hnw z hz)⟩
  have cb := callB_of (R := room_1) (rm := tx_rm) 0 hts (ab_good y1) rfl rfl rfl (hts _ (ab_w_in k5)) (hts _ (ab_w_in k3)) ⟨y3, y4, k6⟩ ⟨by decide, by rw [mc_t.2.2]; decide⟩
  have hr := va_runS (H := H) (locs := locs) (cells := cells) (slots := slots) (e := e) (below := below) (As := []) (rest := []) (g := F0 m pc ls []) (meth := meth) ⟨hx1, hb1, hml, hown, hts⟩ (sp_Law_texts l D cA H.size) ⟨cb, hts _ (ab_w_in k4)⟩ ⟨tx_blind, hPc⟩ rfl rfl hl rfl (lv_room (Nat.le_of_ble_eq_true rfl)) hdec ⟨hce, hsl⟩
  intro T hT X
  obtain ⟨v, s0, t, T', L', g0, X', hLf, g1, g2, ⟨hv, hz, ho⟩, gg⟩ := hr T hT X
  cases hv
  rw [g0] at hz ho
  have S' : va_S (fun q => s.heap.size ≤ q) s.heap T'.heap (locs ++ L') := by
    refine ⟨Nat.le_trans S.1 (by rw [g1]; exact hz), fun q e1 e2 => ?_, fun q hq => ?_⟩
    · rw [g1, ho q (Nat.lt_of_lt_of_le e1 S.1)]
      exact S.2.1 q e1 e2
    · rcases List.mem_append.mp hq with z | z
      · exact S.2.2 q z
      · exact Nat.le_trans S.1 (hLf q z)
  obtain ⟨t2, a1, b1⟩ := hg T'.heap (locs ++ L') S' T' rfl X'
  exact ⟨t2, gg t2 a1, b1⟩
/-- a new row of longs behind the world -/
theorem gx_newl {cc : ByteArray} {R : Room} {args : Array Value} {N q : Nat} {n : Int32} (hx1 : p.tables.exec = Jvm.exec) (hb1 : c.code = cc) (hw : (Jvm.Cond.arrayClass .long).before args s = true) (hcL : s.vm.findClass "[J" = some cL) (hdec : decode cc pc = .ok (.newarray .long, 2)) (hn : ¬ n < 0) (hN : n.toNatClampNeg = N) (hN2 : N ≤ 1000) (hce : cells + 1 ≤ R.cells) (hsl : slots + N ≤ R.slots) (hq : H.size = q)
    (hg : ∀ H1 : Heap, va_P D vwCl [(q, .inl (cL, N, .inr (.inl (fun _ => 0))))] H1 → H1.size = q + 1 → (∀ r, r < q → H1[r]? = H[r]?) → W p l e R s m args below meth c H1 locs (cells + 1) (slots + N) Z (F0 m (pc + 2) ls (.ref q :: st))) : W p l e R s m args below meth c H locs cells slots Z (F0 m pc ls (.int n :: st)) := by
  refine va_newaK hx1 hb1 (atype := .long) hw rfl hdec rfl hn hN (by show N * 8 ≤ 536870912; omega) hce hsl hq fun H1 cA' e1 z1 o1 hAr hNm => ?_
  have hcA : cA' = cL := Option.some.inj (hNm.symm.trans hcL)
  subst hcA
  refine hg H1 (fun j x hx => ?_) z1 o1
  have hj : j < 1 := (List.getElem?_eq_some_iff.mp hx).1
  rw [show j = 0 by omega] at hx
  cases hx
  show H1[_]? = some (vp_cell _ _)
  rw [e1, vp_cell_l]
  rfl
theorem lw_fin (C : lw_Cx p s m meth c b L xs D cA cL) (hV : lw_V s D cA cL B w g H locs) : W p l e room_1 s m #[Value.ref b] below meth c H locs 600000 7302250 (lw_Z below #[Value.ref b] s) (F0 m 555 ls [.int (Int32.ofInt 1)]) := by
  obtain ⟨⟨hx1, hb1, hml, hown, hts, hnw, hK⟩, hret, hKL, hX, hbl, hlk, hts2, hcL⟩ := C
  refine va_forget (fun q hq => hV.2.2.1.2.2 q hq) ?_
  refine W.base ?_
  exact lw_ret (Drawn.sameBut.refl s.drawn lw_cs) hx1 hb1 hret hlk dl_555
set_option maxHeartbeats 4000000 in
set_option maxRecDepth 100000 in
theorem lw_457 {a : Nat} {U : List St} {s1 : St} (C : lw_Cx p s m meth c b L xs D cA cL) (ha : a ≤ 30) (hU : U.length = a + 2) (hG : ∀ j, j ≤ a → ∃ t, (s1 :: U)[j]? = some t ∧ g (a - j) = sn t) :
    ∀ (n k : Nat) (w : Wd) (H : Heap) (locs : List Loc) (ls : Array Slot), k + n = 4 → k ≤ a → (s1 :: U)[k]? = some w.1 → w.2.1 = (U.take 4).drop k → lw_I w (61 * 32) → lw_V s D cA cL B w g H locs → lv_has ls 12 (lw_L b B a k) → W p l e room_1 s m #[Value.ref b] below meth c H locs 600000 7302250 (lw_Z below #[Value.ref b] s) (F0 m 457 ls []) := by
  obtain ⟨⟨hx1, hb1, hml, hown, hts, hnw, hK⟩, hret, hKL, hX, hbl, hlk, hts2, hcL⟩ := id C
  intro n
  induction n with
  | zero =>
    intro k w H locs ls hn hk h1 h2 I hV hl
    have hlen : w.2.1.length = min 4 (a + 2) - k := by rw [h2, List.length_drop, List.length_take, hU]
    have hG2 : g (a - k) = sn w.1 := by
      obtain ⟨t, t1, t2⟩ := hG k hk
      rw [h1] at t1
      rw [t2, Option.some.inj t1]
    have hz : w.2.1.length = 0 := by omega
    refine lv_aload_n hx1 hb1 dl_457 rfl (lv_at hl 3 rfl) ?_
    refine lv_bipush (v := Int32.ofInt 8) hx1 hb1 dl_458 (by decide) ?_
    refine lw_cv (d := 8) (as := [.int (Int32.ofInt 8)]) (v := .int (qa_count w 8)) (w' := w) C ck_13 dl_460 rfl (by decide) (fun h V => ab_C.up (fc_count V I.1 (by omega) (by omega) ⟨rfl, V⟩) (Nat.le_of_ble_eq_true rfl)) hV hl.1 (Nat.le_of_ble_eq_true rfl) (fun H locs hV => ?_)
    rw [qa_hi]
    simp only [ab_em]
    rw [hz]
    refine lv_if_le (tgt := 519) hx1 hb1 dl_463 (by decide) (fun _ => ?_) (fun q => absurd (by decide) q)
    refine lv_aload_n hx1 hb1 dl_519 rfl (lv_at hl 3 rfl) ?_
    refine lv_bipush (v := Int32.ofInt 8) hx1 hb1 dl_520 (by decide) ?_
    refine lw_cv (d := 8) (as := [.int (Int32.ofInt 8)]) (v := .int (qa_count w 8)) (w' := w) C ck_13 dl_522 rfl (by decide) (fun h V => ab_C.up (fc_count V I.1 (by omega) (by omega) ⟨rfl, V⟩) (Nat.le_of_ble_eq_true rfl)) hV hl.1 (Nat.le_of_ble_eq_true rfl) (fun H locs hV => ?_)
    rw [qa_hi]
    simp only [ab_em]
    rw [hz]
    refine lv_if_gt (tgt := 550) hx1 hb1 dl_525 (by decide) (fun q => absurd q (by decide)) (fun _ => ?_)
    refine lv_aload_n hx1 hb1 dl_528 rfl (lv_at hl 3 rfl) ?_
    have eu : wd_undo w = (e_np, w) := by unfold wd_undo; rw [List.length_eq_zero_iff.mp hz]
    refine lw_cv (d := 8) (as := []) (v := .int (wd_undo w).1) (w' := (wd_undo w).2) C ck_99 dl_529 rfl (by decide) (fun h V => ab_C.up (fc_undo V (fun h' V' _ => ⟨rfl, V'⟩)) (Nat.le_of_ble_eq_true rfl)) hV hl.1 (Nat.le_of_ble_eq_true rfl) (fun H locs hV => ?_)
    rw [eu] at hV ⊢
    simp only [ab_em] at hV ⊢
    refine lv_ldc hx1 hb1 hown (hts2 _ (lw_w_in ck_ldc)) dl_532 ?_
    refine lv_icmp_ne (tgt := 554) hx1 hb1 dl_534 (by decide) (fun q => absurd rfl q) (fun _ => ?_)
    refine lv_aload_n hx1 hb1 dl_537 rfl (lv_at hl 3 rfl) ?_
    refine lw_ct (d := 7) (as := [.ref 0]) (v := .long (sn w.1)) (w' := w) C ck_90 mc_l.2.1 dl_538 rfl (by decide) (fun h V => sp_Law_seen V I.1 ⟨rfl, V⟩) hV hl.1 (Nat.le_of_ble_eq_true rfl) (fun H locs hV => ?_)
    refine lv_aload_n hx1 hb1 dl_541 rfl (lv_at hl 2 rfl) ?_
    refine lv_iload_n hx1 hb1 dl_542 rfl (lv_at hl 1 rfl) ?_
    refine lv_iconst (v := Int32.ofInt 4) hx1 hb1 dl_543 rfl ?_
    refine lv_isub hx1 hb1 dl_544 ?_
    rw [ii_sub, show (a : Int) - 4 = ((a - k : Nat) : Int) by omega]
    refine lw_lald C dl_545 (by omega) hV ?_
    rw [hG2]
    refine W.lcmp hx1 hb1 dl_546 ?_
    rw [lg_self]
    refine lv_if_ne (tgt := 554) hx1 hb1 dl_547 (by decide) (fun q => absurd rfl q) (fun _ => ?_)
    refine lv_iconst (v := Int32.ofInt 1) hx1 hb1 dl_550 rfl ?_
    refine lv_goto (tgt := 555) hx1 hb1 dl_551 (by decide) ?_
    exact lw_fin C hV
  | succ n ih =>
    intro k w H locs ls hn hk h1 h2 I hV hl
    have hlen : w.2.1.length = min 4 (a + 2) - k := by rw [h2, List.length_drop, List.length_take, hU]
    have hz : 0 < w.2.1.length := by omega
    have hz4 : w.2.1.length ≤ 4 := by omega
    have hG2 : g (a - k) = sn w.1 := by
      obtain ⟨t, t1, t2⟩ := hG k hk
      rw [h1] at t1
      rw [t2, Option.some.inj t1]
    refine lv_aload_n hx1 hb1 dl_457 rfl (lv_at hl 3 rfl) ?_
    refine lv_bipush (v := Int32.ofInt 8) hx1 hb1 dl_458 (by decide) ?_
    refine lw_cv (d := 8) (as := [.int (Int32.ofInt 8)]) (v := .int (qa_count w 8)) (w' := w) C ck_13 dl_460 rfl (by decide) (fun h V => ab_C.up (fc_count V I.1 (by omega) (by omega) ⟨rfl, V⟩) (Nat.le_of_ble_eq_true rfl)) hV hl.1 (Nat.le_of_ble_eq_true rfl) (fun H locs hV => ?_)
    rw [qa_hi]
    simp only [ab_em]
    refine lv_if_le (tgt := 519) hx1 hb1 dl_463 (by decide) (fun q => ?_) (fun _ => ?_)
    · exfalso; rw [ii_0, ii_le (by omega) (by omega) (by omega) (by omega)] at q; omega
    refine lv_iload hx1 hb1 dl_466 (lv_at hl 0 rfl) ?_
    refine lv_iload_n hx1 hb1 dl_468 rfl (lv_at hl 1 rfl) ?_
    refine lv_icmp_ge (tgt := 519) hx1 hb1 dl_469 (by decide) (fun _ => ?_) (fun q => ?_)
    · refine lv_aload_n hx1 hb1 dl_519 rfl (lv_at hl 3 rfl) ?_
      refine lv_bipush (v := Int32.ofInt 8) hx1 hb1 dl_520 (by decide) ?_
      refine lw_cv (d := 8) (as := [.int (Int32.ofInt 8)]) (v := .int (qa_count w 8)) (w' := w) C ck_13 dl_522 rfl (by decide) (fun h V => ab_C.up (fc_count V I.1 (by omega) (by omega) ⟨rfl, V⟩) (Nat.le_of_ble_eq_true rfl)) hV hl.1 (Nat.le_of_ble_eq_true rfl) (fun H locs hV => ?_)
      rw [qa_hi]
      simp only [ab_em]
      refine lv_if_gt (tgt := 550) hx1 hb1 dl_525 (by decide) (fun _ => ?_) (fun q => ?_)
      · refine lv_iconst (v := Int32.ofInt 1) hx1 hb1 dl_550 rfl ?_
        refine lv_goto (tgt := 555) hx1 hb1 dl_551 (by decide) ?_
        exact lw_fin C hV
      · exfalso; apply q; rw [ii_0, ii_lt (by omega) (by omega) (by omega) (by omega)]; omega
    · have hka : k < a := by rw [ii_le (by omega) (by omega) (by omega) (by omega)] at q; omega
      refine lv_aload_n hx1 hb1 dl_472 rfl (lv_at hl 3 rfl) ?_
      refine lv_bipush (v := Int32.ofInt 8) hx1 hb1 dl_473 (by decide) ?_
      refine lw_cv (d := 8) (as := [.int (Int32.ofInt 8)]) (v := .int (qa_count w 8)) (w' := w) C ck_13 dl_475 rfl (by decide) (fun h V => ab_C.up (fc_count V I.1 (by omega) (by omega) ⟨rfl, V⟩) (Nat.le_of_ble_eq_true rfl)) hV hl.1 (Nat.le_of_ble_eq_true rfl) (fun H locs hV => ?_)
      rw [qa_hi]
      simp only [ab_em]
      refine lv_istore (lv' := [(5, .int (Int32.ofInt (w.2.1.length : Int))), (4, .int (Int32.ofInt (k : Int))), (3, .int (Int32.ofInt (a : Int))), (2, .ref (B + 192)), (1, .ref (B + 0)), (0, .ref b)]) hx1 hb1 dl_478 hl (by decide) rfl (fun ls hl => ?_)
      refine lv_iload hx1 hb1 dl_480 (lv_at hl 1 rfl) ?_
      refine lv_iconst (v := Int32.ofInt 3) hx1 hb1 dl_482 rfl ?_
      refine lv_icmp_gt (tgt := 511) hx1 hb1 dl_483 (by decide) (fun q => ?_) (fun _ => ?_)
      · exfalso; rw [ii_lt (by omega) (by omega) (by omega) (by omega)] at q; omega
      refine lv_aload_n hx1 hb1 dl_486 rfl (lv_at hl 4 rfl) ?_
      refine lw_ct (d := 7) (as := [.ref 0]) (v := .long (sn w.1)) (w' := w) C ck_90 mc_l.2.1 dl_487 rfl (by decide) (fun h V => sp_Law_seen V I.1 ⟨rfl, V⟩) hV hl.1 (Nat.le_of_ble_eq_true rfl) (fun H locs hV => ?_)
      refine lv_aload_n hx1 hb1 dl_490 rfl (lv_at hl 3 rfl) ?_
      refine lv_iload_n hx1 hb1 dl_491 rfl (lv_at hl 2 rfl) ?_
      refine lv_iload hx1 hb1 dl_492 (lv_at hl 1 rfl) ?_
      refine lv_isub hx1 hb1 dl_494 ?_
      rw [ii_sub, show (a : Int) - (k : Int) = ((a - k : Nat) : Int) by omega]
      refine lw_lald C dl_495 (by omega) hV ?_
      rw [hG2]
      refine W.lcmp hx1 hb1 dl_496 ?_
      rw [lg_self]
      refine lv_if_ne (tgt := 511) hx1 hb1 dl_497 (by decide) (fun q => absurd rfl q) (fun _ => ?_)
      refine lv_aload_n hx1 hb1 dl_500 rfl (lv_at hl 4 rfl) ?_
      cases hH : w.2.1 with
      | nil => rw [hH] at hz; exact absurd hz (by decide)
      | cons s2 H2 =>
        have eu : wd_undo w = (Int32.ofInt H2.length, (s2, H2, w.2.2)) := by unfold wd_undo; rw [hH]
        refine lw_cv (d := 8) (as := []) (v := .int (wd_undo w).1) (w' := (wd_undo w).2) C ck_99 dl_501 rfl (by decide) (fun h V => ab_C.up (fc_undo V (fun h' V' _ => ⟨rfl, V'⟩)) (Nat.le_of_ble_eq_true rfl)) hV hl.1 (Nat.le_of_ble_eq_true rfl) (fun H locs hV => ?_)
        rw [eu] at hV ⊢
        simp only [ab_em] at hV ⊢
        refine lv_iload hx1 hb1 dl_504 (lv_at hl 0 rfl) ?_
        refine lv_iconst (v := Int32.ofInt 1) hx1 hb1 dl_506 rfl ?_
        refine lv_isub hx1 hb1 dl_507 ?_
        have e5 : Int32.ofInt (w.2.1.length : Int) - Int32.ofInt 1 = Int32.ofInt (H2.length : Int) := by rw [ii_sub, hH, List.length_cons]; congr 1; omega
        rw [e5]
        refine lv_icmp_eq (tgt := 513) hx1 hb1 dl_508 (by decide) (fun _ => ?_) (fun q => absurd rfl q)
        refine lv_iinc (v := Int32.ofInt ((k + 1 : Nat) : Int)) (lv' := [(4, .int (Int32.ofInt ((k + 1 : Nat) : Int))), (5, .int (Int32.ofInt (w.2.1.length : Int))), (3, .int (Int32.ofInt (a : Int))), (2, .ref (B + 192)), (1, .ref (B + 0)), (0, .ref b)]) hx1 hb1 dl_513 hl (k := 1) rfl (by rw [ii_add]; rfl) (by decide) rfl (fun ls hl => ?_)
        refine lv_goto (tgt := 457) hx1 hb1 dl_516 (by decide) ?_
        rw [hH] at h2
        have hd : U[k]? = some s2 := by
          have h3 : ((U.take 4).drop k)[0]? = some s2 := by rw [← h2]; rfl
          rw [List.getElem?_drop, List.getElem?_take] at h3
          rw [if_pos (by omega)] at h3
          exact h3
        refine ih (k + 1) (s2, H2, w.2.2) H locs ls (by omega) (by omega) hd ?_ ?_ hV (lv_sub hl [0, 2, 3, 4, 5] rfl)
        · have h3 : ((U.take 4).drop k).drop 1 = H2 := by rw [← h2]; rfl
          rw [List.drop_drop] at h3
          exact h3.symm
        · refine ⟨I.2.1 s2 (by rw [hH]; exact List.mem_cons_self), fun t ht => I.2.1 t (by rw [hH]; exact List.mem_cons_of_mem _ ht), I.2.2⟩
set_option maxHeartbeats 4000000 in
set_option maxRecDepth 100000 in
theorem lw_429 {a : Nat} {U : List St} (C : lw_Cx p s m meth c b L xs D cA cL) (ha : a ≤ 30) (J : lw_J w U a g (61 * 32)) (hV : lw_V s D cA cL B w g H locs) (hl : lv_has ls 12 (lw_L b B a 30)) : W p l e room_1 s m #[Value.ref b] below meth c H locs 600000 7302250 (lw_Z below #[Value.ref b] s) (F0 m 429 ls []) := by
  obtain ⟨⟨hx1, hb1, hml, hown, hts, hnw, hK⟩, hret, hKL, hX, hbl, hlk, hts2, hcL⟩ := id C
  obtain ⟨j1, j2, j3, j4, I⟩ := J
  have hG : ∀ j, j ≤ a → ∃ t, (w.1 :: U)[j]? = some t ∧ vp_updL g a (sn w.1) (a - j) = sn t := by
    intro j hj
    cases j with
    | zero => exact ⟨w.1, rfl, by simp [vp_updL]⟩
    | succ j =>
      obtain ⟨t, t1, t2⟩ := j4 (a - (j + 1)) (by omega)
      rw [show a - 1 - (a - (j + 1)) = j by omega] at t1
      refine ⟨t, t1, ?_⟩
      rw [← t2]
      unfold vp_updL
      rw [if_neg (by omega)]
  refine lv_aload_n hx1 hb1 dl_429 rfl (lv_at hl 2 rfl) ?_
  refine lv_iload_n hx1 hb1 dl_430 rfl (lv_at hl 1 rfl) ?_
  refine lv_aload_n hx1 hb1 dl_431 rfl (lv_at hl 3 rfl) ?_
  refine lw_ct (d := 7) (as := [.ref 0]) (v := .long (sn w.1)) (w' := w) C ck_90 mc_l.2.1 dl_432 rfl (by decide) (fun h V => sp_Law_seen V I.1 ⟨rfl, V⟩) hV hl.1 (Nat.le_of_ble_eq_true rfl) (fun H locs hV => ?_)
  refine lw_last C dl_435 (by omega) hV (fun H locs hV => ?_)
  have e454 : ∀ (H : Heap) (locs : List Loc), lw_V s D cA cL B w (vp_updL g a (sn w.1)) H locs → W p l e room_1 s m #[Value.ref b] below meth c H locs 600000 7302250 (lw_Z below #[Value.ref b] s) (F0 m 454 ls []) := by
    intro H locs hV
    refine lv_iconst (v := Int32.ofInt ((0 : Nat) : Int)) hx1 hb1 dl_454 rfl ?_
    refine lv_istore (lv' := [(4, .int (Int32.ofInt ((0 : Nat) : Int))), (3, .int (Int32.ofInt (a : Int))), (2, .ref (B + 192)), (1, .ref (B + 0)), (0, .ref b)]) hx1 hb1 dl_455 hl (by decide) rfl (fun ls hl => ?_)
    exact lw_457 C ha j1 hG 4 0 w H locs ls rfl (Nat.zero_le _) rfl j2 I hV hl
  refine lv_aload_n hx1 hb1 dl_436 rfl (lv_at hl 3 rfl) ?_
  refine lv_iconst (v := Int32.ofInt 0) hx1 hb1 dl_437 rfl ?_
  refine lv_iconst (v := Int32.ofInt 1) hx1 hb1 dl_438 rfl ?_
  refine lw_cv (d := 8) (as := [.int (Int32.ofInt 0), .int (Int32.ofInt 1)]) (v := .int (qa_leaf w.1 (Int32.ofInt 0) 1)) (w' := w) C ck_64 dl_439 rfl (by decide) (fun h V => ab_C.up (fc_leafOf V I.1 (by omega) (by omega) ⟨rfl, V⟩) (Nat.le_of_ble_eq_true rfl)) hV hl.1 (Nat.le_of_ble_eq_true rfl) (fun H locs hV => ?_)
  refine lv_if_lt (tgt := 454) hx1 hb1 dl_442 (by decide) (fun _ => e454 H locs hV) (fun q => ?_)
  have hs : (st_fi w.1.2.1 (Int32.ofInt 0)).isSome = true := by
    cases hf : st_fi w.1.2.1 (Int32.ofInt 0) with
    | some _ => rfl
    | none =>
      exfalso
      apply q
      unfold qa_leaf
      rw [hf]
      exact ei_lt
  refine lv_aload_n hx1 hb1 dl_445 rfl (lv_at hl 3 rfl) ?_
  refine lw_ct (d := 9) (as := [.ref 0]) (v := .int 1) (w' := w) C ck_107 mc_l.2.2 dl_446 rfl (by decide) (fun h V => sp_Law_refused V I (by omega) (by omega) hs (fun h' V' => ⟨rfl, V'⟩)) hV hl.1 (Nat.le_of_ble_eq_true rfl) (fun H locs hV => ?_)
  refine lv_if_ne (tgt := 454) hx1 hb1 dl_449 (by decide) (fun _ => e454 H locs hV) (fun q => absurd q (by decide))
end
theorem st_I0 : lw_I (s_0, [], []) 0 := ⟨s_0_inv, fun t ht => absurd ht List.not_mem_nil, Nat.zero_le _, fun x hx => absurd hx List.not_mem_nil⟩
def st_r1 : Int32 × St := op_name s_0 5 0
def st_w1 : Wd := wd_do (s_0, [], []) st_r1
def st_r2 : Int32 × St := op_leaf st_w1.1 0
def st_w2 : Wd := wd_do st_w1 st_r2
theorem st_z : st_r1.1 = 0 ∧ st_r2.1 = 0 := by decide +kernel
theorem st_J {g : Nat → Int64} : lw_J st_w2 [st_w1.1, s_0] 0 g (61 * (((0 : Nat) : Int) + 2)) := by
  have I1 : lw_I st_w1 (0 + 61) := st_I0.op (op_name_r st_I0.1 (Int.le_refl _)) (by omega)
  have I2 : lw_I st_w2 (0 + 61 + 61) := I1.op (op_leaf_r I1.1 (by omega) (by omega)) (by omega)
  have e1 : st_w1.2.1 = hi_keep s_0 [] := by
    show (if st_r1.1 < Int32.ofInt 0 then ([] : List St) else hi_keep s_0 []) = _
    rw [st_z.1, if_neg (by decide)]
  have e2 : st_w2.2.1 = hi_keep st_w1.1 st_w1.2.1 := by
    show (if st_r2.1 < Int32.ofInt 0 then st_w1.2.1 else hi_keep st_w1.1 st_w1.2.1) = _
    rw [st_z.2, if_neg (by decide)]
  refine ⟨rfl, ?_, rfl, fun i hi => absurd hi (Nat.not_lt_zero i), I2.up (by omega)⟩
  rw [e2, e1]
  rfl
set_option maxHeartbeats 4000000 in
set_option maxRecDepth 100000 in
/-- from the entry, for every script: the law comes to its end with true -/
theorem whole_start {p : Program} {e : Env} {s : State} {m : MethodId} {below : List Frame} {meth : Method} {c : Code} (l : Launch) (hflags : l.flags = flags0) {b L : Nat} {xs : Nat → Int32} (hL : L ≤ 260) (C0 : lw_At p s m meth c b L xs) : W p l e room_1 s m #[Value.ref b] below meth c s.heap [] 0 0 (lw_Z below #[Value.ref b] s) (entryFrame m ([Value.ref b] : List Value).toArray 12) := by
  obtain ⟨D, cA, cL, C⟩ := lw_Cx_of C0
  obtain ⟨⟨hx1, hb1, hml, hown, hts, hnw, hK⟩, hret, hKL, hX, hbl, hlk, hts2, hcL⟩ := id C
  have hl := lv_entry ([.ref b]) (n := 12) (Nat.le_of_ble_eq_true rfl)
  rw [lg_entry_eq]
  generalize (lg_sl ([.ref b]) ++ List.replicate (12 - (lg_sl ([.ref b])).length) Slot.unset).toArray = ls at hl ⊢
  have hl : lv_has ls 12 [(0, .ref b)] := hl
  obtain ⟨h0, -⟩ : ∃ h0 : ab_H, True := ⟨(fun _ _ => 0, fun _ _ => 0), trivial⟩
  have S : va_S (fun q => s.heap.size ≤ q) s.heap s.heap [] := va_S.rf
  have n10 : ¬ (1 : Int32) = 0 := by decide
  obtain ⟨mi1, mi2, mi3⟩ := mc_i
  refine gx_S (as := []) (st := []) (xx := 0) (n := 0) (h := h0) (d := 10) (Q2 := fun r _ => r = some (.int 1)) C.1 ck_170 dl_0 (sp_Law_books (fun _ => rfl)) rfl (fun _ => rfl) gx_none (Nat.le_refl _) S hl.1 (by decide) ⟨by show 10 + 1 ≤ 13; omega, by show 40 * 10 + 39 ≤ 530; omega⟩ (by rw [mc_b.1]; show 0 + 192 ≤ 600000; omega) (by rw [mc_b.2.1]; show 0 + 3961 ≤ 7302250; omega) (fun r h' H locs q1 w1 S _ => ?_)
  obtain rfl := q1
  rw [mc_b.1, mc_b.2.1]
  clear w1
  refine lv_if_eq (tgt := 12) hx1 hb1 dl_3 (by decide) (fun q => absurd q n10) (fun _ => ?_)
  refine lw_texts C ck_174 dl_6 S hl.1 (by omega) (by omega) (fun H locs S => ?_)
  refine lv_if_ne (tgt := 14) hx1 hb1 dl_9 (by decide) (fun _ => ?_) (fun q => absurd q n10)
  obtain ⟨B, hB⟩ : ∃ B, B = H.size := ⟨_, rfl⟩
  have w0 : ab_Wd D cA B 0 0 h0 H := by rw [hB]; exact gx_none
  have sB : s.heap.size ≤ B := by rw [hB]; exact S.1
  refine gx_new C.1 dl_14 ck_new w0 sB S (by show (_ : Nat) ≤ 600000; omega) (by show (_ : Nat) ≤ 7302250; omega) (fun H w1 S => ?_)
  refine lv_dup hx1 hb1 dl_17 rfl ?_
  refine gx_I (Q2 := fun r h' => r = none ∧ sp_CW h' (s_0, [], [])) (d := 4) C.1 ck_98 ⟨by decide, by decide⟩ dl_18 (sp_Fair_init (fun h' q => ⟨rfl, sp_born q⟩)) (fun _ => rfl) w1 sB S hl.1 (Nat.le_of_ble_eq_true rfl) ⟨by decide, by decide⟩ (by rw [mi1]; show (_ : Nat) ≤ 600000; omega) (by rw [mi2]; show (_ : Nat) ≤ 7302250; omega) (fun r h1 H locs q1 w1 S _ => ?_)
  obtain ⟨rfl, V⟩ := q1
  rw [mi1] at w1 ⊢
  rw [mi2]
  have w1 : ab_Wd D cA B 192 0 h1 H := w1
  refine lv_astore_n (lv' := [(1, .ref (B + 0)), (0, .ref b)]) hx1 hb1 dl_21 rfl hl (by decide) rfl (fun ls hl => ?_)
  refine lv_bipush (v := Int32.ofInt 64) hx1 hb1 dl_22 (by decide) ?_
  refine gx_newl (D := D) (N := 64) (q := B + 192) hx1 hb1 (hts2 _ (lw_w_in lw_arr.2)) hcL dl_24 (by decide) (by decide) (by omega) (by show (_ : Nat) ≤ 600000; omega) (by show (_ : Nat) ≤ 7302250; omega) w1.1.2 (fun H1 P1 z1 o1 => ?_)
  refine W.widen (k := 600000) (n := 7302250) (by omega) (by omega) ?_
  have hV : lw_V s D cA cL B (s_0, [], []) (fun _ => 0) H1 locs := by
    refine ⟨⟨h1, V, ⟨w1.1.1, z1⟩, fun k hk => (w1.2 k hk).kept (o1 _ (by show B + k < B + 192; omega))⟩, P1, ⟨?_, fun q e1 e2 => ?_, S.2.2⟩, sB⟩
    · have := S.1
      have := w1.1.2
      omega
    · rw [o1 q (by omega)]
      exact S.2.1 q e1 e2
  generalize (fun _ => 0 : Nat → Int64) = g0 at hV
  clear o1 z1 P1
  refine lv_astore_n (lv' := [(2, .ref (B + 192)), (1, .ref (B + 0)), (0, .ref b)]) hx1 hb1 dl_26 rfl hl (by decide) rfl (fun ls hl => ?_)
  refine lv_iconst (v := Int32.ofInt ((0 : Nat) : Int)) hx1 hb1 dl_27 rfl ?_
  refine lv_istore_n (lv' := [(3, .int (Int32.ofInt ((0 : Nat) : Int))), (2, .ref (B + 192)), (1, .ref (B + 0)), (0, .ref b)]) hx1 hb1 dl_28 rfl hl (by decide) rfl (fun ls hl => ?_)
  refine lv_aload_n hx1 hb1 dl_29 rfl (lv_at hl 2 rfl) ?_
  refine lv_iconst (v := Int32.ofInt 5) hx1 hb1 dl_30 rfl ?_
  refine lv_iconst (v := Int32.ofInt 0) hx1 hb1 dl_31 rfl ?_
  refine lw_cv (d := 8) (as := [.int (Int32.ofInt 5), .int (Int32.ofInt 0)]) (v := .int st_r1.1) (w' := st_w1) C ck_33 dl_32 rfl (by decide) (fun h V => ab_C.up (fc_name V st_I0.1 (Int.le_refl _) (by omega) (by omega) (by omega) (by omega) (by omega) (fun h' V' _ => ⟨rfl, V'⟩)) (Nat.le_of_ble_eq_true rfl)) hV hl.1 (Nat.le_of_ble_eq_true rfl) (fun H locs hV => ?_)
  refine lv_if_ne (tgt := 46) hx1 hb1 dl_35 (by decide) (fun q => absurd st_z.1 q) (fun _ => ?_)
  have I1 : lw_I st_w1 (0 + 61) := st_I0.op (op_name_r st_I0.1 (Int.le_refl _)) (by omega)
  refine lv_aload_n hx1 hb1 dl_38 rfl (lv_at hl 2 rfl) ?_
  refine lv_iconst (v := Int32.ofInt 0) hx1 hb1 dl_39 rfl ?_
  refine lw_cv (d := 8) (as := [.int (Int32.ofInt 0)]) (v := .int st_r2.1) (w' := st_w2) C ck_39 dl_40 rfl (by decide) (fun h V => ab_C.up (fc_leaf V I1.1 (by omega) (by omega) (by omega) (by omega) (fun h' V' _ => ⟨rfl, V'⟩)) (Nat.le_of_ble_eq_true rfl)) hV hl.1 (Nat.le_of_ble_eq_true rfl) (fun H locs hV => ?_)
  refine lv_if_eq (tgt := 48) hx1 hb1 dl_43 (by decide) (fun _ => ?_) (fun q => absurd st_z.2 q)
  refine lv_iconst (v := Int32.ofInt ((0 : Nat) : Int)) hx1 hb1 dl_48 rfl ?_
  refine lv_istore (lv' := lw_L b B 0 0) hx1 hb1 dl_49 hl (by decide) rfl (fun ls hl => ?_)
  exact lw_loop C hL (fun a U w g H locs ls ha J hV hl => lw_429 C ha J hV hl) 30 0 0 [st_w1.1, s_0] st_w2 g0 H locs ls rfl (Nat.le_refl _) st_J hV hl
