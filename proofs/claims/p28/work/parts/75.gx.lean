/-! ===== walks in the law's own methods: calls of methods over a world at any base ===== -/
def gx_C (cc : ByteArray) (nL : Nat) (p : Program) (s : State) (m : MethodId) (args : Array Value) (c : Code) (D : va_G) (cA : ClassId) : Prop :=
  p.tables.exec = Jvm.exec ∧ c.code = cc ∧ c.maxLocals = nL ∧ s.vm.findClass "FairBooksLaw" = some m.cls ∧ (∀ w ∈ ab_Tg, w.before args s = true) ∧ (∀ w ∈ ab_nw, va_Nw w s) ∧ va_K D vwCl [(cA, .int)] s
def gx_ckS (idx y na p1 p2 p3 : Nat) : Bool := decide (2 ≤ y) && (decide (y < 131) && (ab_w p1 (.methodLink "FairBooksLaw" idx (ab_yn y)) && (ab_w p2 (.static (ab_yn y)) && (ab_w p3 (.initialized (ab_yn y).cls) && decide ((parseMethodDescriptor (ab_yn y).desc).map (fun d => d.parameters.length) = some na)))))
def gx_ckV (idx y na p1 p2 p3 p4 : Nat) : Bool := decide (2 ≤ y) && (decide (y < 131) && (ab_w p1 (.methodLink "FairBooksLaw" idx (ab_yn y)) && (ab_w p2 (.instanceMethod (ab_yn y)) && (ab_w p3 (.selects (ab_yn y).cls (ab_yn y) (ab_yn y)) && (ab_w p4 (.initialized (ab_yn y).cls) && (decide (ab_cn 7 = (ab_yn y).cls) && (decide ((parseMethodDescriptor (ab_yn y).desc).map (fun d => d.parameters.length) = some na) && (decide (ab_mc y = 0) && decide (ab_ms y = 0)))))))))
section
variable {cc : ByteArray} {nL : Nat} {p : Program} {l : Launch} {e : Env} {R : Room} {s : State} {m : MethodId} {args : Array Value} {below : List Frame} {meth : Method} {c : Code} {D : va_G} {cA : ClassId} {B xx n : Nat} {Z : State → Prop} {H : Heap} {locs : List Loc} {cells slots pc : Nat} {ls : Array Slot} {st : List Value} {h : ab_H}
theorem gx_pc {as : List Value} (C : gx_C cc nL p s m args c D cA) (w : ab_Wd D cA B n xx h H) : ∀ U : State, U.heap = H → s.WarmedH U.vm → ab_Pc D cA B n xx as h (as.map (ab_em B)).toArray U := by
  intro U hU hW
  obtain ⟨hx1, hb1, hml, hown, hts, hnw, hK⟩ := C
  exact ⟨rfl, by rw [hU, w.1.2]; omega, by rw [hU]; exact w, va_K.moved hW.alike hK, fun z hz => ab_nw_warm hW hz (hnw z hz)⟩
theorem gx_back {mc ms : Nat} {Q' : Option Value → ab_H → Prop} {st0 : List Value} {a : Array Value} (w : ab_Wd D cA B n xx h H) (hB : s.heap.size ≤ B) (S : va_S (fun q => s.heap.size ≤ q) s.heap H locs)
    (hr : va_Run p l e R s m args below meth c H locs cells slots mc ms (F0 m pc ls st0) st (ab_Qc D cA B (n + mc) xx Q' a) (ab_A B))
    (hk : ∀ r h' H' locs', Q' r h' → ab_Wd D cA B (n + mc) xx h' H' → va_S (fun q => s.heap.size ≤ q) s.heap H' locs' → (∀ q, q < H.size → (q < B ∨ B + 192 ≤ q) → H'[q]? = H[q]?) → W p l e R s m args below meth c H' locs' (cells + mc) (slots + ms) Z (F0 m (pc + 3) ls ((r.map (ab_em B)).toList ++ st))) : W p l e R s m args below meth c H locs cells slots Z (F0 m pc ls st0) := by
  intro T hT X
  obtain ⟨v, s0, t, T', L', g0, X', hL, g1, g2, ⟨r, h', hv, hq, hw, ho⟩, g⟩ := hr T hT X
  have hv' : v = r.map (ab_em B) := by cases hv; rfl
  subst hv'
  have hz : T'.heap.size = B + (n + mc) + xx := by rw [g1]; exact hw.1.2
  have hz0 : H.size = B + n + xx := w.1.2
  have hk2 : ∀ q, q < H.size → (q < B ∨ B + 192 ≤ q) → T'.heap[q]? = H[q]? := fun q h1 h2 => by rw [g1, ho q (by rw [g0]; exact h1) h2, g0]
  have S' : va_S (fun q => s.heap.size ≤ q) s.heap T'.heap (locs ++ L') := by
    refine ⟨Nat.le_trans S.1 (by omega), fun q e1 e2 => ?_, fun q hq => ?_⟩
    · rw [hk2 q (Nat.lt_of_lt_of_le e1 S.1) (Or.inl (by omega))]
      exact S.2.1 q e1 e2
    · rcases List.mem_append.mp hq with z | z
      · exact S.2.2 q z
      · exact Nat.le_trans hB (hL q z).1
  obtain ⟨t2, a1, b1⟩ := hk r h' T'.heap (locs ++ L') hq (by rw [g1]; exact hw) S' hk2 T' rfl X'
  exact ⟨t2, g t2 a1, b1⟩
set_option maxHeartbeats 1000000 in
theorem gx_S {idx y na p1 p2 p3 d : Nat} {as : List Value} {Q2 : Option Value → ab_H → Prop} (C : gx_C cc nL p s m args c D cA) (hck : gx_ckS idx y na p1 p2 p3 = true) (hdec : decode cc pc = .ok (.invokestatic idx, 3)) (hcall : ab_C d y n as h Q2) (hal : as.length = na) (hx : ab_mc y ≠ 0 → xx = 0) (w : ab_Wd D cA B n xx h H) (hB : s.heap.size ≤ B) (S : va_S (fun q => s.heap.size ≤ q) s.heap H locs) (hl : ls.size = nL) (hst : (st.map fun v => v.category).sum ≤ 8) (hR : d + 1 ≤ R.frames ∧ 40 * d + 39 ≤ R.locals) (hce : cells + ab_mc y ≤ R.cells) (hsl : slots + ab_ms y ≤ R.slots)
    (hg : ∀ r h' H' locs', Q2 r h' → ab_Wd D cA B (n + ab_mc y) xx h' H' → va_S (fun q => s.heap.size ≤ q) s.heap H' locs' → (∀ q, q < H.size → (q < B ∨ B + 192 ≤ q) → H'[q]? = H[q]?) → W p l e R s m args below meth c H' locs' (cells + ab_mc y) (slots + ab_ms y) Z (F0 m (pc + 3) ls ((r.map (ab_em B)).toList ++ st))) : W p l e R s m args below meth c H locs cells slots Z (F0 m pc ls ((as.map (ab_em B)).reverse ++ st)) := by
  obtain ⟨hx1, hb1, hml, hown, hts, hnw, hK⟩ := id C
  simp only [gx_ckS, Bool.and_eq_true, decide_eq_true_eq] at hck
  obtain ⟨k1, k2, k3, k4, k5, k6⟩ := hck
  obtain ⟨y1, y2, y3, y4, y5⟩ := ab_yok ⟨k1, k2⟩
  have hM := hcall d (Nat.le_refl _) l D cA B xx hx
  have hpc := gx_pc (as := as) C w
  have cb := callB_of (R := R) (rm := { frames := d, cells := ab_mc y, slots := ab_ms y, locals := 40 * d }) na hts (ab_good y1) rfl rfl rfl (hts _ (ab_w_in k5)) (hts _ (ab_w_in k3)) ⟨y3, y4, k6⟩ ⟨by show d + 1 ≤ R.frames; omega, by show 8 + (ab_ml y + 11) + 40 * d ≤ R.locals; omega⟩
  exact gx_back w hB S (va_runS (As := as.map (ab_em B)) (rest := st) ⟨hx1, hb1, hml, hown, hts⟩ hM ⟨cb, hts _ (ab_w_in k4)⟩ ⟨ab_blind, hpc⟩ rfl (by rw [List.length_map]; exact hal) hl rfl (lv_room hst) hdec ⟨hce, hsl⟩) hg
set_option maxHeartbeats 1000000 in
theorem gx_V {idx y na p1 p2 p3 p4 d k : Nat} {as : List Value} {Q2 : Option Value → ab_H → Prop} (C : gx_C cc nL p s m args c D cA) (hck : gx_ckV idx y na p1 p2 p3 p4 = true) (hdec : decode cc pc = .ok (.invokevirtual idx, 3)) (hk : k < n) (hs : ab_sh k = 7) (hcall : ab_C d y n (.ref k :: as) h Q2) (hal : as.length = na) (w : ab_Wd D cA B n xx h H) (hB : s.heap.size ≤ B) (S : va_S (fun q => s.heap.size ≤ q) s.heap H locs) (hl : ls.size = nL) (hst : (st.map fun v => v.category).sum ≤ 8) (hR : d + 1 ≤ R.frames ∧ 40 * d + 39 ≤ R.locals) (hce : cells ≤ R.cells) (hsl : slots ≤ R.slots)
    (hg : ∀ r h' H' locs', Q2 r h' → ab_Wd D cA B n xx h' H' → va_S (fun q => s.heap.size ≤ q) s.heap H' locs' → (∀ q, q < H.size → (q < B ∨ B + 192 ≤ q) → H'[q]? = H[q]?) → W p l e R s m args below meth c H' locs' cells slots Z (F0 m (pc + 3) ls ((r.map (ab_em B)).toList ++ st))) : W p l e R s m args below meth c H locs cells slots Z (F0 m pc ls ((as.map (ab_em B)).reverse ++ .ref (B + k) :: st)) := by
  obtain ⟨hx1, hb1, hml, hown, hts, hnw, hK⟩ := id C
  simp only [gx_ckV, Bool.and_eq_true, decide_eq_true_eq] at hck
  obtain ⟨k1, k2, k3, k4, k5, k6, k7, k8, k9, k10⟩ := hck
  obtain ⟨y1, y2, y3, y4, y5⟩ := ab_yok ⟨k1, k2⟩
  have hM := hcall d (Nat.le_refl _) l D cA B xx (fun q => absurd k9 q)
  have hpc := gx_pc (as := .ref k :: as) C w
  have cb := callB_of (R := R) (rm := { frames := d, cells := ab_mc y, slots := ab_ms y, locals := 40 * d }) na hts (ab_good y1) rfl rfl rfl (hts _ (ab_w_in k6)) (hts _ (ab_w_in k3)) ⟨y3, y4, k8⟩ ⟨by show d + 1 ≤ R.frames; omega, by show 8 + (ab_ml y + 11) + 40 * d ≤ R.locals; omega⟩
  have hP := w.one hk
  rw [ab_ce_o (show 7 < 8 by omega) hs] at hP
  have hrc := va_recv hK hP (q0 := 0) (ab_cl (show 7 < 8 by omega)) rfl
  have hrc2 : ∃ cell : Cell, H[B + k]? = some cell ∧ cell.vm.isStatics = false ∧ s.vm.findClass (ab_yn y).cls = some cell.cls := by rw [← k7]; exact hrc
  refine gx_back (mc := ab_mc y) (ms := ab_ms y) w hB S (va_runV (C := (ab_yn y).cls) (As := as.map (ab_em B)) (rest := st) ⟨hx1, hb1, hml, hown, hts⟩ hM ⟨cb, hts _ (ab_w_in k4), hts _ (ab_w_in k5)⟩ ⟨ab_blind, hrc2, hpc⟩ rfl (by rw [List.length_map]; exact hal) hl rfl (lv_room hst) hdec ⟨by rw [k9]; exact hce, by rw [k10]; exact hsl⟩) (fun rv h' H' locs' g1 g2 g3 g4 => ?_)
  rw [k9] at g2 ⊢
  rw [k10]
  exact hg rv h' H' locs' g1 g2 g3 g4
/-- a new object of the class: the first cell of a world at the heap's end -/
theorem gx_new {idx p1 p2 p3 : Nat} (C : gx_C cc nL p s m args c D cA) (hdec : decode cc pc = .ok (.new idx, 3)) (hw : (ab_w p1 (.classLink "FairBooksLaw" idx (ab_cn 7)) && (ab_w p2 (.instantiable (ab_cn 7) (ab_nf 7)) && ab_w p3 (.initialized (ab_cn 7)))) = true) (w : ab_Wd D cA B 0 0 h H) (hB : s.heap.size ≤ B) (S : va_S (fun q => s.heap.size ≤ q) s.heap H locs) (hce : cells + 1 ≤ R.cells) (hsl : slots + 6 ≤ R.slots)
    (hg : ∀ H', ab_Wd D cA B 1 0 (ab_hn h 0) H' → va_S (fun q => s.heap.size ≤ q) s.heap H' locs → W p l e R s m args below meth c H' locs (cells + 1) (slots + 6) Z (F0 m (pc + 3) ls (.ref (B + 0) :: st))) : W p l e R s m args below meth c H locs cells slots Z (F0 m pc ls st) := by
  obtain ⟨hx1, hb1, hml, hown, hts, hnw, hK⟩ := id C
  simp only [Bool.and_eq_true] at hw
  have hKn := hK.1 7 _ (ab_cl (show 7 < 8 by omega))
  have hS1 : H.size = B + 0 := by have := w.1.2; omega
  refine W.newcK hx1 hb1 hown (hts _ (ab_w_in hw.1)) (hts _ (ab_w_in hw.2.1)) (hts _ (ab_w_in hw.2.2)) rfl hdec hce hsl hKn.2.1 hS1 fun H1 kC hkC e1 z1 o1 => ?_
  refine hg H1 (w.new (by omega) (by omega) (fun q hq => o1 q (by omega)) ?_) ⟨Nat.le_trans S.1 (by omega), fun q h1 h2 => (o1 q (by have := S.1; omega)).trans (S.2.1 q h1 h2), S.2.2⟩
  rw [ab_ce_o (show 7 < 8 by omega) hh_0]
  refine ⟨_, ab_cl (show 7 < 8 by omega), (u_born (ab_ty 7) hts (ab_lays (show 7 < 8 by omega)) hKn hkC e1 (ab_tyo (show 7 < 8 by omega))).to (fun f hf => ?_)⟩
  show defaultValue (ab_ty 7 f) = (ab_ob B (ab_hn h 0) 0 7).getD f .null
  rw [List.getD_eq_getElem?_getD, ab_ob_at hf, ab_fv_new (show 7 < 8 by omega) hf]
  rfl
def gx_ckI (idx y p1 p2 p3 : Nat) : Bool := ab_w p1 (.methodLink "FairBooksLaw" idx (ab_yn y)) && (ab_w p2 (.instanceMethod (ab_yn y)) && (ab_w p3 (.initialized (ab_yn y).cls) && (decide ((ab_yn y).name = "<init>") && (decide (ab_rt y = none) && decide ((parseMethodDescriptor (ab_yn y).desc).map (fun d => d.parameters.length) = some 0)))))
set_option maxHeartbeats 1000000 in
theorem gx_I {idx y p1 p2 p3 d k : Nat} {Q2 : Option Value → ab_H → Prop} (C : gx_C cc nL p s m args c D cA) (hck : gx_ckI idx y p1 p2 p3 = true) (hy : 2 ≤ y ∧ y < 131) (hdec : decode cc pc = .ok (.invokespecial idx, 3)) (hcall : ab_C d y n [.ref k] h Q2) (hx : ab_mc y ≠ 0 → xx = 0) (w : ab_Wd D cA B n xx h H) (hB : s.heap.size ≤ B) (S : va_S (fun q => s.heap.size ≤ q) s.heap H locs) (hl : ls.size = nL) (hst : (st.map fun v => v.category).sum ≤ 8) (hR : d + 1 ≤ R.frames ∧ 40 * d + 39 ≤ R.locals) (hce : cells + ab_mc y ≤ R.cells) (hsl : slots + ab_ms y ≤ R.slots)
    (hg : ∀ r h' H' locs', Q2 r h' → ab_Wd D cA B (n + ab_mc y) xx h' H' → va_S (fun q => s.heap.size ≤ q) s.heap H' locs' → (∀ q, q < H.size → (q < B ∨ B + 192 ≤ q) → H'[q]? = H[q]?) → W p l e R s m args below meth c H' locs' (cells + ab_mc y) (slots + ab_ms y) Z (F0 m (pc + 3) ls ((r.map (ab_em B)).toList ++ st))) : W p l e R s m args below meth c H locs cells slots Z (F0 m pc ls (.ref (B + k) :: st)) := by
  obtain ⟨hx1, hb1, hml, hown, hts, hnw, hK⟩ := id C
  simp only [gx_ckI, Bool.and_eq_true, decide_eq_true_eq] at hck
  obtain ⟨k1, k2, k3, k4, k5, k6⟩ := hck
  obtain ⟨y1, y2, y3, y4, y5⟩ := ab_yok hy
  have hM := hcall d (Nat.le_refl _) l D cA B xx hx
  have hpc := gx_pc (as := [.ref k]) C w
  rw [k5] at hM y1
  have cb := callB_of (R := R) (rm := { frames := d, cells := ab_mc y, slots := ab_ms y, locals := 40 * d }) 0 hts (ab_good y1) rfl rfl rfl (hts _ (ab_w_in k3)) (hts _ (ab_w_in k1)) ⟨y3, y4, k6⟩ ⟨by show d + 1 ≤ R.frames; omega, by show 8 + (ab_ml y + 11) + 40 * d ≤ R.locals; omega⟩
  exact gx_back (mc := ab_mc y) (ms := ab_ms y) w hB S (va_runI (As := []) (rest := st) ⟨hx1, hb1, hml, hown, hts⟩ hM ⟨cb, k4, hts _ (ab_w_in k2)⟩ ⟨ab_blind, hpc⟩ rfl rfl hl rfl (lv_room hst) hdec ⟨hce, hsl⟩) hg
end
/-- a world without cells lies at the end of every heap -/
theorem gx_none {D : va_G} {cA : ClassId} {h : ab_H} {H : Heap} : ab_Wd D cA H.size 0 0 h H := ⟨⟨Nat.zero_le _, rfl⟩, fun k hk => absurd hk (Nat.not_lt_zero k)⟩
set_option maxRecDepth 100000 in
set_option maxHeartbeats 4000000 in
theorem sp_Law_part {x y : Int32} {h : ab_H} {Q : Option Value → ab_H → Prop} (hy : ¬ y = Int32.ofInt 0) (hq : ∀ r, Q (some (.int r)) h) : ab_C 0 yn_Law_part 192 [.int x, .int y] h Q := by
  refine ab_of ⟨Nat.le_of_ble_eq_true rfl, Nat.le_of_ble_eq_true rfl⟩ (by simp [Value.category]) (Nat.le_of_ble_eq_true rfl) ?_
  show ab_W 0 yn_Law_part 0 192 0 0 [some (.int x), some (.int y)] [] h Q
  refine ab_go [] 5 bo_Law_part ?_
  simp -implicitDefEqProofs (disch := omega) only [↓ev_rn, ↓ev_iand, ↓ev_iload_0, ↓ev_iload_1, ↓ev_irem, ↓ev_ireturn_0, ↓ev_ldc, ↓ev_nop, bq_Law_part_0, bk_Law_part_0, ↓reduceIte, false_and, and_false, List.not_mem_nil, List.mem_cons, or_false, or_true, true_or, false_or, Nat.reduceEqDiff, ab_ac, ab_ar, Nat.reduceSub, Nat.reduceLeDiff, Nat.reduceAdd, Nat.reduceLT, Int.cast_ofNat_Int, Int.ofNat_toNat, Int.toNat_natCast, ii_0, ii_1, ii_add, ii_sub, ii_mul, ii_neg, ii_lt, ii_le, ii_eq, ii_cl, ii_in, dc_lt_t, dc_lt_f, dc_le_t, dc_le_f, dc_eq_t, dc_eq_f, dn_lt_t, dn_le_t, dn_eq_t, dn_eq_f, hi_1, hi_2, and_self, Option.isSome_none, Option.isSome_some, Bool.false_eq_true, ii_s, ii_m, ii_mn, ii_2, st1_, st1_i, st1_r, st1_ii, st1_ir, st1_ri, st1_rr, st1_iii, st1_iir, st1_iri, st1_irr, st1_rii, st1_rir, st1_rri, st1_rrr, st1_iiii, st1_iiir, st1_iiri, st1_iirr, st1_irii, st1_irir, st1_irri, st1_irrr, st1_riii, st1_riir, st1_riri, st1_rirr, st1_rrii, st1_rrir, st1_rrri, st1_rrrr, st1_iiiii, st1_iiiir, st1_iiiri, st1_iiirr, st1_iirii, st1_iirir, st1_iirri, st1_iirrr, st1_iriii, st1_iriir, st1_iriri, st1_irirr, st1_irrii, st1_irrir, st1_irrri, st1_irrrr, st1_riiii, st1_riiir, st1_riiri, st1_riirr, st1_ririi, st1_ririr, st1_rirri, st1_rirrr, st1_rriii, st1_rriir, st1_rriri, st1_rrirr, st1_rrrii, st1_rrrir, st1_rrrri, st1_rrrrr, Option.toList_some, Option.toList_none, List.cons_append, List.nil_append, true_and, and_true, true_implies, false_implies, not_true_eq_false, not_false_eq_true, implies_true, eq_self, hy]
  exact hq _
