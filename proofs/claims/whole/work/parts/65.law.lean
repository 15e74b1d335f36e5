/-! ===== the law: its calls of the abstract machine's methods ===== -/
def lw_w (pos : Nat) (w : Jvm.Cond) : Bool := decide (lw_tbl[pos]? = some w)
theorem lw_w_in {pos : Nat} {w : Jvm.Cond} (h : lw_w pos w = true) : w ∈ lw_tbl := List.mem_of_getElem? (of_decide_eq_true h)
def lw_dc (pc : Nat) (i : Instr) (len : Nat) : Bool := decide (decode code pc = .ok (i, len))
theorem lw_dc_of {pc len : Nat} {i : Instr} (h : lw_dc pc i len = true) : decode code pc = .ok (i, len) := of_decide_eq_true h
def lw_ag (pc j : Nat) : Bool := lw_dc pc (.aload_n 0) 1 && (lw_dc (pc + 1) (.iload_n 3) 1 && (lw_dc (pc + 2) (.iconst (j : Int)) 1 && (lw_dc (pc + 3) .iadd 1 && lw_dc (pc + 4) .iaload 1)))
def lw_cl (pc na : Nat) (r : Nat × Nat × Nat × Nat × Nat × Nat) (ci : Nat) : Bool :=
  lw_dc pc (.invokevirtual r.1) 3 && (decide (2 ≤ r.2.1) && (decide (r.2.1 < 205) && (lw_w r.2.2.1 (.methodLink R_law r.1 (ab_yn r.2.1)) && (lw_w r.2.2.2.1 (.instanceMethod (ab_yn r.2.1)) && (lw_w r.2.2.2.2.1 (.selects (ab_yn r.2.1).cls (ab_yn r.2.1) (ab_yn r.2.1)) && (lw_w r.2.2.2.2.2 (.initialized (ab_yn r.2.1).cls) &&
    (decide (ab_cn ci = (ab_yn r.2.1).cls) && (decide ((parseMethodDescriptor (ab_yn r.2.1).desc).map (fun d => d.parameters.length) = some na) && (decide (ab_mc r.2.1 = 0) && decide (ab_ms r.2.1 = 0))))))))))
def lw_sg (pc n : Nat) (r1 : Nat × Nat × Nat × Nat × Nat × Nat) (c1 : Nat) (r2 : Nat × Nat × Nat × Nat × Nat × Nat) (c2 : Nat) : Bool :=
  lw_dc pc (.aload_n 1) 1 && ((List.range n).all (fun k => lw_ag (pc + 1 + 5 * k) (1 + k)) && (lw_cl (pc + 1 + 5 * n) n r1 c1 && (lw_dc (pc + 4 + 5 * n) (.aload_n 2) 1 && ((List.range n).all (fun k => lw_ag (pc + 5 + 5 * n + 5 * k) (1 + k)) && (lw_cl (pc + 5 + 10 * n) n r2 c2 &&
    lw_dc (pc + 8 + 10 * n) (.if_icmp .eq (913 - ((pc + 8 + 10 * n : Nat) : Int))) 3)))))
/-- what the law knows of its frame -/
def lw_Cx (p : Program) (s : State) (m : MethodId) (meth : Method) (c : Code) (b L : Nat) (xs : Nat → Int32) (D : va_G) (cA : ClassId) : Prop :=
  p.tables.exec = Jvm.exec ∧ c.code = code ∧ meth.sig.returnType = ret ∧ c.maxLocals = 4 ∧ s.vm.findClass R_law = some m.cls ∧ (∀ w ∈ lw_tbl, w.before #[Value.ref b] s = true) ∧ (∀ w ∈ ab_nw, va_Nw w s) ∧ va_K D vwCl [(cA, .int)] s ∧ va_X b L xs s s.heap ∧ b < s.heap.size ∧ meth.locks = false
theorem lw_Tg {w : Jvm.Cond} (h : w ∈ ab_Tg) : w ∈ lw_tbl := (List.mem_filter.mp h).1
theorem lw_back {n mc ms : Nat} {h : ab_H} {Q' : Option Value → ab_H → Prop} {p : Program} {l : Launch} {e : Env} {R : Room} {s : State} {m : MethodId} {args : Array Value} {below : List Frame} {meth : Method} {c : Code} {D : va_G} {cA : ClassId} {H : Heap} {locs : List Loc} {cells slots pc : Nat} {Z : State → Prop} {lsr : Array Slot} {st st0 : List Value} {a : Array Value}
    (w : ab_Wd D cA s.heap.size n h H) (S : ab_S s.heap.size s.heap H locs)
    (hr : va_Run p l e R s m args below meth c H locs cells slots mc ms (F0 m pc lsr st0) st (ab_Qc D cA s.heap.size (n + mc) Q' a) (fun q => s.heap.size ≤ q))
    (hk : ∀ r h' H' locs', Q' r h' → ab_Wd D cA s.heap.size (n + mc) h' H' → ab_S s.heap.size s.heap H' locs' → W p l e R s m args below meth c H' locs' (cells + mc) (slots + ms) Z (F0 m (pc + 3) lsr ((r.map (ab_em s.heap.size)).toList ++ st))) : W p l e R s m args below meth c H locs cells slots Z (F0 m pc lsr st0) := by
  intro T hT X
  obtain ⟨v, s0, t, T', L', g0, X', hL, g1, g2, ⟨r, h', hv, hq, hw, ho⟩, g⟩ := hr T hT X
  have hv' : v = r.map (ab_em s.heap.size) := by cases hv; rfl
  subst hv'
  have hz : T'.heap.size = s.heap.size + (n + mc) := by rw [g1]; exact hw.1
  have hz0 : H.size = s.heap.size + n := w.1
  have S' : ab_S s.heap.size s.heap T'.heap (locs ++ L') := by
    refine ⟨Nat.le_trans S.1 (by omega), fun q e1 e2 => ?_, fun q hq => ?_⟩
    · have hqb : q < s.heap.size := Nat.not_le.mp e2
      rw [g1, ho q hqb, g0]
      exact S.2.1 q e1 e2
    · rcases List.mem_append.mp hq with z | z
      · exact S.2.2 q z
      · exact hL q z
  obtain ⟨t2, a1, b1⟩ := hk r h' T'.heap (locs ++ L') hq (by rw [g1]; exact hw) S' T' rfl X'
  exact ⟨t2, g t2 a1, b1⟩
section
variable {p : Program} {l : Launch} {e : Env} {s : State} {m : MethodId} {below : List Frame} {meth : Method} {c : Code} {b L : Nat} {xs : Nat → Int32} {D : va_G} {cA : ClassId} {Z : State → Prop} {H : Heap} {locs : List Loc} {cells slots : Nat} {ls : Array Slot} {h : ab_H}
theorem lw_pc {n : Nat} {as : List Value} (C : lw_Cx p s m meth c b L xs D cA) (w : ab_Wd D cA s.heap.size n h H) : ∀ U : State, U.heap = H → s.WarmedH U.vm → ab_Pc D cA s.heap.size n as h (as.map (ab_em s.heap.size)).toArray U := by
  intro U hU hW
  obtain ⟨hx1, hb1, hr1, hml, hown, hts, hnw, hK, hX, hbl, hlk⟩ := C
  exact ⟨rfl, by rw [hU, w.1]; omega, by rw [hU]; exact w, va_K.moved hW.alike hK, fun z hz => ab_nw_warm hW hz (hnw z hz)⟩
set_option maxHeartbeats 1000000 in
theorem lw_call {pc na ci k d : Nat} {r : Nat × Nat × Nat × Nat × Nat × Nat} {as : List Value} {st : List Value} {Q2 : Option Value → ab_H → Prop} (C : lw_Cx p s m meth c b L xs D cA) (hcl : lw_cl pc na r ci = true) (hc : ci < 9) (hs : ab_sh k = ci) (hk : k < 200) (hal : as.length = na) (hd : d ≤ 10) (hcall : ab_C d r.2.1 200 (.ref k :: as) h Q2) (w : ab_Wd D cA s.heap.size 200 h H) (S : ab_S s.heap.size s.heap H locs) (hl : ls.size = 4) (hst : (st.map fun v => v.category).sum ≤ 8) (hce : cells ≤ 200) (hsl : slots ≤ 5573)
    (hg : ∀ rv h' H' locs', Q2 rv h' → ab_Wd D cA s.heap.size 200 h' H' → ab_S s.heap.size s.heap H' locs' → W p l e room_1 s m #[Value.ref b] below meth c H' locs' cells slots Z (F0 m (pc + 3) ls ((rv.map (ab_em s.heap.size)).toList ++ st))) : W p l e room_1 s m #[Value.ref b] below meth c H locs cells slots Z (F0 m pc ls ((as.map (ab_em s.heap.size)).reverse ++ .ref (s.heap.size + k) :: st)) := by
  obtain ⟨hx1, hb1, hr1, hml, hown, hts, hnw, hK, hX, hbl, hlk⟩ := id C
  simp only [lw_cl, Bool.and_eq_true, decide_eq_true_eq] at hcl
  obtain ⟨k0, k1, k2, k3, k4, k5, k6, k7, k8, k9, k10⟩ := hcl
  obtain ⟨y1, y2, y3, y4, y5⟩ := ab_yok ⟨k1, k2⟩
  have hts2 : ∀ w ∈ ab_Tg, w.before #[Value.ref b] s = true := fun w hw => hts w (lw_Tg hw)
  have hM := hcall d (Nat.le_refl _) l D cA s.heap.size
  have hpc := lw_pc (as := .ref k :: as) C w
  have cb := callB_of (R := room_1) (rm := { frames := d, cells := ab_mc r.2.1, slots := ab_ms r.2.1, locals := 40 * d }) na hts2 (ab_good y1) rfl rfl rfl (hts _ (lw_w_in k6)) (hts _ (lw_w_in k3)) ⟨y3, y4, k8⟩ ⟨by show d + 1 ≤ 13; omega, by show 8 + (ab_ml r.2.1 + 11) + 40 * d ≤ 502; omega⟩
  have hP := w.one hk
  rw [ab_ce_o hc hs] at hP
  have hrc := va_recv hK hP (q0 := 0) (ab_cl hc) rfl
  have hrc2 : ∃ cell : Cell, H[s.heap.size + k]? = some cell ∧ cell.vm.isStatics = false ∧ s.vm.findClass (ab_yn r.2.1).cls = some cell.cls := by rw [← k7]; exact hrc
  refine lw_back (mc := ab_mc r.2.1) (ms := ab_ms r.2.1) w S (va_runV (C := (ab_yn r.2.1).cls) (As := as.map (ab_em s.heap.size)) (rest := st) ⟨hx1, hb1, hml, hown, hts2⟩ hM ⟨cb, hts _ (lw_w_in k4), hts _ (lw_w_in k5)⟩ ⟨ab_blind, hrc2, hpc⟩ rfl (by rw [List.length_map]; exact hal) hl rfl (lv_room hst) (lw_dc_of k0) ⟨by show cells + ab_mc r.2.1 ≤ 200; omega, by show slots + ab_ms r.2.1 ≤ 5573; omega⟩) (fun rv h' H' locs' g1 g2 g3 => ?_)
  rw [k9] at g2 ⊢
  rw [k10]
  exact hg rv h' H' locs' g1 g2 g3
/-- the locals of the law: its script, the two objects, its place -/
abbrev lw_L (s : State) (b : Nat) (x : Int32) : List (Nat × Value) := [(3, .int x), (2, .ref (s.heap.size + 192)), (1, .ref (s.heap.size + 0)), (0, .ref b)]
def lw_a (xs : Nat → Int32) (i j : Nat) : Value := .int (xs (i + j))
theorem lw_arg {pc j i : Nat} {st : List Value} (C : lw_Cx p s m meth c b L xs D cA) (hag : lw_ag pc j = true) (S : ab_S s.heap.size s.heap H locs) (hl : lv_has ls 4 (lw_L s b (Int32.ofInt i))) (hi : i + j < L) (hL : L ≤ 2560)
    (hg : W p l e room_1 s m #[Value.ref b] below meth c H locs cells slots Z (F0 m (pc + 5) ls (lw_a xs i j :: st))) : W p l e room_1 s m #[Value.ref b] below meth c H locs cells slots Z (F0 m pc ls st) := by
  obtain ⟨hx1, hb1, hr1, hml, hown, hts, hnw, hK, hX, hbl, hlk⟩ := id C
  simp only [lw_ag, Bool.and_eq_true] at hag
  obtain ⟨k0, k1, k2, k3, k4⟩ := hag
  refine lv_aload_n hx1 hb1 (lw_dc_of k0) rfl (lv_at hl 3 rfl) ?_
  refine lv_iload_n hx1 hb1 (lw_dc_of k1) rfl (lv_at hl 0 rfl) ?_
  refine lv_iconst hx1 hb1 (lw_dc_of k2) rfl ?_
  refine lv_iadd hx1 hb1 (lw_dc_of k3) ?_
  rw [ii_add, show (i : Int) + (j : Int) = ((i + j : Nat) : Int) from rfl]
  refine va_sld (A := fun q => s.heap.size ≤ q) hx1 hb1 hX hbl (Nat.not_le.mpr hbl) S (ii_in (by omega) (by omega) (by omega) |>.mpr trivial) (lw_dc_of k4) ?_
  rw [ii_cl (by omega) (by omega), Int.toNat_natCast]
  exact hg
theorem lw_args {i : Nat} (C : lw_Cx p s m meth c b L xs D cA) (S : ab_S s.heap.size s.heap H locs) (hl : lv_has ls 4 (lw_L s b (Int32.ofInt i))) (hL : L ≤ 2560) : ∀ (n j pc : Nat) (st : List Value), i + j + n ≤ L → (∀ k, k < n → lw_ag (pc + 5 * k) (j + k) = true) →
    W p l e room_1 s m #[Value.ref b] below meth c H locs cells slots Z (F0 m (pc + 5 * n) ls (((List.range' j n).map (lw_a xs i)).reverse ++ st)) → W p l e room_1 s m #[Value.ref b] below meth c H locs cells slots Z (F0 m pc ls st)
  | 0, j, pc, st, _, _, hg => hg
  | n + 1, j, pc, st, h1, h2, hg => by
    refine lw_arg C (h2 0 (by omega)) S hl (by omega) hL ?_
    refine lw_args C S hl hL n (j + 1) (pc + 5) (lw_a xs i j :: st) (by omega) (fun k hk => by have := h2 (k + 1) (by omega); rw [show pc + 5 * (k + 1) = pc + 5 + 5 * k by omega, show j + (k + 1) = j + 1 + k by omega] at this; exact this) ?_
    rw [show pc + 5 + 5 * n = pc + 5 * (n + 1) by omega]
    rw [List.range'_succ, List.map_cons, List.reverse_cons, List.append_assoc] at hg
    exact hg
/-- one call of the law: both objects are asked, both answer alike -/
theorem lw_pair {pc n i d1 d2 : Nat} {r1 r2 : Nat × Nat × Nat × Nat × Nat × Nat} {v : Int32} {P1 P2 : ab_H → Prop} (C : lw_Cx p s m meth c b L xs D cA) (hsg : lw_sg pc n r1 7 r2 8 = true) (hn : n ≤ 4) (hi : i + 5 ≤ L) (hL : L ≤ 2560) (w : ab_Wd D cA s.heap.size 200 h H) (S : ab_S s.heap.size s.heap H locs) (hl : lv_has ls 4 (lw_L s b (Int32.ofInt i))) (hd1 : d1 ≤ 10) (hd2 : d2 ≤ 10) (hce : cells ≤ 200) (hsl : slots ≤ 5573)
    (h1 : ab_C d1 r1.2.1 200 (.ref 0 :: (List.range' 1 n).map (lw_a xs i)) h (fun rv h' => rv = some (.int v) ∧ P1 h'))
    (h2 : ∀ h', P1 h' → ab_C d2 r2.2.1 200 (.ref 192 :: (List.range' 1 n).map (lw_a xs i)) h' (fun rv h' => rv = some (.int v) ∧ P2 h'))
    (hg : ∀ h' H' locs', P2 h' → ab_Wd D cA s.heap.size 200 h' H' → ab_S s.heap.size s.heap H' locs' → W p l e room_1 s m #[Value.ref b] below meth c H' locs' cells slots Z (F0 m 913 ls [])) : W p l e room_1 s m #[Value.ref b] below meth c H locs cells slots Z (F0 m pc ls []) := by
  obtain ⟨hx1, hb1, hr1, hml, hown, hts, hnw, hK, hX, hbl, hlk⟩ := id C
  simp only [lw_sg, Bool.and_eq_true, List.all_eq_true, List.mem_range] at hsg
  obtain ⟨k0, k1, k2, k3, k4, k5, k6⟩ := hsg
  have em : ((List.range' 1 n).map (lw_a xs i)).map (ab_em s.heap.size) = (List.range' 1 n).map (lw_a xs i) := by rw [List.map_map]; rfl
  have el : ((List.range' 1 n).map (lw_a xs i)).length = n := by rw [List.length_map, List.length_range']
  refine lv_aload_n hx1 hb1 (lw_dc_of k0) rfl (lv_at hl 2 rfl) ?_
  refine lw_args C S hl hL n 1 (pc + 1) _ (by omega) k1 ?_
  have c1 := lw_call (Z := Z) (ls := ls) (cells := cells) (slots := slots) (l := l) (e := e) (below := below) (st := []) C k2 (show 7 < 9 by omega) ab_sh_0 (by omega) el hd1 h1 w S hl.1 (by decide) hce hsl (fun rv h' H' locs' g1 g2 g3 => ?_)
  · rw [em] at c1
    exact c1
  · obtain ⟨rfl, p1⟩ := g1
    rw [show pc + 1 + 5 * n + 3 = pc + 4 + 5 * n by omega]
    refine lv_aload_n hx1 hb1 (lw_dc_of k3) rfl (lv_at hl 1 rfl) ?_
    rw [show pc + 4 + 5 * n + 1 = pc + 5 + 5 * n by omega]
    refine lw_args C g3 hl hL n 1 (pc + 5 + 5 * n) _ (by omega) k4 ?_
    have c2 := lw_call (Z := Z) (ls := ls) (cells := cells) (slots := slots) (l := l) (e := e) (below := below) (st := [.int v]) C k5 (show 8 < 9 by omega) hh_192 (by omega) el hd2 (h2 h' p1) g2 g3 hl.1 (by show 1 + 0 ≤ 8; omega) hce hsl (fun rv h2 H2 locs2 q1 q2 q3 => ?_)
    · rw [em] at c2
      rw [show pc + 5 + 5 * n + 5 * n = pc + 5 + 10 * n by omega]
      exact c2
    · obtain ⟨rfl, p2⟩ := q1
      rw [show pc + 5 + 10 * n + 3 = pc + 8 + 10 * n by omega]
      refine lv_icmp_eq (tgt := 913) hx1 hb1 (lw_dc_of k6) (by omega) (fun _ => hg h2 H2 locs2 p2 q2 q3) (fun q => absurd rfl q)
end
